/-! THE LAW'S WALK up to its loop -/
section Go
variable {κ : Kd} {N b Ln : Nat} {xs : Nat → Int32} {gr ca sl : Nat} {h : Hp} {pc : Nat} {L : List (Option Value)} {rest : List Value}
theorem LW.newA {ci : Nat} {C : String} {T : u_T} {NF : Nat} {ty : Nat → FieldType} (ok : Cok ci C T NF ty) {idx : Nat} {fs : List Value} (x : Nat) (hx : N + gr = x) (hlk : Cond.classLink RL idx C ∈ BG) (hins : Cond.instantiable C NF ∈ BG) (hini : Cond.initialized C ∈ BG) (hdg : decode code pc = .ok (.new idx, 3)) (hfs : ∀ j, j < NF → defaultValue (ty j) = vp_V fs j) (hm : ca + 1 ≤ 601024 ∧ sl + NF ≤ 7293034)
    (k : ∀ h' : Hp, h' x = some (.inr (ci, fs)) → (∀ b : Nat, b ≠ x → h' b = h b) → LW κ N b Ln xs (gr + 1) (ca + 1) (sl + NF) h' (pc + 3) L (.ref x :: rest)) : LW κ N b Ln xs gr ca sl h pc L rest := by
  subst hx
  exact LW.new ok hlk hins hini hdg hfs hm (k _ up_s (fun b hb => up_n hb))
theorem LW.newJA {n : Int32} {M : Nat} (x : Nat) (hx : N + gr = x) (harr : Cond.arrayClass .long ∈ BG) (hdg : decode code pc = .ok (.newarray .long, 2)) (hn1 : ¬ n < 0) (hN : n.toNatClampNeg = M) (hby : M * 8 ≤ 536870912) (hm : ca + 1 ≤ 601024 ∧ sl + M ≤ 7293034)
    (k : ∀ h' : Hp, h' x = some (.inl (1, M, .inr (.inl (fun _ => 0)))) → (∀ b : Nat, b ≠ x → h' b = h b) → LW κ N b Ln xs (gr + 1) (ca + 1) (sl + M) h' (pc + 2) L (.ref x :: rest)) : LW κ N b Ln xs gr ca sl h pc L (.int n :: rest) := by
  subst hx
  exact LW.newJ harr hdg hn1 hN hby hm (k _ up_s (fun b hb => up_n hb))
theorem hfs11 : ∀ j, j < 16 → defaultValue (tyX11 j) = vp_V [.null, .int 0, .null, .null, .null, .null, .null, .int 0, .null, .null, .null, .null, .null, .null, .null, .null] j := (fun j hj => match j, hj with | 0, _ => rfl | 1, _ => rfl | 2, _ => rfl | 3, _ => rfl | 4, _ => rfl | 5, _ => rfl | 6, _ => rfl | 7, _ => rfl | 8, _ => rfl | 9, _ => rfl | 10, _ => rfl | 11, _ => rfl | 12, _ => rfl | 13, _ => rfl | 14, _ => rfl | 15, _ => rfl | n + 16, h => absurd h (by omega))
theorem hfs12 : ∀ j, j < 65 → defaultValue (tyX12 j) = vp_V [.int 0, .null, .int 0, .null, .null, .null, .null, .null, .null, .null, .null, .null, .null, .null, .null, .null, .null, .null, .null, .null, .int 0, .int 0, .int 0, .int 0, .int 0, .int 0, .int 0, .int 0, .int 0, .int 0, .int 0, .int 0, .int 0, .null, .null, .int 0, .null, .null, .null, .null, .null, .null, .null, .null, .int 0, .int 0, .int 0, .int 0, .int 0, .int 0, .null, .null, .null, .int 0, .null, .int 0, .int 0, .null, .null, .null, .null, .null, .null, .null, .null] j := (fun j hj => match j, hj with | 0, _ => rfl | 1, _ => rfl | 2, _ => rfl | 3, _ => rfl | 4, _ => rfl | 5, _ => rfl | 6, _ => rfl | 7, _ => rfl | 8, _ => rfl | 9, _ => rfl | 10, _ => rfl | 11, _ => rfl | 12, _ => rfl | 13, _ => rfl | 14, _ => rfl | 15, _ => rfl | 16, _ => rfl | 17, _ => rfl | 18, _ => rfl | 19, _ => rfl | 20, _ => rfl | 21, _ => rfl | 22, _ => rfl | 23, _ => rfl | 24, _ => rfl | 25, _ => rfl | 26, _ => rfl | 27, _ => rfl | 28, _ => rfl | 29, _ => rfl | 30, _ => rfl | 31, _ => rfl | 32, _ => rfl | 33, _ => rfl | 34, _ => rfl | 35, _ => rfl | 36, _ => rfl | 37, _ => rfl | 38, _ => rfl | 39, _ => rfl | 40, _ => rfl | 41, _ => rfl | 42, _ => rfl | 43, _ => rfl | 44, _ => rfl | 45, _ => rfl | 46, _ => rfl | 47, _ => rfl | 48, _ => rfl | 49, _ => rfl | 50, _ => rfl | 51, _ => rfl | 52, _ => rfl | 53, _ => rfl | 54, _ => rfl | 55, _ => rfl | 56, _ => rfl | 57, _ => rfl | 58, _ => rfl | 59, _ => rfl | 60, _ => rfl | 61, _ => rfl | 62, _ => rfl | 63, _ => rfl | 64, _ => rfl | n + 65, h => absurd h (by omega))
theorem lw_go (hLn : Ln ≤ 3072) : LW κ N b Ln xs 0 0 0 (fun _ => none) 0 [some (.ref b), none, none, none, none, none, none] [] := by
  refine LW.newA okX11 N rfl cl_L_8 ins_X11 ini_X11 dL_law_0 hfs11 ⟨by omega, by omega⟩ (fun g1 e1 o1 => ?_)
  refine LW.dup dL_law_3 rfl ?_
  refine LW.callI (Yc := MX11_init) (d' := 200) (mc' := 123) (ms' := 2823) (As := []) (q := N) yoX11_init rfl rfl ml_L_17 im_X11_init dL_law_4 rfl rfl (Nat.le_of_ble_eq_true rfl) (by decide) ⟨by omega, by omega⟩ rfl (Nat.le_of_ble_eq_true rfl) (ini11_V (by decide) rfl e1) ?_
  rintro v g2 ⟨rfl, hB, o2⟩
  refine LW.astore_n dL_law_7 (by decide) rfl ?_
  refine LW.newA okX12 (N + 124) rfl cl_L_18 ins_X12 ini_X12 dL_law_8 hfs12 ⟨by omega, by omega⟩ (fun g3 e3 o3 => ?_)
  refine LW.dup dL_law_11 rfl ?_
  refine LW.callI (Yc := MX12_init) (d' := 200) (mc' := 40) (ms' := 5921) (As := []) (q := N + 124) yoX12_init rfl rfl ml_L_20 im_X12_init dL_law_12 rfl rfl (Nat.le_of_ble_eq_true rfl) (by decide) ⟨by omega, by omega⟩ rfl (Nat.le_of_ble_eq_true rfl) (ini12_V (by decide) rfl e3) ?_
  rintro v g4 ⟨rfl, ⟨s', hR, hf, hr, hz⟩, o4⟩
  refine LW.astore_n dL_law_15 (by decide) rfl ?_
  refine LW.iconst dL_law_16 rfl ?_
  refine LW.newJA (M := 1) (N + 165) rfl ac_long dL_law_17 (by decide) (by decide) (by decide) ⟨by omega, by omega⟩ (fun g5 e5 o5 => ?_)
  refine LW.astore_n dL_law_19 (by decide) rfl ?_
  refine LW.iconst dL_law_20 rfl ?_
  refine LW.istore dL_law_21 (by decide) rfl ?_
  exact lw_loop hLn 512 0 _ _ _ (zB0 N) s' (fun _ => 0) (INV.start hf hr hz) (by omega) (by omega) (by omega) (by omega) g5
    ⟨hB.kept (fun b b1 b2 => (o5 b (by omega)).trans ((o4 b (by omega)).trans (o3 b (by omega)))), hR.kept C12_ok (fun b b1 b2 => o5 b (by have b3 : b < N + 124 + 41 := b2; omega)), e5⟩
end Go
