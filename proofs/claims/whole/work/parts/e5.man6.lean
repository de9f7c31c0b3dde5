/-! THE MAN, 6: the law's call of it, and the law's case -/
theorem nx_tbl : ∀ w ∈ NX, w ∈ lw_tbl := by
  intro w hw
  unfold NX at hw
  simp only [List.mem_cons, List.not_mem_nil, or_false] at hw
  rcases hw with rfl | rfl | rfl | rfl | rfl
  · exact List.mem_append_right _ (List.mem_of_getElem? (i := 1154) (by decide +kernel))
  · exact List.mem_append_right _ (List.mem_of_getElem? (i := 1156) (by decide +kernel))
  · exact List.mem_append_right _ (List.mem_of_getElem? (i := 1158) (by decide +kernel))
  · exact List.mem_append_right _ (List.mem_of_getElem? (i := 1152) (by decide +kernel))
  · exact List.mem_append_right _ (List.mem_of_getElem? (i := 1219) (by decide +kernel))
theorem nc_flat : Cond.not (.castable eN eI) ∈ flatC (Jvm.Cond.and given_1 narrow_1) := by decide +kernel
section CallMan
variable {κ : Kd} {N b Ln : Nat} {xs : Nat → Int32} {gr ca sl : Nat} {h : Hp} {pc : Nat} {L : List (Option Value)} {rest : List Value}
theorem LFx.xk {p : Program} {l : Launch} {s : State} {m : MethodId} {meth : Method} {c : Code} (hF : LFx κ N b Ln xs p l s m meth c) : XK (lwA N) s s.heap := by
  obtain ⟨f1, f2, f3, f4, f5, f6, f7, f9, f10, f11, f12, f13, f14, f15, f16, f17, f18⟩ := hF
  exact ⟨fun w hw => va_Nw.of (nx_tab w hw) (f15 w (nx_tbl w hw)), va_Nc.of (flat_of_before _ f18 _ nc_flat), f16, f17⟩
theorem LW.callMan {P : Int32 → Hp → Prop} {As : List Value} {Lc : List (Option Value)} {st : List Value} (hdg : decode code pc = .ok (.invokestatic 39, 3)) (hst : st = As.reverse ++ rest) (hn : As.length = 4) (hrm : (rest.map fun v => v.category).sum ≤ 8) (hm : ca + 1 ≤ 601024 ∧ sl + 6 ≤ 7293034)
    (hLc : padL 5 (entA As) = Lc) (hle : (lg_sl As).length ≤ 5) (hV : VX ML (rmO 1000 1 6) (N + gr) κ lmT (finL P) 0 0 0 h 0 Lc [])
    (kk : ∀ (r : Int32) (h' : Hp) (gr' : Nat), P r h' → LW κ N b Ln xs gr' (ca + 1) (sl + 6) h' (pc + 3) L (.int r :: rest)) : LW κ N b Ln xs gr ca sl h pc L st := by
  subst hst
  subst hLc
  intro p l e s m below meth c G aC H locs ls hF hK hR hz hS hL
  obtain ⟨ws, hP, hD, hC⟩ := hR
  have hXK := hF.xk
  obtain ⟨f1, f2, f3, f4, f5, f6, f7, f9, f10, f11, f12, f13, f14, f15⟩ := id hF
  have hA : ∀ q : Nat, s.heap.size ≤ q → lwA N q := fun q hq => by rw [f10] at hq; exact hq
  have hpr := VX.pre (As := As) f9 hK f11 hXK hA f10 hP hD hz hS
  have hB : ∀ q, va_A ws (N + gr) q → lwA N q := vA_in hD (n0 := N) (fun q hq => hq) (by omega)
  have cw : vx_CSW room_1 s #[Value.ref b] RL 39 yL_man cL_man 5 (some .int) lmH wsL (rmO 1000 1 6) 1 6 4 := vx_cwSW (Ts := BG) (ws' := BG) 4 f5 (fun w h => by
    rcases List.mem_append.mp h with h | h
    · simp only [List.mem_cons, List.not_mem_nil, or_false] at h
      rcases h with rfl | rfl | rfl
      · exact bg_good [] _ ml_L_39
      · exact bg_good [] _ st_L_man
      · exact bg_good [] _ ini_L
    · exact wsL_good w h) rfl rfl rfl ⟨by decide +kernel, by decide +kernel, by decide +kernel⟩ ⟨by show 1000 + 1 ≤ 2048; omega, by show 8 + (5 + 11) + 41 * 1000 ≤ 84000; omega⟩
  have hr := vx_runSX (cells := ca) (slots := sl) (p := p) (e := e) (R := room_1) (below := below) (meth := meth) (locs := locs) (rest := rest) (g := F0 m pc ls (As.reverse ++ rest)) (Ts := BG) (own := RL) (cc := code) (nL := 7) ⟨f1, f2, f3, f4, f5⟩ (lm_met hle f14 hC hV) cw hpr rfl hn (lh_size hL) rfl (lv_room hrm) hdg hm
  refine vx_calli hr hS (fun q _ hq => hB q hq) (fun q hq => hB q hq) (fun q _ hq => hB q hq) (fun E' ce q9 u t H1 locs1 ht hvm hp => hp.elim) (fun r h' t H1 locs1 ht hvm hp hb hsz hkp hS1 => ?_)
  exact kk r h' (H1.size - N) hp p l e s m below meth c G aC H1 locs1 ls hF hK (by rw [← ht]; exact Rp.grow hb hB) (by omega) hS1 hL
end CallMan
