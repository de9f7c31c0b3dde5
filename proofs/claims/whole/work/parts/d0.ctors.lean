/-! the constructors: what is made lies in a row behind the object -/
section NewA
variable {Y : Yd} {d mc ms n0 ca sl : Nat} {κ : Kd} {h : Hp} {pc : Nat} {L : List (Option Value)} {rest : List Value} {P : Option Value → Hp → Prop}
theorem V.newIA {n : Int32} {M : Nat} (x : Nat) (hx : n0 + ca = x) (harr : Cond.arrayClass .int ∈ BG) (hdg : decode Y.2.1 pc = .ok (.newarray .int, 2)) (hn1 : ¬ n < 0) (hN : n.toNatClampNeg = M) (hby : M * 8 ≤ 536870912) (hm : ca + 1 ≤ mc ∧ sl + M ≤ ms)
    (k : ∀ h' : Hp, h' x = some (.inl (0, M, .inl (fun _ => 0))) → (∀ b : Nat, b ≠ x → h' b = h b) → V Y (d, mc, ms, n0, κ) (ca + 1) (sl + M) h' (pc + 2) L (.ref x :: rest) P) : V Y (d, mc, ms, n0, κ) ca sl h pc L (.int n :: rest) P := by
  subst hx
  exact V.newI harr hdg hn1 hN hby hm (k _ up_s (fun b hb => up_n hb))
theorem V.newJA {n : Int32} {M : Nat} (x : Nat) (hx : n0 + ca = x) (harr : Cond.arrayClass .long ∈ BG) (hdg : decode Y.2.1 pc = .ok (.newarray .long, 2)) (hn1 : ¬ n < 0) (hN : n.toNatClampNeg = M) (hby : M * 8 ≤ 536870912) (hm : ca + 1 ≤ mc ∧ sl + M ≤ ms)
    (k : ∀ h' : Hp, h' x = some (.inl (1, M, .inr (.inl (fun _ => 0)))) → (∀ b : Nat, b ≠ x → h' b = h b) → V Y (d, mc, ms, n0, κ) (ca + 1) (sl + M) h' (pc + 2) L (.ref x :: rest) P) : V Y (d, mc, ms, n0, κ) ca sl h pc L (.int n :: rest) P := by
  subst hx
  exact V.newJ harr hdg hn1 hN hby hm (k _ up_s (fun b hb => up_n hb))
theorem V.newZA {n : Int32} {M : Nat} (x : Nat) (hx : n0 + ca = x) (harr : Cond.arrayClass .boolean ∈ BG) (hdg : decode Y.2.1 pc = .ok (.newarray .boolean, 2)) (hn1 : ¬ n < 0) (hN : n.toNatClampNeg = M) (hby : M * 8 ≤ 536870912) (hm : ca + 1 ≤ mc ∧ sl + M ≤ ms)
    (k : ∀ h' : Hp, h' x = some (.inl (2, M, .inl (fun _ => 0))) → (∀ b : Nat, b ≠ x → h' b = h b) → V Y (d, mc, ms, n0, κ) (ca + 1) (sl + M) h' (pc + 2) L (.ref x :: rest) P) : V Y (d, mc, ms, n0, κ) ca sl h pc L (.int n :: rest) P := by
  subst hx
  exact V.newZ harr hdg hn1 hN hby hm (k _ up_s (fun b hb => up_n hb))
theorem V.newA {ci : Nat} {C : String} {T : u_T} {N : Nat} {ty : Nat → FieldType} (ok : Cok ci C T N ty) {idx : Nat} {fs : List Value} (x : Nat) (hx : n0 + ca = x) (hlk : Cond.classLink Y.1.cls idx C ∈ BG) (hins : Cond.instantiable C N ∈ BG) (hini : Cond.initialized C ∈ BG) (hdg : decode Y.2.1 pc = .ok (.new idx, 3)) (hfs : ∀ j, j < N → defaultValue (ty j) = vp_V fs j) (hm : ca + 1 ≤ mc ∧ sl + N ≤ ms)
    (k : ∀ h' : Hp, h' x = some (.inr (ci, fs)) → (∀ b : Nat, b ≠ x → h' b = h b) → V Y (d, mc, ms, n0, κ) (ca + 1) (sl + N) h' (pc + 3) L (.ref x :: rest) P) : V Y (d, mc, ms, n0, κ) ca sl h pc L rest P := by
  subst hx
  exact V.new ok hlk hins hini hdg hfs hm (k _ up_s (fun b hb => up_n hb))
end NewA
def zS (f : Nat → Int32) (r : Nat → Nat) : St := (f, fun _ _ => 0, fun _ _ => 0, r)
set_option maxRecDepth 100000 in
set_option maxHeartbeats 2000000 in
theorem ini0_V {d n0 : Nat} {κ : Kd} (hd : 2 ≤ d) {h : Hp} {a : Nat} (hn : n0 = a + 1) (H : h a = some (.inr (0, [.int 0, .null, .null, .null, .null, .null, .null, .int 0, .int 0, .int 0, .int 0]))) : V MX0_init (d, 6, 36, n0, κ) 0 0 h 0 [some (.ref a)] [] (fun v h' => v = none ∧ isR C0 h' (a) (zS (fun _ => 0) (fun _ => 0)) ∧ ∀ b : Nat, (b < a ∨ a + 7 ≤ b) → h' b = h b) := by
  subst hn
  refine V.aload_n dX0_init_0 rfl ?_
  refine V.objInit ml_X0_3 im_objInit co_objInit dX0_init_1 (by omega) (Nat.le_of_ble_eq_true rfl) ?_
  refine V.aload_n dX0_init_4 rfl ?_
  refine V.bipush (v := 6) dX0_init_5 (by decide) ?_
  refine V.newIA (M := 6) (a + 1) (by omega) ac_int dX0_init_7 (by decide) (by decide) (by decide) ⟨Nat.le_of_ble_eq_true rfl, Nat.le_of_ble_eq_true rfl⟩ (fun g1 e1 o1 => ?_)
  have H := (o1 _ (by omega)).trans H
  refine V.putfFH okX0 1 fl_X0_9 dX0_init_9 (by decide) rfl rfl rfl H rfl rfl (Nat.le_of_ble_eq_true rfl) (fun g2 e2 o2 => ?_)
  have H := e2
  refine V.aload_n dX0_init_12 rfl ?_
  refine V.bipush (v := 6) dX0_init_13 (by decide) ?_
  refine V.newJA (M := 6) (a + 2) (by omega) ac_long dX0_init_15 (by decide) (by decide) (by decide) ⟨Nat.le_of_ble_eq_true rfl, Nat.le_of_ble_eq_true rfl⟩ (fun g3 e3 o3 => ?_)
  have H := (o3 _ (by omega)).trans H
  refine V.putfFH okX0 2 fl_X0_15 dX0_init_17 (by decide) rfl rfl rfl H rfl rfl (Nat.le_of_ble_eq_true rfl) (fun g4 e4 o4 => ?_)
  have H := e4
  refine V.aload_n dX0_init_20 rfl ?_
  refine V.bipush (v := 6) dX0_init_21 (by decide) ?_
  refine V.newIA (M := 6) (a + 3) (by omega) ac_int dX0_init_23 (by decide) (by decide) (by decide) ⟨Nat.le_of_ble_eq_true rfl, Nat.le_of_ble_eq_true rfl⟩ (fun g5 e5 o5 => ?_)
  have H := (o5 _ (by omega)).trans H
  refine V.putfFH okX0 3 fl_X0_19 dX0_init_25 (by decide) rfl rfl rfl H rfl rfl (Nat.le_of_ble_eq_true rfl) (fun g6 e6 o6 => ?_)
  have H := e6
  refine V.aload_n dX0_init_28 rfl ?_
  refine V.bipush (v := 6) dX0_init_29 (by decide) ?_
  refine V.newIA (M := 6) (a + 4) (by omega) ac_int dX0_init_31 (by decide) (by decide) (by decide) ⟨Nat.le_of_ble_eq_true rfl, Nat.le_of_ble_eq_true rfl⟩ (fun g7 e7 o7 => ?_)
  have H := (o7 _ (by omega)).trans H
  refine V.putfFH okX0 4 fl_X0_22 dX0_init_33 (by decide) rfl rfl rfl H rfl rfl (Nat.le_of_ble_eq_true rfl) (fun g8 e8 o8 => ?_)
  have H := e8
  refine V.aload_n dX0_init_36 rfl ?_
  refine V.bipush (v := 6) dX0_init_37 (by decide) ?_
  refine V.newIA (M := 6) (a + 5) (by omega) ac_int dX0_init_39 (by decide) (by decide) (by decide) ⟨Nat.le_of_ble_eq_true rfl, Nat.le_of_ble_eq_true rfl⟩ (fun g9 e9 o9 => ?_)
  have H := (o9 _ (by omega)).trans H
  refine V.putfFH okX0 5 fl_X0_25 dX0_init_41 (by decide) rfl rfl rfl H rfl rfl (Nat.le_of_ble_eq_true rfl) (fun g10 e10 o10 => ?_)
  have H := e10
  refine V.aload_n dX0_init_44 rfl ?_
  refine V.bipush (v := 6) dX0_init_45 (by decide) ?_
  refine V.newIA (M := 6) (a + 6) (by omega) ac_int dX0_init_47 (by decide) (by decide) (by decide) ⟨Nat.le_of_ble_eq_true rfl, Nat.le_of_ble_eq_true rfl⟩ (fun g11 e11 o11 => ?_)
  have H := (o11 _ (by omega)).trans H
  refine V.putfFH okX0 6 fl_X0_28 dX0_init_49 (by decide) rfl rfl rfl H rfl rfl (Nat.le_of_ble_eq_true rfl) (fun g12 e12 o12 => ?_)
  have H := e12
  refine V.vret dX0_init_52 rfl ?_
  have F12 : ∀ b : Nat, b ≠ a → g12 b = g12 b := fun _ _ => rfl
  have F11 : ∀ b : Nat, b ≠ a → b < a + 7 → g12 b = g11 b := fun b q1 q2 => (F12 b q1).trans (o12 b (by omega))
  have F10 : ∀ b : Nat, b ≠ a → b < a + 6 → g12 b = g10 b := fun b q1 q2 => (F11 b q1 (by omega)).trans (o11 b (by omega))
  have F9 : ∀ b : Nat, b ≠ a → b < a + 6 → g12 b = g9 b := fun b q1 q2 => (F10 b q1 (by omega)).trans (o10 b (by omega))
  have F8 : ∀ b : Nat, b ≠ a → b < a + 5 → g12 b = g8 b := fun b q1 q2 => (F9 b q1 (by omega)).trans (o9 b (by omega))
  have F7 : ∀ b : Nat, b ≠ a → b < a + 5 → g12 b = g7 b := fun b q1 q2 => (F8 b q1 (by omega)).trans (o8 b (by omega))
  have F6 : ∀ b : Nat, b ≠ a → b < a + 4 → g12 b = g6 b := fun b q1 q2 => (F7 b q1 (by omega)).trans (o7 b (by omega))
  have F5 : ∀ b : Nat, b ≠ a → b < a + 4 → g12 b = g5 b := fun b q1 q2 => (F6 b q1 (by omega)).trans (o6 b (by omega))
  have F4 : ∀ b : Nat, b ≠ a → b < a + 3 → g12 b = g4 b := fun b q1 q2 => (F5 b q1 (by omega)).trans (o5 b (by omega))
  have F3 : ∀ b : Nat, b ≠ a → b < a + 3 → g12 b = g3 b := fun b q1 q2 => (F4 b q1 (by omega)).trans (o4 b (by omega))
  have F2 : ∀ b : Nat, b ≠ a → b < a + 2 → g12 b = g2 b := fun b q1 q2 => (F3 b q1 (by omega)).trans (o3 b (by omega))
  have F1 : ∀ b : Nat, b ≠ a → b < a + 2 → g12 b = g1 b := fun b q1 q2 => (F2 b q1 (by omega)).trans (o2 b (by omega))
  exact ⟨rfl, (by
      refine ⟨H, fun q hq => ?_⟩
      simp only [C0, List.mem_cons, List.not_mem_nil, or_false] at hq
      rcases hq with rfl | rfl | rfl | rfl | rfl | rfl
      · exact (F1 (a + 1) (by omega) (by omega)).trans e1
      · exact (F3 (a + 2) (by omega) (by omega)).trans e3
      · exact (F5 (a + 3) (by omega) (by omega)).trans e5
      · exact (F7 (a + 4) (by omega) (by omega)).trans e7
      · exact (F9 (a + 5) (by omega) (by omega)).trans e9
      · exact (F11 (a + 6) (by omega) (by omega)).trans e11), fun b hb => (o12 b (by omega)).trans ((o11 b (by omega)).trans ((o10 b (by omega)).trans ((o9 b (by omega)).trans ((o8 b (by omega)).trans ((o7 b (by omega)).trans ((o6 b (by omega)).trans ((o5 b (by omega)).trans ((o4 b (by omega)).trans ((o3 b (by omega)).trans ((o2 b (by omega)).trans ((o1 b (by omega)))))))))))))⟩
set_option maxRecDepth 100000 in
set_option maxHeartbeats 2000000 in
theorem ini2_V {d n0 : Nat} {κ : Kd} (hd : 2 ≤ d) {h : Hp} {a : Nat} {x : Int32} (hn : n0 = a + 1) (H : h a = some (.inr (2, [.int 0, .int 0, .null, .null, .null]))) : V MX2_init (d, 3, 36, n0, κ) 0 0 h 0 [some (.ref a), some (.int x)] [] (fun v h' => v = none ∧ isR C2 h' (a) (zS (upd (fun _ => 0) 1 (if 12 < x then 12 else x)) (fun _ => 0)) ∧ ∀ b : Nat, (b < a ∨ a + 4 ≤ b) → h' b = h b) := by
  subst hn
  refine V.aload_n dX2_init_0 rfl ?_
  refine V.objInit ml_X2_3 im_objInit co_objInit dX2_init_1 (by omega) (Nat.le_of_ble_eq_true rfl) ?_
  refine V.aload_n dX2_init_4 rfl ?_
  refine V.bipush (v := 12) dX2_init_5 (by decide) ?_
  refine V.newIA (M := 12) (a + 1) (by omega) ac_int dX2_init_7 (by decide) (by decide) (by decide) ⟨Nat.le_of_ble_eq_true rfl, Nat.le_of_ble_eq_true rfl⟩ (fun g1 e1 o1 => ?_)
  have H := (o1 _ (by omega)).trans H
  refine V.putfFH okX2 2 fl_X2_9 dX2_init_9 (by decide) rfl rfl rfl H rfl rfl (Nat.le_of_ble_eq_true rfl) (fun g2 e2 o2 => ?_)
  have H := e2
  refine V.aload_n dX2_init_12 rfl ?_
  refine V.bipush (v := 12) dX2_init_13 (by decide) ?_
  refine V.newIA (M := 12) (a + 2) (by omega) ac_int dX2_init_15 (by decide) (by decide) (by decide) ⟨Nat.le_of_ble_eq_true rfl, Nat.le_of_ble_eq_true rfl⟩ (fun g3 e3 o3 => ?_)
  have H := (o3 _ (by omega)).trans H
  refine V.putfFH okX2 3 fl_X2_15 dX2_init_17 (by decide) rfl rfl rfl H rfl rfl (Nat.le_of_ble_eq_true rfl) (fun g4 e4 o4 => ?_)
  have H := e4
  refine V.aload_n dX2_init_20 rfl ?_
  refine V.bipush (v := 12) dX2_init_21 (by decide) ?_
  refine V.newIA (M := 12) (a + 3) (by omega) ac_int dX2_init_23 (by decide) (by decide) (by decide) ⟨Nat.le_of_ble_eq_true rfl, Nat.le_of_ble_eq_true rfl⟩ (fun g5 e5 o5 => ?_)
  have H := (o5 _ (by omega)).trans H
  refine V.putfFH okX2 4 fl_X2_18 dX2_init_25 (by decide) rfl rfl rfl H rfl rfl (Nat.le_of_ble_eq_true rfl) (fun g6 e6 o6 => ?_)
  have H := e6
  refine V.aload_n dX2_init_28 rfl ?_
  refine V.iload_n dX2_init_29 rfl ?_
  refine V.bipush (v := 12) dX2_init_30 (by decide) ?_
  refine V.mmin ml_X2_21 st_J9_min_7cf53 ini_J9 co_J9_min_7cf53 dX2_init_32 (by omega) (Nat.le_of_ble_eq_true rfl) ⟨Nat.le_of_ble_eq_true rfl, Nat.le_of_ble_eq_true rfl⟩ ?_
  refine V.putfFH okX2 1 fl_X2_27 dX2_init_35 (by decide) rfl rfl rfl H rfl rfl (Nat.le_of_ble_eq_true rfl) (fun g7 e7 o7 => ?_)
  have H := e7
  refine V.vret dX2_init_38 rfl ?_
  have F7 : ∀ b : Nat, b ≠ a → g7 b = g7 b := fun _ _ => rfl
  have F6 : ∀ b : Nat, b ≠ a → b < a + 4 → g7 b = g6 b := fun b q1 q2 => (F7 b q1).trans (o7 b (by omega))
  have F5 : ∀ b : Nat, b ≠ a → b < a + 4 → g7 b = g5 b := fun b q1 q2 => (F6 b q1 (by omega)).trans (o6 b (by omega))
  have F4 : ∀ b : Nat, b ≠ a → b < a + 3 → g7 b = g4 b := fun b q1 q2 => (F5 b q1 (by omega)).trans (o5 b (by omega))
  have F3 : ∀ b : Nat, b ≠ a → b < a + 3 → g7 b = g3 b := fun b q1 q2 => (F4 b q1 (by omega)).trans (o4 b (by omega))
  have F2 : ∀ b : Nat, b ≠ a → b < a + 2 → g7 b = g2 b := fun b q1 q2 => (F3 b q1 (by omega)).trans (o3 b (by omega))
  have F1 : ∀ b : Nat, b ≠ a → b < a + 2 → g7 b = g1 b := fun b q1 q2 => (F2 b q1 (by omega)).trans (o2 b (by omega))
  exact ⟨rfl, (by
      refine ⟨H, fun q hq => ?_⟩
      simp only [C2, List.mem_cons, List.not_mem_nil, or_false] at hq
      rcases hq with rfl | rfl | rfl
      · exact (F1 (a + 1) (by omega) (by omega)).trans e1
      · exact (F3 (a + 2) (by omega) (by omega)).trans e3
      · exact (F5 (a + 3) (by omega) (by omega)).trans e5), fun b hb => (o7 b (by omega)).trans ((o6 b (by omega)).trans ((o5 b (by omega)).trans ((o4 b (by omega)).trans ((o3 b (by omega)).trans ((o2 b (by omega)).trans ((o1 b (by omega))))))))⟩
set_option maxRecDepth 100000 in
set_option maxHeartbeats 2000000 in
theorem ini3_V {d n0 : Nat} {κ : Kd} (hd : 2 ≤ d) {h : Hp} {a : Nat} (hn : n0 = a + 1) (H : h a = some (.inr (3, [.int 0, .int 0, .null, .null, .null, .null, .null]))) : V MX3_init (d, 5, 120, n0, κ) 0 0 h 0 [some (.ref a)] [] (fun v h' => v = none ∧ isR C3 h' (a) (zS (upd (fun _ => 0) 1 (-1)) (fun _ => 0)) ∧ ∀ b : Nat, (b < a ∨ a + 6 ≤ b) → h' b = h b) := by
  subst hn
  refine V.aload_n dX3_init_0 rfl ?_
  refine V.objInit ml_X3_3 im_objInit co_objInit dX3_init_1 (by omega) (Nat.le_of_ble_eq_true rfl) ?_
  refine V.aload_n dX3_init_4 rfl ?_
  refine V.iconst (v := (-1)) dX3_init_5 (by decide) ?_
  refine V.putfH okX3 1 fl_X3_9 dX3_init_6 (by decide) rfl H rfl rfl (Nat.le_of_ble_eq_true rfl) (fun g1 e1 o1 => ?_)
  have H := e1
  refine V.aload_n dX3_init_9 rfl ?_
  refine V.bipush (v := 24) dX3_init_10 (by decide) ?_
  refine V.newIA (M := 24) (a + 1) (by omega) ac_int dX3_init_12 (by decide) (by decide) (by decide) ⟨Nat.le_of_ble_eq_true rfl, Nat.le_of_ble_eq_true rfl⟩ (fun g2 e2 o2 => ?_)
  have H := (o2 _ (by omega)).trans H
  refine V.putfFH okX3 2 fl_X3_15 dX3_init_14 (by decide) rfl rfl rfl H rfl rfl (Nat.le_of_ble_eq_true rfl) (fun g3 e3 o3 => ?_)
  have H := e3
  refine V.aload_n dX3_init_17 rfl ?_
  refine V.bipush (v := 24) dX3_init_18 (by decide) ?_
  refine V.newIA (M := 24) (a + 2) (by omega) ac_int dX3_init_20 (by decide) (by decide) (by decide) ⟨Nat.le_of_ble_eq_true rfl, Nat.le_of_ble_eq_true rfl⟩ (fun g4 e4 o4 => ?_)
  have H := (o4 _ (by omega)).trans H
  refine V.putfFH okX3 3 fl_X3_19 dX3_init_22 (by decide) rfl rfl rfl H rfl rfl (Nat.le_of_ble_eq_true rfl) (fun g5 e5 o5 => ?_)
  have H := e5
  refine V.aload_n dX3_init_25 rfl ?_
  refine V.bipush (v := 24) dX3_init_26 (by decide) ?_
  refine V.newIA (M := 24) (a + 3) (by omega) ac_int dX3_init_28 (by decide) (by decide) (by decide) ⟨Nat.le_of_ble_eq_true rfl, Nat.le_of_ble_eq_true rfl⟩ (fun g6 e6 o6 => ?_)
  have H := (o6 _ (by omega)).trans H
  refine V.putfFH okX3 4 fl_X3_22 dX3_init_30 (by decide) rfl rfl rfl H rfl rfl (Nat.le_of_ble_eq_true rfl) (fun g7 e7 o7 => ?_)
  have H := e7
  refine V.aload_n dX3_init_33 rfl ?_
  refine V.bipush (v := 24) dX3_init_34 (by decide) ?_
  refine V.newIA (M := 24) (a + 4) (by omega) ac_int dX3_init_36 (by decide) (by decide) (by decide) ⟨Nat.le_of_ble_eq_true rfl, Nat.le_of_ble_eq_true rfl⟩ (fun g8 e8 o8 => ?_)
  have H := (o8 _ (by omega)).trans H
  refine V.putfFH okX3 5 fl_X3_25 dX3_init_38 (by decide) rfl rfl rfl H rfl rfl (Nat.le_of_ble_eq_true rfl) (fun g9 e9 o9 => ?_)
  have H := e9
  refine V.aload_n dX3_init_41 rfl ?_
  refine V.bipush (v := 24) dX3_init_42 (by decide) ?_
  refine V.newIA (M := 24) (a + 5) (by omega) ac_int dX3_init_44 (by decide) (by decide) (by decide) ⟨Nat.le_of_ble_eq_true rfl, Nat.le_of_ble_eq_true rfl⟩ (fun g10 e10 o10 => ?_)
  have H := (o10 _ (by omega)).trans H
  refine V.putfFH okX3 6 fl_X3_28 dX3_init_46 (by decide) rfl rfl rfl H rfl rfl (Nat.le_of_ble_eq_true rfl) (fun g11 e11 o11 => ?_)
  have H := e11
  refine V.vret dX3_init_49 rfl ?_
  have F11 : ∀ b : Nat, b ≠ a → g11 b = g11 b := fun _ _ => rfl
  have F10 : ∀ b : Nat, b ≠ a → b < a + 6 → g11 b = g10 b := fun b q1 q2 => (F11 b q1).trans (o11 b (by omega))
  have F9 : ∀ b : Nat, b ≠ a → b < a + 5 → g11 b = g9 b := fun b q1 q2 => (F10 b q1 (by omega)).trans (o10 b (by omega))
  have F8 : ∀ b : Nat, b ≠ a → b < a + 5 → g11 b = g8 b := fun b q1 q2 => (F9 b q1 (by omega)).trans (o9 b (by omega))
  have F7 : ∀ b : Nat, b ≠ a → b < a + 4 → g11 b = g7 b := fun b q1 q2 => (F8 b q1 (by omega)).trans (o8 b (by omega))
  have F6 : ∀ b : Nat, b ≠ a → b < a + 4 → g11 b = g6 b := fun b q1 q2 => (F7 b q1 (by omega)).trans (o7 b (by omega))
  have F5 : ∀ b : Nat, b ≠ a → b < a + 3 → g11 b = g5 b := fun b q1 q2 => (F6 b q1 (by omega)).trans (o6 b (by omega))
  have F4 : ∀ b : Nat, b ≠ a → b < a + 3 → g11 b = g4 b := fun b q1 q2 => (F5 b q1 (by omega)).trans (o5 b (by omega))
  have F3 : ∀ b : Nat, b ≠ a → b < a + 2 → g11 b = g3 b := fun b q1 q2 => (F4 b q1 (by omega)).trans (o4 b (by omega))
  have F2 : ∀ b : Nat, b ≠ a → b < a + 2 → g11 b = g2 b := fun b q1 q2 => (F3 b q1 (by omega)).trans (o3 b (by omega))
  have F1 : ∀ b : Nat, b ≠ a → b < a + 1 → g11 b = g1 b := fun b q1 q2 => (F2 b q1 (by omega)).trans (o2 b (by omega))
  exact ⟨rfl, (by
      refine ⟨H, fun q hq => ?_⟩
      simp only [C3, List.mem_cons, List.not_mem_nil, or_false] at hq
      rcases hq with rfl | rfl | rfl | rfl | rfl
      · exact (F2 (a + 1) (by omega) (by omega)).trans e2
      · exact (F4 (a + 2) (by omega) (by omega)).trans e4
      · exact (F6 (a + 3) (by omega) (by omega)).trans e6
      · exact (F8 (a + 4) (by omega) (by omega)).trans e8
      · exact (F10 (a + 5) (by omega) (by omega)).trans e10), fun b hb => (o11 b (by omega)).trans ((o10 b (by omega)).trans ((o9 b (by omega)).trans ((o8 b (by omega)).trans ((o7 b (by omega)).trans ((o6 b (by omega)).trans ((o5 b (by omega)).trans ((o4 b (by omega)).trans ((o3 b (by omega)).trans ((o2 b (by omega)).trans ((o1 b (by omega))))))))))))⟩
set_option maxRecDepth 100000 in
set_option maxHeartbeats 2000000 in
theorem ini4_V {d n0 : Nat} {κ : Kd} (hd : 2 ≤ d) {h : Hp} {a : Nat} (hn : n0 = a + 1) (H : h a = some (.inr (4, [.int 0, .int 0, .null, .null, .null, .null, .null]))) : V MX4_init (d, 5, 198, n0, κ) 0 0 h 0 [some (.ref a)] [] (fun v h' => v = none ∧ isR C4 h' (a) (zS (fun _ => 0) (fun _ => 0)) ∧ ∀ b : Nat, (b < a ∨ a + 6 ≤ b) → h' b = h b) := by
  subst hn
  refine V.aload_n dX4_init_0 rfl ?_
  refine V.objInit ml_X4_3 im_objInit co_objInit dX4_init_1 (by omega) (Nat.le_of_ble_eq_true rfl) ?_
  refine V.aload_n dX4_init_4 rfl ?_
  refine V.bipush (v := 64) dX4_init_5 (by decide) ?_
  refine V.newIA (M := 64) (a + 1) (by omega) ac_int dX4_init_7 (by decide) (by decide) (by decide) ⟨Nat.le_of_ble_eq_true rfl, Nat.le_of_ble_eq_true rfl⟩ (fun g1 e1 o1 => ?_)
  have H := (o1 _ (by omega)).trans H
  refine V.putfFH okX4 2 fl_X4_9 dX4_init_9 (by decide) rfl rfl rfl H rfl rfl (Nat.le_of_ble_eq_true rfl) (fun g2 e2 o2 => ?_)
  have H := e2
  refine V.aload_n dX4_init_12 rfl ?_
  refine V.bipush (v := 64) dX4_init_13 (by decide) ?_
  refine V.newIA (M := 64) (a + 2) (by omega) ac_int dX4_init_15 (by decide) (by decide) (by decide) ⟨Nat.le_of_ble_eq_true rfl, Nat.le_of_ble_eq_true rfl⟩ (fun g3 e3 o3 => ?_)
  have H := (o3 _ (by omega)).trans H
  refine V.putfFH okX4 3 fl_X4_15 dX4_init_17 (by decide) rfl rfl rfl H rfl rfl (Nat.le_of_ble_eq_true rfl) (fun g4 e4 o4 => ?_)
  have H := e4
  refine V.aload_n dX4_init_20 rfl ?_
  refine V.iconst (v := 3) dX4_init_21 (by decide) ?_
  refine V.newIA (M := 3) (a + 3) (by omega) ac_int dX4_init_22 (by decide) (by decide) (by decide) ⟨Nat.le_of_ble_eq_true rfl, Nat.le_of_ble_eq_true rfl⟩ (fun g5 e5 o5 => ?_)
  have H := (o5 _ (by omega)).trans H
  refine V.putfFH okX4 4 fl_X4_18 dX4_init_24 (by decide) rfl rfl rfl H rfl rfl (Nat.le_of_ble_eq_true rfl) (fun g6 e6 o6 => ?_)
  have H := e6
  refine V.aload_n dX4_init_27 rfl ?_
  refine V.iconst (v := 3) dX4_init_28 (by decide) ?_
  refine V.newIA (M := 3) (a + 4) (by omega) ac_int dX4_init_29 (by decide) (by decide) (by decide) ⟨Nat.le_of_ble_eq_true rfl, Nat.le_of_ble_eq_true rfl⟩ (fun g7 e7 o7 => ?_)
  have H := (o7 _ (by omega)).trans H
  refine V.putfFH okX4 5 fl_X4_21 dX4_init_31 (by decide) rfl rfl rfl H rfl rfl (Nat.le_of_ble_eq_true rfl) (fun g8 e8 o8 => ?_)
  have H := e8
  refine V.aload_n dX4_init_34 rfl ?_
  refine V.bipush (v := 64) dX4_init_35 (by decide) ?_
  refine V.newJA (M := 64) (a + 5) (by omega) ac_long dX4_init_37 (by decide) (by decide) (by decide) ⟨Nat.le_of_ble_eq_true rfl, Nat.le_of_ble_eq_true rfl⟩ (fun g9 e9 o9 => ?_)
  have H := (o9 _ (by omega)).trans H
  refine V.putfFH okX4 6 fl_X4_24 dX4_init_39 (by decide) rfl rfl rfl H rfl rfl (Nat.le_of_ble_eq_true rfl) (fun g10 e10 o10 => ?_)
  have H := e10
  refine V.vret dX4_init_42 rfl ?_
  have F10 : ∀ b : Nat, b ≠ a → g10 b = g10 b := fun _ _ => rfl
  have F9 : ∀ b : Nat, b ≠ a → b < a + 6 → g10 b = g9 b := fun b q1 q2 => (F10 b q1).trans (o10 b (by omega))
  have F8 : ∀ b : Nat, b ≠ a → b < a + 5 → g10 b = g8 b := fun b q1 q2 => (F9 b q1 (by omega)).trans (o9 b (by omega))
  have F7 : ∀ b : Nat, b ≠ a → b < a + 5 → g10 b = g7 b := fun b q1 q2 => (F8 b q1 (by omega)).trans (o8 b (by omega))
  have F6 : ∀ b : Nat, b ≠ a → b < a + 4 → g10 b = g6 b := fun b q1 q2 => (F7 b q1 (by omega)).trans (o7 b (by omega))
  have F5 : ∀ b : Nat, b ≠ a → b < a + 4 → g10 b = g5 b := fun b q1 q2 => (F6 b q1 (by omega)).trans (o6 b (by omega))
  have F4 : ∀ b : Nat, b ≠ a → b < a + 3 → g10 b = g4 b := fun b q1 q2 => (F5 b q1 (by omega)).trans (o5 b (by omega))
  have F3 : ∀ b : Nat, b ≠ a → b < a + 3 → g10 b = g3 b := fun b q1 q2 => (F4 b q1 (by omega)).trans (o4 b (by omega))
  have F2 : ∀ b : Nat, b ≠ a → b < a + 2 → g10 b = g2 b := fun b q1 q2 => (F3 b q1 (by omega)).trans (o3 b (by omega))
  have F1 : ∀ b : Nat, b ≠ a → b < a + 2 → g10 b = g1 b := fun b q1 q2 => (F2 b q1 (by omega)).trans (o2 b (by omega))
  exact ⟨rfl, (by
      refine ⟨H, fun q hq => ?_⟩
      simp only [C4, List.mem_cons, List.not_mem_nil, or_false] at hq
      rcases hq with rfl | rfl | rfl | rfl | rfl
      · exact (F1 (a + 1) (by omega) (by omega)).trans e1
      · exact (F3 (a + 2) (by omega) (by omega)).trans e3
      · exact (F5 (a + 3) (by omega) (by omega)).trans e5
      · exact (F7 (a + 4) (by omega) (by omega)).trans e7
      · exact (F9 (a + 5) (by omega) (by omega)).trans e9), fun b hb => (o10 b (by omega)).trans ((o9 b (by omega)).trans ((o8 b (by omega)).trans ((o7 b (by omega)).trans ((o6 b (by omega)).trans ((o5 b (by omega)).trans ((o4 b (by omega)).trans ((o3 b (by omega)).trans ((o2 b (by omega)).trans ((o1 b (by omega)))))))))))⟩
set_option maxRecDepth 100000 in
set_option maxHeartbeats 2000000 in
theorem ini5_V {d n0 : Nat} {κ : Kd} (hd : 2 ≤ d) {h : Hp} {a : Nat} (hn : n0 = a + 1) (H : h a = some (.inr (5, [.null]))) : V MX5_init (d, 1, 61, n0, κ) 0 0 h 0 [some (.ref a)] [] (fun v h' => v = none ∧ isR C5 h' (a) (zS (fun _ => 0) (fun _ => 0)) ∧ ∀ b : Nat, (b < a ∨ a + 2 ≤ b) → h' b = h b) := by
  subst hn
  refine V.aload_n dX5_init_0 rfl ?_
  refine V.objInit ml_X5_3 im_objInit co_objInit dX5_init_1 (by omega) (Nat.le_of_ble_eq_true rfl) ?_
  refine V.aload_n dX5_init_4 rfl ?_
  refine V.bipush (v := 61) dX5_init_5 (by decide) ?_
  refine V.newIA (M := 61) (a + 1) (by omega) ac_int dX5_init_7 (by decide) (by decide) (by decide) ⟨Nat.le_of_ble_eq_true rfl, Nat.le_of_ble_eq_true rfl⟩ (fun g1 e1 o1 => ?_)
  have H := (o1 _ (by omega)).trans H
  refine V.putfFH okX5 0 fl_X5_9 dX5_init_9 (by decide) rfl rfl rfl H rfl rfl (Nat.le_of_ble_eq_true rfl) (fun g2 e2 o2 => ?_)
  have H := e2
  refine V.vret dX5_init_12 rfl ?_
  have F2 : ∀ b : Nat, b ≠ a → g2 b = g2 b := fun _ _ => rfl
  have F1 : ∀ b : Nat, b ≠ a → b < a + 2 → g2 b = g1 b := fun b q1 q2 => (F2 b q1).trans (o2 b (by omega))
  exact ⟨rfl, (by
      refine ⟨H, fun q hq => ?_⟩
      simp only [C5, List.mem_cons, List.not_mem_nil, or_false] at hq
      subst hq
      · exact (F1 (a + 1) (by omega) (by omega)).trans e1), fun b hb => (o2 b (by omega)).trans ((o1 b (by omega)))⟩
set_option maxRecDepth 100000 in
set_option maxHeartbeats 2000000 in
theorem ini7_V {d n0 : Nat} {κ : Kd} (hd : 2 ≤ d) {h : Hp} {a : Nat} (hn : n0 = a + 1) (H : h a = some (.inr (7, [.null, .int 0, .int 0, .int 0, .int 0, .int 0]))) : V MX7_init (d, 1, 0, n0, κ) 0 0 h 0 [some (.ref a)] [] (fun v h' => v = none ∧ isR C7 h' (a) (zS (fun _ => 0) (uN (fun _ => 0) 0 (a + 1))) ∧ ∀ b : Nat, (b < a ∨ a + 2 ≤ b) → h' b = h b) := by
  subst hn
  refine V.aload_n dX7_init_0 rfl ?_
  refine V.objInit ml_X7_3 im_objInit co_objInit dX7_init_1 (by omega) (Nat.le_of_ble_eq_true rfl) ?_
  refine V.aload_n dX7_init_4 rfl ?_
  refine V.iconst (v := 0) dX7_init_5 (by decide) ?_
  refine V.newIA (M := 0) (a + 1) (by omega) ac_int dX7_init_6 (by decide) (by decide) (by decide) ⟨Nat.le_of_ble_eq_true rfl, Nat.le_of_ble_eq_true rfl⟩ (fun g1 e1 o1 => ?_)
  have H := (o1 _ (by omega)).trans H
  refine V.putfH okX7 0 fl_X7_9 dX7_init_8 (by decide) rfl H rfl rfl (Nat.le_of_ble_eq_true rfl) (fun g2 e2 o2 => ?_)
  have H := e2
  refine V.vret dX7_init_11 rfl ?_
  have F2 : ∀ b : Nat, b ≠ a → g2 b = g2 b := fun _ _ => rfl
  have F1 : ∀ b : Nat, b ≠ a → b < a + 2 → g2 b = g1 b := fun b q1 q2 => (F2 b q1).trans (o2 b (by omega))
  exact ⟨rfl, ⟨H, fun q hq => absurd hq List.not_mem_nil⟩, fun b hb => (o2 b (by omega)).trans ((o1 b (by omega)))⟩
set_option maxRecDepth 100000 in
set_option maxHeartbeats 2000000 in
theorem ini9_V {d n0 : Nat} {κ : Kd} (hd : 2 ≤ d) {h : Hp} {a : Nat} (hn : n0 = a + 1) (H : h a = some (.inr (9, [.int 0, .int 0, .null, .null, .null, .null]))) : V MX9_init (d, 4, 246, n0, κ) 0 0 h 0 [some (.ref a)] [] (fun v h' => v = none ∧ isR C9 h' (a) (zS (fun _ => 0) (fun _ => 0)) ∧ ∀ b : Nat, (b < a ∨ a + 5 ≤ b) → h' b = h b) := by
  subst hn
  refine V.aload_n dX9_init_0 rfl ?_
  refine V.objInit ml_X9_3 im_objInit co_objInit dX9_init_1 (by omega) (Nat.le_of_ble_eq_true rfl) ?_
  refine V.aload_n dX9_init_4 rfl ?_
  refine V.bipush (v := 60) dX9_init_5 (by decide) ?_
  refine V.newIA (M := 60) (a + 1) (by omega) ac_int dX9_init_7 (by decide) (by decide) (by decide) ⟨Nat.le_of_ble_eq_true rfl, Nat.le_of_ble_eq_true rfl⟩ (fun g1 e1 o1 => ?_)
  have H := (o1 _ (by omega)).trans H
  refine V.putfFH okX9 2 fl_X9_9 dX9_init_9 (by decide) rfl rfl rfl H rfl rfl (Nat.le_of_ble_eq_true rfl) (fun g2 e2 o2 => ?_)
  have H := e2
  refine V.aload_n dX9_init_12 rfl ?_
  refine V.bipush (v := 62) dX9_init_13 (by decide) ?_
  refine V.newIA (M := 62) (a + 2) (by omega) ac_int dX9_init_15 (by decide) (by decide) (by decide) ⟨Nat.le_of_ble_eq_true rfl, Nat.le_of_ble_eq_true rfl⟩ (fun g3 e3 o3 => ?_)
  have H := (o3 _ (by omega)).trans H
  refine V.putfFH okX9 3 fl_X9_15 dX9_init_17 (by decide) rfl rfl rfl H rfl rfl (Nat.le_of_ble_eq_true rfl) (fun g4 e4 o4 => ?_)
  have H := e4
  refine V.aload_n dX9_init_20 rfl ?_
  refine V.bipush (v := 62) dX9_init_21 (by decide) ?_
  refine V.newIA (M := 62) (a + 3) (by omega) ac_int dX9_init_23 (by decide) (by decide) (by decide) ⟨Nat.le_of_ble_eq_true rfl, Nat.le_of_ble_eq_true rfl⟩ (fun g5 e5 o5 => ?_)
  have H := (o5 _ (by omega)).trans H
  refine V.putfFH okX9 4 fl_X9_18 dX9_init_25 (by decide) rfl rfl rfl H rfl rfl (Nat.le_of_ble_eq_true rfl) (fun g6 e6 o6 => ?_)
  have H := e6
  refine V.aload_n dX9_init_28 rfl ?_
  refine V.bipush (v := 62) dX9_init_29 (by decide) ?_
  refine V.newIA (M := 62) (a + 4) (by omega) ac_int dX9_init_31 (by decide) (by decide) (by decide) ⟨Nat.le_of_ble_eq_true rfl, Nat.le_of_ble_eq_true rfl⟩ (fun g7 e7 o7 => ?_)
  have H := (o7 _ (by omega)).trans H
  refine V.putfFH okX9 5 fl_X9_21 dX9_init_33 (by decide) rfl rfl rfl H rfl rfl (Nat.le_of_ble_eq_true rfl) (fun g8 e8 o8 => ?_)
  have H := e8
  refine V.vret dX9_init_36 rfl ?_
  have F8 : ∀ b : Nat, b ≠ a → g8 b = g8 b := fun _ _ => rfl
  have F7 : ∀ b : Nat, b ≠ a → b < a + 5 → g8 b = g7 b := fun b q1 q2 => (F8 b q1).trans (o8 b (by omega))
  have F6 : ∀ b : Nat, b ≠ a → b < a + 4 → g8 b = g6 b := fun b q1 q2 => (F7 b q1 (by omega)).trans (o7 b (by omega))
  have F5 : ∀ b : Nat, b ≠ a → b < a + 4 → g8 b = g5 b := fun b q1 q2 => (F6 b q1 (by omega)).trans (o6 b (by omega))
  have F4 : ∀ b : Nat, b ≠ a → b < a + 3 → g8 b = g4 b := fun b q1 q2 => (F5 b q1 (by omega)).trans (o5 b (by omega))
  have F3 : ∀ b : Nat, b ≠ a → b < a + 3 → g8 b = g3 b := fun b q1 q2 => (F4 b q1 (by omega)).trans (o4 b (by omega))
  have F2 : ∀ b : Nat, b ≠ a → b < a + 2 → g8 b = g2 b := fun b q1 q2 => (F3 b q1 (by omega)).trans (o3 b (by omega))
  have F1 : ∀ b : Nat, b ≠ a → b < a + 2 → g8 b = g1 b := fun b q1 q2 => (F2 b q1 (by omega)).trans (o2 b (by omega))
  exact ⟨rfl, (by
      refine ⟨H, fun q hq => ?_⟩
      simp only [C9, List.mem_cons, List.not_mem_nil, or_false] at hq
      rcases hq with rfl | rfl | rfl | rfl
      · exact (F1 (a + 1) (by omega) (by omega)).trans e1
      · exact (F3 (a + 2) (by omega) (by omega)).trans e3
      · exact (F5 (a + 3) (by omega) (by omega)).trans e5
      · exact (F7 (a + 4) (by omega) (by omega)).trans e7), fun b hb => (o8 b (by omega)).trans ((o7 b (by omega)).trans ((o6 b (by omega)).trans ((o5 b (by omega)).trans ((o4 b (by omega)).trans ((o3 b (by omega)).trans ((o2 b (by omega)).trans ((o1 b (by omega)))))))))⟩
set_option maxRecDepth 100000 in
set_option maxHeartbeats 2000000 in
theorem ini10_V {d n0 : Nat} {κ : Kd} (hd : 2 ≤ d) {h : Hp} {a : Nat} (hn : n0 = a + 1) (H : h a = some (.inr (10, [.int 0, .null, .null, .null, .null]))) : V MX10_init (d, 4, 80, n0, κ) 0 0 h 0 [some (.ref a)] [] (fun v h' => v = none ∧ isR C10 h' (a) (zS (fun _ => 0) (fun _ => 0)) ∧ ∀ b : Nat, (b < a ∨ a + 5 ≤ b) → h' b = h b) := by
  subst hn
  refine V.aload_n dX10_init_0 rfl ?_
  refine V.objInit ml_X10_3 im_objInit co_objInit dX10_init_1 (by omega) (Nat.le_of_ble_eq_true rfl) ?_
  refine V.aload_n dX10_init_4 rfl ?_
  refine V.bipush (v := 20) dX10_init_5 (by decide) ?_
  refine V.newIA (M := 20) (a + 1) (by omega) ac_int dX10_init_7 (by decide) (by decide) (by decide) ⟨Nat.le_of_ble_eq_true rfl, Nat.le_of_ble_eq_true rfl⟩ (fun g1 e1 o1 => ?_)
  have H := (o1 _ (by omega)).trans H
  refine V.putfFH okX10 1 fl_X10_9 dX10_init_9 (by decide) rfl rfl rfl H rfl rfl (Nat.le_of_ble_eq_true rfl) (fun g2 e2 o2 => ?_)
  have H := e2
  refine V.aload_n dX10_init_12 rfl ?_
  refine V.bipush (v := 20) dX10_init_13 (by decide) ?_
  refine V.newIA (M := 20) (a + 2) (by omega) ac_int dX10_init_15 (by decide) (by decide) (by decide) ⟨Nat.le_of_ble_eq_true rfl, Nat.le_of_ble_eq_true rfl⟩ (fun g3 e3 o3 => ?_)
  have H := (o3 _ (by omega)).trans H
  refine V.putfFH okX10 2 fl_X10_15 dX10_init_17 (by decide) rfl rfl rfl H rfl rfl (Nat.le_of_ble_eq_true rfl) (fun g4 e4 o4 => ?_)
  have H := e4
  refine V.aload_n dX10_init_20 rfl ?_
  refine V.bipush (v := 20) dX10_init_21 (by decide) ?_
  refine V.newIA (M := 20) (a + 3) (by omega) ac_int dX10_init_23 (by decide) (by decide) (by decide) ⟨Nat.le_of_ble_eq_true rfl, Nat.le_of_ble_eq_true rfl⟩ (fun g5 e5 o5 => ?_)
  have H := (o5 _ (by omega)).trans H
  refine V.putfFH okX10 3 fl_X10_18 dX10_init_25 (by decide) rfl rfl rfl H rfl rfl (Nat.le_of_ble_eq_true rfl) (fun g6 e6 o6 => ?_)
  have H := e6
  refine V.aload_n dX10_init_28 rfl ?_
  refine V.bipush (v := 20) dX10_init_29 (by decide) ?_
  refine V.newIA (M := 20) (a + 4) (by omega) ac_int dX10_init_31 (by decide) (by decide) (by decide) ⟨Nat.le_of_ble_eq_true rfl, Nat.le_of_ble_eq_true rfl⟩ (fun g7 e7 o7 => ?_)
  have H := (o7 _ (by omega)).trans H
  refine V.putfFH okX10 4 fl_X10_21 dX10_init_33 (by decide) rfl rfl rfl H rfl rfl (Nat.le_of_ble_eq_true rfl) (fun g8 e8 o8 => ?_)
  have H := e8
  refine V.vret dX10_init_36 rfl ?_
  have F8 : ∀ b : Nat, b ≠ a → g8 b = g8 b := fun _ _ => rfl
  have F7 : ∀ b : Nat, b ≠ a → b < a + 5 → g8 b = g7 b := fun b q1 q2 => (F8 b q1).trans (o8 b (by omega))
  have F6 : ∀ b : Nat, b ≠ a → b < a + 4 → g8 b = g6 b := fun b q1 q2 => (F7 b q1 (by omega)).trans (o7 b (by omega))
  have F5 : ∀ b : Nat, b ≠ a → b < a + 4 → g8 b = g5 b := fun b q1 q2 => (F6 b q1 (by omega)).trans (o6 b (by omega))
  have F4 : ∀ b : Nat, b ≠ a → b < a + 3 → g8 b = g4 b := fun b q1 q2 => (F5 b q1 (by omega)).trans (o5 b (by omega))
  have F3 : ∀ b : Nat, b ≠ a → b < a + 3 → g8 b = g3 b := fun b q1 q2 => (F4 b q1 (by omega)).trans (o4 b (by omega))
  have F2 : ∀ b : Nat, b ≠ a → b < a + 2 → g8 b = g2 b := fun b q1 q2 => (F3 b q1 (by omega)).trans (o3 b (by omega))
  have F1 : ∀ b : Nat, b ≠ a → b < a + 2 → g8 b = g1 b := fun b q1 q2 => (F2 b q1 (by omega)).trans (o2 b (by omega))
  exact ⟨rfl, (by
      refine ⟨H, fun q hq => ?_⟩
      simp only [C10, List.mem_cons, List.not_mem_nil, or_false] at hq
      rcases hq with rfl | rfl | rfl | rfl
      · exact (F1 (a + 1) (by omega) (by omega)).trans e1
      · exact (F3 (a + 2) (by omega) (by omega)).trans e3
      · exact (F5 (a + 3) (by omega) (by omega)).trans e5
      · exact (F7 (a + 4) (by omega) (by omega)).trans e7), fun b hb => (o8 b (by omega)).trans ((o7 b (by omega)).trans ((o6 b (by omega)).trans ((o5 b (by omega)).trans ((o4 b (by omega)).trans ((o3 b (by omega)).trans ((o2 b (by omega)).trans ((o1 b (by omega)))))))))⟩
theorem isL_z {h : Hp} {t : Nat} (H : isR C4 h t (zS (fun _ => 0) (fun _ => 0))) : isL h t (zS (fun _ => 0) (fun _ => 0)) := by
  refine ⟨fun _ => 0, ?_⟩
  have e : uR (fun (_ _ : Nat) => (0 : Int64)) 6 (fun _ => 0) = fun _ _ => 0 := by
    funext j
    unfold uR
    split <;> rfl
  show isR C4 h t (_, _, uR (fun (_ _ : Nat) => (0 : Int64)) 6 (fun _ => 0), _)
  rw [e]
  exact H
def zT : Tx := (zS (fun _ => 0) (fun _ => 0), zS (upd (fun _ => 0) 1 (if 12 < 12 then 12 else 12)) (fun _ => 0), zS (upd (fun _ => 0) 1 (if 12 < 8 then 12 else 8)) (fun _ => 0), zS (fun _ => 0) (fun _ => 0))
set_option maxRecDepth 100000 in
set_option maxHeartbeats 2000000 in
theorem ini8_V {d n0 : Nat} {κ : Kd} (hd : 3 ≤ d) {h : Hp} {a : Nat} (hn : n0 = a + 1) (H : h a = some (.inr (8, [.int 0, .null, .null, .null, .null, .int 0, .int 0, .null, .null, .null, .int 0, .int 0, .int 0, .int 0]))) : V MX8_init (d, 18, 311, n0, κ) 0 0 h 0 [some (.ref a)] [] (fun v h' => v = none ∧ isT h' (a) zT ∧ ∀ b : Nat, (b < a ∨ a + 19 ≤ b) → h' b = h b) := by
  subst hn
  refine V.aload_n dX8_init_0 rfl ?_
  refine V.objInit ml_X8_3 im_objInit co_objInit dX8_init_1 (by omega) (Nat.le_of_ble_eq_true rfl) ?_
  refine V.aload_n dX8_init_4 rfl ?_
  refine V.bipush (v := 6) dX8_init_5 (by decide) ?_
  refine V.newIA (M := 6) (a + 1) (by omega) ac_int dX8_init_7 (by decide) (by decide) (by decide) ⟨Nat.le_of_ble_eq_true rfl, Nat.le_of_ble_eq_true rfl⟩ (fun g1 e1 o1 => ?_)
  have H := (o1 _ (by omega)).trans H
  refine V.putfFH okX8 1 fl_X8_9 dX8_init_9 (by decide) rfl rfl rfl H rfl rfl (Nat.le_of_ble_eq_true rfl) (fun g2 e2 o2 => ?_)
  have H := e2
  refine V.aload_n dX8_init_12 rfl ?_
  refine V.bipush (v := 6) dX8_init_13 (by decide) ?_
  refine V.newIA (M := 6) (a + 2) (by omega) ac_int dX8_init_15 (by decide) (by decide) (by decide) ⟨Nat.le_of_ble_eq_true rfl, Nat.le_of_ble_eq_true rfl⟩ (fun g3 e3 o3 => ?_)
  have H := (o3 _ (by omega)).trans H
  refine V.putfFH okX8 2 fl_X8_15 dX8_init_17 (by decide) rfl rfl rfl H rfl rfl (Nat.le_of_ble_eq_true rfl) (fun g4 e4 o4 => ?_)
  have H := e4
  refine V.aload_n dX8_init_20 rfl ?_
  refine V.bipush (v := 6) dX8_init_21 (by decide) ?_
  refine V.newJA (M := 6) (a + 3) (by omega) ac_long dX8_init_23 (by decide) (by decide) (by decide) ⟨Nat.le_of_ble_eq_true rfl, Nat.le_of_ble_eq_true rfl⟩ (fun g5 e5 o5 => ?_)
  have H := (o5 _ (by omega)).trans H
  refine V.putfFH okX8 3 fl_X8_18 dX8_init_25 (by decide) rfl rfl rfl H rfl rfl (Nat.le_of_ble_eq_true rfl) (fun g6 e6 o6 => ?_)
  have H := e6
  refine V.aload_n dX8_init_28 rfl ?_
  refine V.bipush (v := 6) dX8_init_29 (by decide) ?_
  refine V.newIA (M := 6) (a + 4) (by omega) ac_int dX8_init_31 (by decide) (by decide) (by decide) ⟨Nat.le_of_ble_eq_true rfl, Nat.le_of_ble_eq_true rfl⟩ (fun g7 e7 o7 => ?_)
  have H := (o7 _ (by omega)).trans H
  refine V.putfFH okX8 4 fl_X8_22 dX8_init_33 (by decide) rfl rfl rfl H rfl rfl (Nat.le_of_ble_eq_true rfl) (fun g8 e8 o8 => ?_)
  have H := e8
  refine V.aload_n dX8_init_36 rfl ?_
  refine V.newA (fs := [.int 0, .int 0, .null, .null, .null]) okX2 (a + 5) (by omega) cl_X8_25 ins_X2 ini_X2 dX8_init_37 (fun j hj => by rcases (show j = 0 ∨ j = 1 ∨ j = 2 ∨ j = 3 ∨ j = 4 by omega) with rfl | rfl | rfl | rfl | rfl <;> rfl) ⟨Nat.le_of_ble_eq_true rfl, Nat.le_of_ble_eq_true rfl⟩ (fun g9 e9 o9 => ?_)
  have H := (o9 _ (by omega)).trans H
  refine V.dup dX8_init_40 rfl ?_
  refine V.bipush (v := 12) dX8_init_41 (by decide) ?_
  refine V.cI1 yoX2_init rfl rfl ml_X8_27 im_X2_init dX8_init_43 (Nat.le_of_ble_eq_true rfl) (by omega) ⟨Nat.le_of_ble_eq_true rfl, Nat.le_of_ble_eq_true rfl⟩ rfl (Nat.le_of_ble_eq_true rfl) (ini2_V (a := a + 5) (by omega) (by omega) e9) ?_
  rintro _ g10 ⟨rfl, k10, o10⟩
  have H := (o10 _ (by omega)).trans H
  refine V.putfFH okX8 7 fl_X8_30 dX8_init_46 (by decide) rfl rfl rfl H rfl rfl (Nat.le_of_ble_eq_true rfl) (fun g11 e11 o11 => ?_)
  have H := e11
  refine V.aload_n dX8_init_49 rfl ?_
  refine V.newA (fs := [.int 0, .int 0, .null, .null, .null]) okX2 (a + 9) (by omega) cl_X8_25 ins_X2 ini_X2 dX8_init_50 (fun j hj => by rcases (show j = 0 ∨ j = 1 ∨ j = 2 ∨ j = 3 ∨ j = 4 by omega) with rfl | rfl | rfl | rfl | rfl <;> rfl) ⟨Nat.le_of_ble_eq_true rfl, Nat.le_of_ble_eq_true rfl⟩ (fun g12 e12 o12 => ?_)
  have H := (o12 _ (by omega)).trans H
  refine V.dup dX8_init_53 rfl ?_
  refine V.bipush (v := 8) dX8_init_54 (by decide) ?_
  refine V.cI1 yoX2_init rfl rfl ml_X8_27 im_X2_init dX8_init_56 (Nat.le_of_ble_eq_true rfl) (by omega) ⟨Nat.le_of_ble_eq_true rfl, Nat.le_of_ble_eq_true rfl⟩ rfl (Nat.le_of_ble_eq_true rfl) (ini2_V (a := a + 9) (by omega) (by omega) e12) ?_
  rintro _ g13 ⟨rfl, k13, o13⟩
  have H := (o13 _ (by omega)).trans H
  refine V.putfFH okX8 8 fl_X8_34 dX8_init_59 (by decide) rfl rfl rfl H rfl rfl (Nat.le_of_ble_eq_true rfl) (fun g14 e14 o14 => ?_)
  have H := e14
  refine V.aload_n dX8_init_62 rfl ?_
  refine V.newA (fs := [.int 0, .int 0, .null, .null, .null, .null, .null]) okX4 (a + 13) (by omega) cl_X8_37 ins_X4 ini_X4 dX8_init_63 (fun j hj => by rcases (show j = 0 ∨ j = 1 ∨ j = 2 ∨ j = 3 ∨ j = 4 ∨ j = 5 ∨ j = 6 by omega) with rfl | rfl | rfl | rfl | rfl | rfl | rfl <;> rfl) ⟨Nat.le_of_ble_eq_true rfl, Nat.le_of_ble_eq_true rfl⟩ (fun g15 e15 o15 => ?_)
  have H := (o15 _ (by omega)).trans H
  refine V.dup dX8_init_66 rfl ?_
  refine V.cIN0 yoX4_init rfl rfl nw_X8_39 im_X4_init dX8_init_67 (Nat.le_of_ble_eq_true rfl) (by omega) ⟨Nat.le_of_ble_eq_true rfl, Nat.le_of_ble_eq_true rfl⟩ rfl (Nat.le_of_ble_eq_true rfl) (ini4_V (a := a + 13) (by omega) (by omega) e15) ?_
  rintro _ g16 ⟨rfl, k16, o16⟩
  have H := (o16 _ (by omega)).trans H
  refine V.putfFH okX8 9 fl_X8_40 dX8_init_70 (by decide) rfl rfl rfl H rfl rfl (Nat.le_of_ble_eq_true rfl) (fun g17 e17 o17 => ?_)
  have H := e17
  refine V.vret dX8_init_73 rfl ?_
  have F17 : ∀ b : Nat, b ≠ a → g17 b = g17 b := fun _ _ => rfl
  have F16 : ∀ b : Nat, b ≠ a → b < a + 19 → g17 b = g16 b := fun b q1 q2 => (F17 b q1).trans (o17 b (by omega))
  have F15 : ∀ b : Nat, b ≠ a → b < a + 13 → g17 b = g15 b := fun b q1 q2 => (F16 b q1 (by omega)).trans (o16 b (by omega))
  have F14 : ∀ b : Nat, b ≠ a → b < a + 13 → g17 b = g14 b := fun b q1 q2 => (F15 b q1 (by omega)).trans (o15 b (by omega))
  have F13 : ∀ b : Nat, b ≠ a → b < a + 13 → g17 b = g13 b := fun b q1 q2 => (F14 b q1 (by omega)).trans (o14 b (by omega))
  have F12 : ∀ b : Nat, b ≠ a → b < a + 9 → g17 b = g12 b := fun b q1 q2 => (F13 b q1 (by omega)).trans (o13 b (by omega))
  have F11 : ∀ b : Nat, b ≠ a → b < a + 9 → g17 b = g11 b := fun b q1 q2 => (F12 b q1 (by omega)).trans (o12 b (by omega))
  have F10 : ∀ b : Nat, b ≠ a → b < a + 9 → g17 b = g10 b := fun b q1 q2 => (F11 b q1 (by omega)).trans (o11 b (by omega))
  have F9 : ∀ b : Nat, b ≠ a → b < a + 5 → g17 b = g9 b := fun b q1 q2 => (F10 b q1 (by omega)).trans (o10 b (by omega))
  have F8 : ∀ b : Nat, b ≠ a → b < a + 5 → g17 b = g8 b := fun b q1 q2 => (F9 b q1 (by omega)).trans (o9 b (by omega))
  have F7 : ∀ b : Nat, b ≠ a → b < a + 5 → g17 b = g7 b := fun b q1 q2 => (F8 b q1 (by omega)).trans (o8 b (by omega))
  have F6 : ∀ b : Nat, b ≠ a → b < a + 4 → g17 b = g6 b := fun b q1 q2 => (F7 b q1 (by omega)).trans (o7 b (by omega))
  have F5 : ∀ b : Nat, b ≠ a → b < a + 4 → g17 b = g5 b := fun b q1 q2 => (F6 b q1 (by omega)).trans (o6 b (by omega))
  have F4 : ∀ b : Nat, b ≠ a → b < a + 3 → g17 b = g4 b := fun b q1 q2 => (F5 b q1 (by omega)).trans (o5 b (by omega))
  have F3 : ∀ b : Nat, b ≠ a → b < a + 3 → g17 b = g3 b := fun b q1 q2 => (F4 b q1 (by omega)).trans (o4 b (by omega))
  have F2 : ∀ b : Nat, b ≠ a → b < a + 2 → g17 b = g2 b := fun b q1 q2 => (F3 b q1 (by omega)).trans (o3 b (by omega))
  have F1 : ∀ b : Nat, b ≠ a → b < a + 2 → g17 b = g1 b := fun b q1 q2 => (F2 b q1 (by omega)).trans (o2 b (by omega))
  exact ⟨rfl, ⟨(by
      refine ⟨H, fun q hq => ?_⟩
      simp only [C8, List.mem_cons, List.not_mem_nil, or_false] at hq
      rcases hq with rfl | rfl | rfl | rfl
      · exact (F1 (a + 1) (by omega) (by omega)).trans e1
      · exact (F3 (a + 2) (by omega) (by omega)).trans e3
      · exact (F5 (a + 3) (by omega) (by omega)).trans e5
      · exact (F7 (a + 4) (by omega) (by omega)).trans e7), (k10.kept C2_ok (fun b b1 b2 => F10 b (by omega) (by have b3 : b < a + 5 + 4 := b2; omega))), (k13.kept C2_ok (fun b b1 b2 => F13 b (by omega) (by have b3 : b < a + 9 + 4 := b2; omega))), isL_z (k16.kept C4_ok (fun b b1 b2 => F16 b (by omega) (by have b3 : b < a + 13 + 6 := b2; omega)))⟩, fun b hb => (o17 b (by omega)).trans ((o16 b (by omega)).trans ((o15 b (by omega)).trans ((o14 b (by omega)).trans ((o13 b (by omega)).trans ((o12 b (by omega)).trans ((o11 b (by omega)).trans ((o10 b (by omega)).trans ((o9 b (by omega)).trans ((o8 b (by omega)).trans ((o7 b (by omega)).trans ((o6 b (by omega)).trans ((o5 b (by omega)).trans ((o4 b (by omega)).trans ((o3 b (by omega)).trans ((o2 b (by omega)).trans ((o1 b (by omega))))))))))))))))))⟩
set_option maxRecDepth 100000 in
set_option maxHeartbeats 2000000 in
theorem ini1_V {d n0 : Nat} {κ : Kd} (hd : 4 ≤ d) {h : Hp} {a : Nat} (hn : n0 = a + 1) (H : h a = some (.inr (1, [.null, .int 0, .int 0, .int 0, .int 0]))) : V MX1_init (d, 19, 325, n0, κ) 0 0 h 0 [some (.ref a)] [] (fun v h' => v = none ∧ isR C1 h' (a) (zS (upd (fun _ => 0) 2 (-1)) (uN (fun _ => 0) 0 (a + 1))) ∧ ∀ b : Nat, (b < a ∨ a + 20 ≤ b) → h' b = h b) := by
  subst hn
  refine V.aload_n dX1_init_0 rfl ?_
  refine V.objInit ml_X1_3 im_objInit co_objInit dX1_init_1 (by omega) (Nat.le_of_ble_eq_true rfl) ?_
  refine V.aload_n dX1_init_4 rfl ?_
  refine V.newA (fs := [.int 0, .null, .null, .null, .null, .int 0, .int 0, .null, .null, .null, .int 0, .int 0, .int 0, .int 0]) okX8 (a + 1) (by omega) cl_X1_9 ins_X8 ini_X8 dX1_init_5 (fun j hj => by rcases (show j = 0 ∨ j = 1 ∨ j = 2 ∨ j = 3 ∨ j = 4 ∨ j = 5 ∨ j = 6 ∨ j = 7 ∨ j = 8 ∨ j = 9 ∨ j = 10 ∨ j = 11 ∨ j = 12 ∨ j = 13 by omega) with rfl | rfl | rfl | rfl | rfl | rfl | rfl | rfl | rfl | rfl | rfl | rfl | rfl | rfl <;> rfl) ⟨Nat.le_of_ble_eq_true rfl, Nat.le_of_ble_eq_true rfl⟩ (fun g1 e1 o1 => ?_)
  have H := (o1 _ (by omega)).trans H
  refine V.dup dX1_init_8 rfl ?_
  refine V.cIN0 yoX8_init rfl rfl nw_X1_11 im_X8_init dX1_init_9 (Nat.le_of_ble_eq_true rfl) (by omega) ⟨Nat.le_of_ble_eq_true rfl, Nat.le_of_ble_eq_true rfl⟩ rfl (Nat.le_of_ble_eq_true rfl) (ini8_V (a := a + 1) (by omega) (by omega) e1) ?_
  rintro _ g2 ⟨rfl, k2, o2⟩
  have H := (o2 _ (by omega)).trans H
  refine V.putfH okX1 0 fl_X1_12 dX1_init_12 (by decide) rfl H rfl rfl (Nat.le_of_ble_eq_true rfl) (fun g3 e3 o3 => ?_)
  have H := e3
  refine V.aload_n dX1_init_15 rfl ?_
  refine V.iconst (v := (-1)) dX1_init_16 (by decide) ?_
  refine V.putfH okX1 2 fl_X1_18 dX1_init_17 (by decide) rfl H rfl rfl (Nat.le_of_ble_eq_true rfl) (fun g4 e4 o4 => ?_)
  have H := e4
  refine V.vret dX1_init_20 rfl ?_
  have F4 : ∀ b : Nat, b ≠ a → g4 b = g4 b := fun _ _ => rfl
  have F3 : ∀ b : Nat, b ≠ a → b < a + 20 → g4 b = g3 b := fun b q1 q2 => (F4 b q1).trans (o4 b (by omega))
  have F2 : ∀ b : Nat, b ≠ a → b < a + 20 → g4 b = g2 b := fun b q1 q2 => (F3 b q1 (by omega)).trans (o3 b (by omega))
  have F1 : ∀ b : Nat, b ≠ a → b < a + 1 → g4 b = g1 b := fun b q1 q2 => (F2 b q1 (by omega)).trans (o2 b (by omega))
  exact ⟨rfl, ⟨H, fun q hq => absurd hq List.not_mem_nil⟩, fun b hb => (o4 b (by omega)).trans ((o3 b (by omega)).trans ((o2 b (by omega)).trans ((o1 b (by omega)))))⟩
set_option maxRecDepth 100000 in
set_option maxHeartbeats 2000000 in
theorem ini6_V {d n0 : Nat} {κ : Kd} (hd : 4 ≤ d) {h : Hp} {a : Nat} (hn : n0 = a + 1) (H : h a = some (.inr (6, [.int 0, .int 0, .null, .null, .null, .int 0, .int 0]))) : V MX6_init (d, 22, 403, n0, κ) 0 0 h 0 [some (.ref a)] [] (fun v h' => v = none ∧ (isR C6 h' (a) (zS (upd (fun _ => 0) 1 (-1)) (uN (fun _ => 0) 3 (a + 3))) ∧ isR C7 h' (a + 1) (zS (fun _ => 0) (uN (fun _ => 0) 0 (a + 1 + 1)))) ∧ ∀ b : Nat, (b < a ∨ a + 23 ≤ b) → h' b = h b) := by
  subst hn
  refine V.aload_n dX6_init_0 rfl ?_
  refine V.objInit ml_X6_3 im_objInit co_objInit dX6_init_1 (by omega) (Nat.le_of_ble_eq_true rfl) ?_
  refine V.aload_n dX6_init_4 rfl ?_
  refine V.iconst (v := (-1)) dX6_init_5 (by decide) ?_
  refine V.putfH okX6 1 fl_X6_9 dX6_init_6 (by decide) rfl H rfl rfl (Nat.le_of_ble_eq_true rfl) (fun g1 e1 o1 => ?_)
  have H := e1
  refine V.aload_n dX6_init_9 rfl ?_
  refine V.newA (fs := [.null, .int 0, .int 0, .int 0, .int 0, .int 0]) okX7 (a + 1) (by omega) cl_X6_15 ins_X7 ini_X7 dX6_init_10 (fun j hj => by rcases (show j = 0 ∨ j = 1 ∨ j = 2 ∨ j = 3 ∨ j = 4 ∨ j = 5 by omega) with rfl | rfl | rfl | rfl | rfl | rfl <;> rfl) ⟨Nat.le_of_ble_eq_true rfl, Nat.le_of_ble_eq_true rfl⟩ (fun g2 e2 o2 => ?_)
  have H := (o2 _ (by omega)).trans H
  refine V.dup dX6_init_13 rfl ?_
  refine V.cIN0 yoX7_init rfl rfl nw_X6_17 im_X7_init dX6_init_14 (Nat.le_of_ble_eq_true rfl) (by omega) ⟨Nat.le_of_ble_eq_true rfl, Nat.le_of_ble_eq_true rfl⟩ rfl (Nat.le_of_ble_eq_true rfl) (ini7_V (a := a + 1) (by omega) (by omega) e2) ?_
  rintro _ g3 ⟨rfl, k3, o3⟩
  have H := (o3 _ (by omega)).trans H
  refine V.putfFH okX6 2 fl_X6_18 dX6_init_17 (by decide) rfl rfl rfl H rfl rfl (Nat.le_of_ble_eq_true rfl) (fun g4 e4 o4 => ?_)
  have H := e4
  refine V.aload_n dX6_init_20 rfl ?_
  refine V.newA (fs := [.int 0, .null, .null, .null, .null, .int 0, .int 0, .null, .null, .null, .int 0, .int 0, .int 0, .int 0]) okX8 (a + 3) (by omega) cl_X6_22 ins_X8 ini_X8 dX6_init_21 (fun j hj => by rcases (show j = 0 ∨ j = 1 ∨ j = 2 ∨ j = 3 ∨ j = 4 ∨ j = 5 ∨ j = 6 ∨ j = 7 ∨ j = 8 ∨ j = 9 ∨ j = 10 ∨ j = 11 ∨ j = 12 ∨ j = 13 by omega) with rfl | rfl | rfl | rfl | rfl | rfl | rfl | rfl | rfl | rfl | rfl | rfl | rfl | rfl <;> rfl) ⟨Nat.le_of_ble_eq_true rfl, Nat.le_of_ble_eq_true rfl⟩ (fun g5 e5 o5 => ?_)
  have H := (o5 _ (by omega)).trans H
  refine V.dup dX6_init_24 rfl ?_
  refine V.cIN0 yoX8_init rfl rfl nw_X6_24 im_X8_init dX6_init_25 (Nat.le_of_ble_eq_true rfl) (by omega) ⟨Nat.le_of_ble_eq_true rfl, Nat.le_of_ble_eq_true rfl⟩ rfl (Nat.le_of_ble_eq_true rfl) (ini8_V (a := a + 3) (by omega) (by omega) e5) ?_
  rintro _ g6 ⟨rfl, k6, o6⟩
  have H := (o6 _ (by omega)).trans H
  refine V.putfH okX6 3 fl_X6_25 dX6_init_28 (by decide) rfl H rfl rfl (Nat.le_of_ble_eq_true rfl) (fun g7 e7 o7 => ?_)
  have H := e7
  refine V.aload_n dX6_init_31 rfl ?_
  refine V.bipush (v := 72) dX6_init_32 (by decide) ?_
  refine V.newIA (M := 72) (a + 22) (by omega) ac_int dX6_init_34 (by decide) (by decide) (by decide) ⟨Nat.le_of_ble_eq_true rfl, Nat.le_of_ble_eq_true rfl⟩ (fun g8 e8 o8 => ?_)
  have H := (o8 _ (by omega)).trans H
  refine V.putfFH okX6 4 fl_X6_29 dX6_init_36 (by decide) rfl rfl rfl H rfl rfl (Nat.le_of_ble_eq_true rfl) (fun g9 e9 o9 => ?_)
  have H := e9
  refine V.vret dX6_init_39 rfl ?_
  have F9 : ∀ b : Nat, b ≠ a → g9 b = g9 b := fun _ _ => rfl
  have F8 : ∀ b : Nat, b ≠ a → b < a + 23 → g9 b = g8 b := fun b q1 q2 => (F9 b q1).trans (o9 b (by omega))
  have F7 : ∀ b : Nat, b ≠ a → b < a + 22 → g9 b = g7 b := fun b q1 q2 => (F8 b q1 (by omega)).trans (o8 b (by omega))
  have F6 : ∀ b : Nat, b ≠ a → b < a + 22 → g9 b = g6 b := fun b q1 q2 => (F7 b q1 (by omega)).trans (o7 b (by omega))
  have F5 : ∀ b : Nat, b ≠ a → b < a + 3 → g9 b = g5 b := fun b q1 q2 => (F6 b q1 (by omega)).trans (o6 b (by omega))
  have F4 : ∀ b : Nat, b ≠ a → b < a + 3 → g9 b = g4 b := fun b q1 q2 => (F5 b q1 (by omega)).trans (o5 b (by omega))
  have F3 : ∀ b : Nat, b ≠ a → b < a + 3 → g9 b = g3 b := fun b q1 q2 => (F4 b q1 (by omega)).trans (o4 b (by omega))
  have F2 : ∀ b : Nat, b ≠ a → b < a + 1 → g9 b = g2 b := fun b q1 q2 => (F3 b q1 (by omega)).trans (o3 b (by omega))
  have F1 : ∀ b : Nat, b ≠ a → b < a + 1 → g9 b = g1 b := fun b q1 q2 => (F2 b q1 (by omega)).trans (o2 b (by omega))
  exact ⟨rfl, ⟨(by
      refine ⟨H, fun q hq => ?_⟩
      simp only [C6, List.mem_cons, List.not_mem_nil, or_false] at hq
      subst hq
      · exact (F8 (a + 22) (by omega) (by omega)).trans e8), (k3.kept C7_ok (fun b b1 b2 => F3 b (by omega) (by have b3 : b < a + 1 + 1 := b2; omega)))⟩, fun b hb => (o9 b (by omega)).trans ((o8 b (by omega)).trans ((o7 b (by omega)).trans ((o6 b (by omega)).trans ((o5 b (by omega)).trans ((o4 b (by omega)).trans ((o3 b (by omega)).trans ((o2 b (by omega)).trans ((o1 b (by omega))))))))))⟩
/-- a new BurntEnds -/
def zB0 (a : Nat) : FS := mkF (zS (fun _ => 0) (uN (uN (fun _ => 0) 3 (a + 25)) 4 (a + 44))) zT zT (zS (fun _ => 0) (fun _ => 0)) (zS (fun _ => 0) (fun _ => 0)) (zS (fun _ => 0) (fun _ => 0)) (zS (fun _ => 0) (fun _ => 0)) (zS (upd (fun _ => 0) 1 (-1)) (fun _ => 0)) (zS (upd (fun _ => 0) 2 (-1)) (uN (fun _ => 0) 0 (a + 84 + 1))) (zS (fun _ => 0) (fun _ => 0)) (zS (fun _ => 0) (fun _ => 0)) (zS (upd (fun _ => 0) 1 (-1)) (uN (fun _ => 0) 3 (a + 2 + 3))) (zS (fun _ => 0) (uN (fun _ => 0) 0 (a + 3 + 1)))
set_option maxRecDepth 100000 in
set_option maxHeartbeats 2000000 in
theorem ini11_V {d n0 : Nat} {κ : Kd} (hd : 5 ≤ d) {h : Hp} {a : Nat} (hn : n0 = a + 1) (H : h a = some (.inr (11, [.null, .int 0, .null, .null, .null, .null, .null, .int 0, .null, .null, .null, .null, .null, .null, .null, .null]))) : V MX11_init (d, 123, 2823, n0, κ) 0 0 h 0 [some (.ref a)] [] (fun v h' => v = none ∧ isB h' a (zB0 a) ∧ ∀ b : Nat, (b < a ∨ a + 124 ≤ b) → h' b = h b) := by
  subst hn
  refine V.aload_n dX11_init_0 rfl ?_
  refine V.objInit ml_X11_5 im_objInit co_objInit dX11_init_1 (by omega) (Nat.le_of_ble_eq_true rfl) ?_
  refine V.aload_n dX11_init_4 rfl ?_
  refine V.sipush (v := 700) dX11_init_5 (by decide) ?_
  refine V.newIA (M := 700) (a + 1) (by omega) ac_int dX11_init_8 (by decide) (by decide) (by decide) ⟨Nat.le_of_ble_eq_true rfl, Nat.le_of_ble_eq_true rfl⟩ (fun g1 e1 o1 => ?_)
  have H := (o1 _ (by omega)).trans H
  refine V.putfFH okX11 0 fl_X11_11 dX11_init_10 (by decide) rfl rfl rfl H rfl rfl (Nat.le_of_ble_eq_true rfl) (fun g2 e2 o2 => ?_)
  have H := e2
  refine V.aload_n dX11_init_13 rfl ?_
  refine V.newA (fs := [.int 0, .int 0, .null, .null, .null, .int 0, .int 0]) okX6 (a + 2) (by omega) cl_X11_15 ins_X6 ini_X6 dX11_init_14 (fun j hj => by rcases (show j = 0 ∨ j = 1 ∨ j = 2 ∨ j = 3 ∨ j = 4 ∨ j = 5 ∨ j = 6 by omega) with rfl | rfl | rfl | rfl | rfl | rfl | rfl <;> rfl) ⟨Nat.le_of_ble_eq_true rfl, Nat.le_of_ble_eq_true rfl⟩ (fun g3 e3 o3 => ?_)
  have H := (o3 _ (by omega)).trans H
  refine V.dup dX11_init_17 rfl ?_
  refine V.cIN0 yoX6_init rfl rfl nw_X11_17 im_X6_init dX11_init_18 (Nat.le_of_ble_eq_true rfl) (by omega) ⟨Nat.le_of_ble_eq_true rfl, Nat.le_of_ble_eq_true rfl⟩ rfl (Nat.le_of_ble_eq_true rfl) (ini6_V (a := a + 2) (by omega) (by omega) e3) ?_
  rintro _ g4 ⟨rfl, k4, o4⟩
  have H := (o4 _ (by omega)).trans H
  refine V.putfFH okX11 2 fl_X11_18 dX11_init_21 (by decide) rfl rfl rfl H rfl rfl (Nat.le_of_ble_eq_true rfl) (fun g5 e5 o5 => ?_)
  have H := e5
  refine V.aload_n dX11_init_24 rfl ?_
  refine V.newA (fs := [.int 0, .null, .null, .null, .null, .int 0, .int 0, .null, .null, .null, .int 0, .int 0, .int 0, .int 0]) okX8 (a + 25) (by omega) cl_X11_22 ins_X8 ini_X8 dX11_init_25 (fun j hj => by rcases (show j = 0 ∨ j = 1 ∨ j = 2 ∨ j = 3 ∨ j = 4 ∨ j = 5 ∨ j = 6 ∨ j = 7 ∨ j = 8 ∨ j = 9 ∨ j = 10 ∨ j = 11 ∨ j = 12 ∨ j = 13 by omega) with rfl | rfl | rfl | rfl | rfl | rfl | rfl | rfl | rfl | rfl | rfl | rfl | rfl | rfl <;> rfl) ⟨Nat.le_of_ble_eq_true rfl, Nat.le_of_ble_eq_true rfl⟩ (fun g6 e6 o6 => ?_)
  have H := (o6 _ (by omega)).trans H
  refine V.dup dX11_init_28 rfl ?_
  refine V.cIN0 yoX8_init rfl rfl nw_X11_24 im_X8_init dX11_init_29 (Nat.le_of_ble_eq_true rfl) (by omega) ⟨Nat.le_of_ble_eq_true rfl, Nat.le_of_ble_eq_true rfl⟩ rfl (Nat.le_of_ble_eq_true rfl) (ini8_V (a := a + 25) (by omega) (by omega) e6) ?_
  rintro _ g7 ⟨rfl, k7, o7⟩
  have H := (o7 _ (by omega)).trans H
  refine V.putfH okX11 3 fl_X11_25 dX11_init_32 (by decide) rfl H rfl rfl (Nat.le_of_ble_eq_true rfl) (fun g8 e8 o8 => ?_)
  have H := e8
  refine V.aload_n dX11_init_35 rfl ?_
  refine V.newA (fs := [.int 0, .null, .null, .null, .null, .int 0, .int 0, .null, .null, .null, .int 0, .int 0, .int 0, .int 0]) okX8 (a + 44) (by omega) cl_X11_22 ins_X8 ini_X8 dX11_init_36 (fun j hj => by rcases (show j = 0 ∨ j = 1 ∨ j = 2 ∨ j = 3 ∨ j = 4 ∨ j = 5 ∨ j = 6 ∨ j = 7 ∨ j = 8 ∨ j = 9 ∨ j = 10 ∨ j = 11 ∨ j = 12 ∨ j = 13 by omega) with rfl | rfl | rfl | rfl | rfl | rfl | rfl | rfl | rfl | rfl | rfl | rfl | rfl | rfl <;> rfl) ⟨Nat.le_of_ble_eq_true rfl, Nat.le_of_ble_eq_true rfl⟩ (fun g9 e9 o9 => ?_)
  have H := (o9 _ (by omega)).trans H
  refine V.dup dX11_init_39 rfl ?_
  refine V.cIN0 yoX8_init rfl rfl nw_X11_24 im_X8_init dX11_init_40 (Nat.le_of_ble_eq_true rfl) (by omega) ⟨Nat.le_of_ble_eq_true rfl, Nat.le_of_ble_eq_true rfl⟩ rfl (Nat.le_of_ble_eq_true rfl) (ini8_V (a := a + 44) (by omega) (by omega) e9) ?_
  rintro _ g10 ⟨rfl, k10, o10⟩
  have H := (o10 _ (by omega)).trans H
  refine V.putfH okX11 4 fl_X11_29 dX11_init_43 (by decide) rfl H rfl rfl (Nat.le_of_ble_eq_true rfl) (fun g11 e11 o11 => ?_)
  have H := e11
  refine V.aload_n dX11_init_46 rfl ?_
  refine V.newA (fs := [.int 0, .null, .null, .null, .null, .null, .null, .int 0, .int 0, .int 0, .int 0]) okX0 (a + 63) (by omega) cl_X11_32 ins_X0 ini_X0 dX11_init_47 (fun j hj => by rcases (show j = 0 ∨ j = 1 ∨ j = 2 ∨ j = 3 ∨ j = 4 ∨ j = 5 ∨ j = 6 ∨ j = 7 ∨ j = 8 ∨ j = 9 ∨ j = 10 by omega) with rfl | rfl | rfl | rfl | rfl | rfl | rfl | rfl | rfl | rfl | rfl <;> rfl) ⟨Nat.le_of_ble_eq_true rfl, Nat.le_of_ble_eq_true rfl⟩ (fun g12 e12 o12 => ?_)
  have H := (o12 _ (by omega)).trans H
  refine V.dup dX11_init_50 rfl ?_
  refine V.cIN0 yoX0_init rfl rfl nw_X11_34 im_X0_init dX11_init_51 (Nat.le_of_ble_eq_true rfl) (by omega) ⟨Nat.le_of_ble_eq_true rfl, Nat.le_of_ble_eq_true rfl⟩ rfl (Nat.le_of_ble_eq_true rfl) (ini0_V (a := a + 63) (by omega) (by omega) e12) ?_
  rintro _ g13 ⟨rfl, k13, o13⟩
  have H := (o13 _ (by omega)).trans H
  refine V.putfFH okX11 5 fl_X11_35 dX11_init_54 (by decide) rfl rfl rfl H rfl rfl (Nat.le_of_ble_eq_true rfl) (fun g14 e14 o14 => ?_)
  have H := e14
  refine V.aload_n dX11_init_57 rfl ?_
  refine V.newA (fs := [.int 0, .null, .null, .null, .null, .null, .null, .int 0, .int 0, .int 0, .int 0]) okX0 (a + 70) (by omega) cl_X11_32 ins_X0 ini_X0 dX11_init_58 (fun j hj => by rcases (show j = 0 ∨ j = 1 ∨ j = 2 ∨ j = 3 ∨ j = 4 ∨ j = 5 ∨ j = 6 ∨ j = 7 ∨ j = 8 ∨ j = 9 ∨ j = 10 by omega) with rfl | rfl | rfl | rfl | rfl | rfl | rfl | rfl | rfl | rfl | rfl <;> rfl) ⟨Nat.le_of_ble_eq_true rfl, Nat.le_of_ble_eq_true rfl⟩ (fun g15 e15 o15 => ?_)
  have H := (o15 _ (by omega)).trans H
  refine V.dup dX11_init_61 rfl ?_
  refine V.cIN0 yoX0_init rfl rfl nw_X11_34 im_X0_init dX11_init_62 (Nat.le_of_ble_eq_true rfl) (by omega) ⟨Nat.le_of_ble_eq_true rfl, Nat.le_of_ble_eq_true rfl⟩ rfl (Nat.le_of_ble_eq_true rfl) (ini0_V (a := a + 70) (by omega) (by omega) e15) ?_
  rintro _ g16 ⟨rfl, k16, o16⟩
  have H := (o16 _ (by omega)).trans H
  refine V.putfFH okX11 6 fl_X11_39 dX11_init_65 (by decide) rfl rfl rfl H rfl rfl (Nat.le_of_ble_eq_true rfl) (fun g17 e17 o17 => ?_)
  have H := e17
  refine V.aload_n dX11_init_68 rfl ?_
  refine V.newA (fs := [.int 0, .null, .null, .null, .null, .null, .null, .int 0, .int 0, .int 0, .int 0]) okX0 (a + 77) (by omega) cl_X11_32 ins_X0 ini_X0 dX11_init_69 (fun j hj => by rcases (show j = 0 ∨ j = 1 ∨ j = 2 ∨ j = 3 ∨ j = 4 ∨ j = 5 ∨ j = 6 ∨ j = 7 ∨ j = 8 ∨ j = 9 ∨ j = 10 by omega) with rfl | rfl | rfl | rfl | rfl | rfl | rfl | rfl | rfl | rfl | rfl <;> rfl) ⟨Nat.le_of_ble_eq_true rfl, Nat.le_of_ble_eq_true rfl⟩ (fun g18 e18 o18 => ?_)
  have H := (o18 _ (by omega)).trans H
  refine V.dup dX11_init_72 rfl ?_
  refine V.cIN0 yoX0_init rfl rfl nw_X11_34 im_X0_init dX11_init_73 (Nat.le_of_ble_eq_true rfl) (by omega) ⟨Nat.le_of_ble_eq_true rfl, Nat.le_of_ble_eq_true rfl⟩ rfl (Nat.le_of_ble_eq_true rfl) (ini0_V (a := a + 77) (by omega) (by omega) e18) ?_
  rintro _ g19 ⟨rfl, k19, o19⟩
  have H := (o19 _ (by omega)).trans H
  refine V.putfFH okX11 8 fl_X11_42 dX11_init_76 (by decide) rfl rfl rfl H rfl rfl (Nat.le_of_ble_eq_true rfl) (fun g20 e20 o20 => ?_)
  have H := e20
  refine V.aload_n dX11_init_79 rfl ?_
  refine V.newA (fs := [.null, .int 0, .int 0, .int 0, .int 0]) okX1 (a + 84) (by omega) cl_X11_45 ins_X1 ini_X1 dX11_init_80 (fun j hj => by rcases (show j = 0 ∨ j = 1 ∨ j = 2 ∨ j = 3 ∨ j = 4 by omega) with rfl | rfl | rfl | rfl | rfl <;> rfl) ⟨Nat.le_of_ble_eq_true rfl, Nat.le_of_ble_eq_true rfl⟩ (fun g21 e21 o21 => ?_)
  have H := (o21 _ (by omega)).trans H
  refine V.dup dX11_init_83 rfl ?_
  refine V.cIN0 yoX1_init rfl rfl nw_X11_47 im_X1_init dX11_init_84 (Nat.le_of_ble_eq_true rfl) (by omega) ⟨Nat.le_of_ble_eq_true rfl, Nat.le_of_ble_eq_true rfl⟩ rfl (Nat.le_of_ble_eq_true rfl) (ini1_V (a := a + 84) (by omega) (by omega) e21) ?_
  rintro _ g22 ⟨rfl, k22, o22⟩
  have H := (o22 _ (by omega)).trans H
  refine V.putfFH okX11 9 fl_X11_48 dX11_init_87 (by decide) rfl rfl rfl H rfl rfl (Nat.le_of_ble_eq_true rfl) (fun g23 e23 o23 => ?_)
  have H := e23
  refine V.aload_n dX11_init_90 rfl ?_
  refine V.newA (fs := [.int 0, .null, .null, .null, .null]) okX10 (a + 104) (by omega) cl_X11_52 ins_X10 ini_X10 dX11_init_91 (fun j hj => by rcases (show j = 0 ∨ j = 1 ∨ j = 2 ∨ j = 3 ∨ j = 4 by omega) with rfl | rfl | rfl | rfl | rfl <;> rfl) ⟨Nat.le_of_ble_eq_true rfl, Nat.le_of_ble_eq_true rfl⟩ (fun g24 e24 o24 => ?_)
  have H := (o24 _ (by omega)).trans H
  refine V.dup dX11_init_94 rfl ?_
  refine V.cIN0 yoX10_init rfl rfl nw_X11_54 im_X10_init dX11_init_95 (Nat.le_of_ble_eq_true rfl) (by omega) ⟨Nat.le_of_ble_eq_true rfl, Nat.le_of_ble_eq_true rfl⟩ rfl (Nat.le_of_ble_eq_true rfl) (ini10_V (a := a + 104) (by omega) (by omega) e24) ?_
  rintro _ g25 ⟨rfl, k25, o25⟩
  have H := (o25 _ (by omega)).trans H
  refine V.putfFH okX11 10 fl_X11_55 dX11_init_98 (by decide) rfl rfl rfl H rfl rfl (Nat.le_of_ble_eq_true rfl) (fun g26 e26 o26 => ?_)
  have H := e26
  refine V.aload_n dX11_init_101 rfl ?_
  refine V.newA (fs := [.int 0, .int 0, .null, .null, .null, .null, .null]) okX3 (a + 109) (by omega) cl_X11_59 ins_X3 ini_X3 dX11_init_102 (fun j hj => by rcases (show j = 0 ∨ j = 1 ∨ j = 2 ∨ j = 3 ∨ j = 4 ∨ j = 5 ∨ j = 6 by omega) with rfl | rfl | rfl | rfl | rfl | rfl | rfl <;> rfl) ⟨Nat.le_of_ble_eq_true rfl, Nat.le_of_ble_eq_true rfl⟩ (fun g27 e27 o27 => ?_)
  have H := (o27 _ (by omega)).trans H
  refine V.dup dX11_init_105 rfl ?_
  refine V.cIN0 yoX3_init rfl rfl nw_X11_61 im_X3_init dX11_init_106 (Nat.le_of_ble_eq_true rfl) (by omega) ⟨Nat.le_of_ble_eq_true rfl, Nat.le_of_ble_eq_true rfl⟩ rfl (Nat.le_of_ble_eq_true rfl) (ini3_V (a := a + 109) (by omega) (by omega) e27) ?_
  rintro _ g28 ⟨rfl, k28, o28⟩
  have H := (o28 _ (by omega)).trans H
  refine V.putfFH okX11 11 fl_X11_62 dX11_init_109 (by decide) rfl rfl rfl H rfl rfl (Nat.le_of_ble_eq_true rfl) (fun g29 e29 o29 => ?_)
  have H := e29
  refine V.aload_n dX11_init_112 rfl ?_
  refine V.newA (fs := [.null]) okX5 (a + 115) (by omega) cl_X11_66 ins_X5 ini_X5 dX11_init_113 (fun j hj => by rcases (show j = 0 by omega) with rfl <;> rfl) ⟨Nat.le_of_ble_eq_true rfl, Nat.le_of_ble_eq_true rfl⟩ (fun g30 e30 o30 => ?_)
  have H := (o30 _ (by omega)).trans H
  refine V.dup dX11_init_116 rfl ?_
  refine V.cIN0 yoX5_init rfl rfl nw_X11_68 im_X5_init dX11_init_117 (Nat.le_of_ble_eq_true rfl) (by omega) ⟨Nat.le_of_ble_eq_true rfl, Nat.le_of_ble_eq_true rfl⟩ rfl (Nat.le_of_ble_eq_true rfl) (ini5_V (a := a + 115) (by omega) (by omega) e30) ?_
  rintro _ g31 ⟨rfl, k31, o31⟩
  have H := (o31 _ (by omega)).trans H
  refine V.putfFH okX11 12 fl_X11_69 dX11_init_120 (by decide) rfl rfl rfl H rfl rfl (Nat.le_of_ble_eq_true rfl) (fun g32 e32 o32 => ?_)
  have H := e32
  refine V.aload_n dX11_init_123 rfl ?_
  refine V.newA (fs := [.int 0, .int 0, .null, .null, .null, .null]) okX9 (a + 117) (by omega) cl_X11_73 ins_X9 ini_X9 dX11_init_124 (fun j hj => by rcases (show j = 0 ∨ j = 1 ∨ j = 2 ∨ j = 3 ∨ j = 4 ∨ j = 5 by omega) with rfl | rfl | rfl | rfl | rfl | rfl <;> rfl) ⟨Nat.le_of_ble_eq_true rfl, Nat.le_of_ble_eq_true rfl⟩ (fun g33 e33 o33 => ?_)
  have H := (o33 _ (by omega)).trans H
  refine V.dup dX11_init_127 rfl ?_
  refine V.cIN0 yoX9_init rfl rfl nw_X11_75 im_X9_init dX11_init_128 (Nat.le_of_ble_eq_true rfl) (by omega) ⟨Nat.le_of_ble_eq_true rfl, Nat.le_of_ble_eq_true rfl⟩ rfl (Nat.le_of_ble_eq_true rfl) (ini9_V (a := a + 117) (by omega) (by omega) e33) ?_
  rintro _ g34 ⟨rfl, k34, o34⟩
  have H := (o34 _ (by omega)).trans H
  refine V.putfFH okX11 13 fl_X11_76 dX11_init_131 (by decide) rfl rfl rfl H rfl rfl (Nat.le_of_ble_eq_true rfl) (fun g35 e35 o35 => ?_)
  have H := e35
  refine V.aload_n dX11_init_134 rfl ?_
  refine V.bipush (v := 6) dX11_init_135 (by decide) ?_
  refine V.newIA (M := 6) (a + 122) (by omega) ac_int dX11_init_137 (by decide) (by decide) (by decide) ⟨Nat.le_of_ble_eq_true rfl, Nat.le_of_ble_eq_true rfl⟩ (fun g36 e36 o36 => ?_)
  have H := (o36 _ (by omega)).trans H
  refine V.putfFH okX11 14 fl_X11_80 dX11_init_139 (by decide) rfl rfl rfl H rfl rfl (Nat.le_of_ble_eq_true rfl) (fun g37 e37 o37 => ?_)
  have H := e37
  refine V.aload_n dX11_init_142 rfl ?_
  refine V.bipush (v := 60) dX11_init_143 (by decide) ?_
  refine V.newIA (M := 60) (a + 123) (by omega) ac_int dX11_init_145 (by decide) (by decide) (by decide) ⟨Nat.le_of_ble_eq_true rfl, Nat.le_of_ble_eq_true rfl⟩ (fun g38 e38 o38 => ?_)
  have H := (o38 _ (by omega)).trans H
  refine V.putfFH okX11 15 fl_X11_83 dX11_init_147 (by decide) rfl rfl rfl H rfl rfl (Nat.le_of_ble_eq_true rfl) (fun g39 e39 o39 => ?_)
  have H := e39
  refine V.vret dX11_init_150 rfl ?_
  have F39 : ∀ b : Nat, b ≠ a → g39 b = g39 b := fun _ _ => rfl
  have F38 : ∀ b : Nat, b ≠ a → b < a + 124 → g39 b = g38 b := fun b q1 q2 => (F39 b q1).trans (o39 b (by omega))
  have F37 : ∀ b : Nat, b ≠ a → b < a + 123 → g39 b = g37 b := fun b q1 q2 => (F38 b q1 (by omega)).trans (o38 b (by omega))
  have F36 : ∀ b : Nat, b ≠ a → b < a + 123 → g39 b = g36 b := fun b q1 q2 => (F37 b q1 (by omega)).trans (o37 b (by omega))
  have F35 : ∀ b : Nat, b ≠ a → b < a + 122 → g39 b = g35 b := fun b q1 q2 => (F36 b q1 (by omega)).trans (o36 b (by omega))
  have F34 : ∀ b : Nat, b ≠ a → b < a + 122 → g39 b = g34 b := fun b q1 q2 => (F35 b q1 (by omega)).trans (o35 b (by omega))
  have F33 : ∀ b : Nat, b ≠ a → b < a + 117 → g39 b = g33 b := fun b q1 q2 => (F34 b q1 (by omega)).trans (o34 b (by omega))
  have F32 : ∀ b : Nat, b ≠ a → b < a + 117 → g39 b = g32 b := fun b q1 q2 => (F33 b q1 (by omega)).trans (o33 b (by omega))
  have F31 : ∀ b : Nat, b ≠ a → b < a + 117 → g39 b = g31 b := fun b q1 q2 => (F32 b q1 (by omega)).trans (o32 b (by omega))
  have F30 : ∀ b : Nat, b ≠ a → b < a + 115 → g39 b = g30 b := fun b q1 q2 => (F31 b q1 (by omega)).trans (o31 b (by omega))
  have F29 : ∀ b : Nat, b ≠ a → b < a + 115 → g39 b = g29 b := fun b q1 q2 => (F30 b q1 (by omega)).trans (o30 b (by omega))
  have F28 : ∀ b : Nat, b ≠ a → b < a + 115 → g39 b = g28 b := fun b q1 q2 => (F29 b q1 (by omega)).trans (o29 b (by omega))
  have F27 : ∀ b : Nat, b ≠ a → b < a + 109 → g39 b = g27 b := fun b q1 q2 => (F28 b q1 (by omega)).trans (o28 b (by omega))
  have F26 : ∀ b : Nat, b ≠ a → b < a + 109 → g39 b = g26 b := fun b q1 q2 => (F27 b q1 (by omega)).trans (o27 b (by omega))
  have F25 : ∀ b : Nat, b ≠ a → b < a + 109 → g39 b = g25 b := fun b q1 q2 => (F26 b q1 (by omega)).trans (o26 b (by omega))
  have F24 : ∀ b : Nat, b ≠ a → b < a + 104 → g39 b = g24 b := fun b q1 q2 => (F25 b q1 (by omega)).trans (o25 b (by omega))
  have F23 : ∀ b : Nat, b ≠ a → b < a + 104 → g39 b = g23 b := fun b q1 q2 => (F24 b q1 (by omega)).trans (o24 b (by omega))
  have F22 : ∀ b : Nat, b ≠ a → b < a + 104 → g39 b = g22 b := fun b q1 q2 => (F23 b q1 (by omega)).trans (o23 b (by omega))
  have F21 : ∀ b : Nat, b ≠ a → b < a + 84 → g39 b = g21 b := fun b q1 q2 => (F22 b q1 (by omega)).trans (o22 b (by omega))
  have F20 : ∀ b : Nat, b ≠ a → b < a + 84 → g39 b = g20 b := fun b q1 q2 => (F21 b q1 (by omega)).trans (o21 b (by omega))
  have F19 : ∀ b : Nat, b ≠ a → b < a + 84 → g39 b = g19 b := fun b q1 q2 => (F20 b q1 (by omega)).trans (o20 b (by omega))
  have F18 : ∀ b : Nat, b ≠ a → b < a + 77 → g39 b = g18 b := fun b q1 q2 => (F19 b q1 (by omega)).trans (o19 b (by omega))
  have F17 : ∀ b : Nat, b ≠ a → b < a + 77 → g39 b = g17 b := fun b q1 q2 => (F18 b q1 (by omega)).trans (o18 b (by omega))
  have F16 : ∀ b : Nat, b ≠ a → b < a + 77 → g39 b = g16 b := fun b q1 q2 => (F17 b q1 (by omega)).trans (o17 b (by omega))
  have F15 : ∀ b : Nat, b ≠ a → b < a + 70 → g39 b = g15 b := fun b q1 q2 => (F16 b q1 (by omega)).trans (o16 b (by omega))
  have F14 : ∀ b : Nat, b ≠ a → b < a + 70 → g39 b = g14 b := fun b q1 q2 => (F15 b q1 (by omega)).trans (o15 b (by omega))
  have F13 : ∀ b : Nat, b ≠ a → b < a + 70 → g39 b = g13 b := fun b q1 q2 => (F14 b q1 (by omega)).trans (o14 b (by omega))
  have F12 : ∀ b : Nat, b ≠ a → b < a + 63 → g39 b = g12 b := fun b q1 q2 => (F13 b q1 (by omega)).trans (o13 b (by omega))
  have F11 : ∀ b : Nat, b ≠ a → b < a + 63 → g39 b = g11 b := fun b q1 q2 => (F12 b q1 (by omega)).trans (o12 b (by omega))
  have F10 : ∀ b : Nat, b ≠ a → b < a + 63 → g39 b = g10 b := fun b q1 q2 => (F11 b q1 (by omega)).trans (o11 b (by omega))
  have F9 : ∀ b : Nat, b ≠ a → b < a + 44 → g39 b = g9 b := fun b q1 q2 => (F10 b q1 (by omega)).trans (o10 b (by omega))
  have F8 : ∀ b : Nat, b ≠ a → b < a + 44 → g39 b = g8 b := fun b q1 q2 => (F9 b q1 (by omega)).trans (o9 b (by omega))
  have F7 : ∀ b : Nat, b ≠ a → b < a + 44 → g39 b = g7 b := fun b q1 q2 => (F8 b q1 (by omega)).trans (o8 b (by omega))
  have F6 : ∀ b : Nat, b ≠ a → b < a + 25 → g39 b = g6 b := fun b q1 q2 => (F7 b q1 (by omega)).trans (o7 b (by omega))
  have F5 : ∀ b : Nat, b ≠ a → b < a + 25 → g39 b = g5 b := fun b q1 q2 => (F6 b q1 (by omega)).trans (o6 b (by omega))
  have F4 : ∀ b : Nat, b ≠ a → b < a + 25 → g39 b = g4 b := fun b q1 q2 => (F5 b q1 (by omega)).trans (o5 b (by omega))
  have F3 : ∀ b : Nat, b ≠ a → b < a + 2 → g39 b = g3 b := fun b q1 q2 => (F4 b q1 (by omega)).trans (o4 b (by omega))
  have F2 : ∀ b : Nat, b ≠ a → b < a + 2 → g39 b = g2 b := fun b q1 q2 => (F3 b q1 (by omega)).trans (o3 b (by omega))
  have F1 : ∀ b : Nat, b ≠ a → b < a + 2 → g39 b = g1 b := fun b q1 q2 => (F2 b q1 (by omega)).trans (o2 b (by omega))
  exact ⟨rfl, ⟨(by
      refine ⟨H, fun q hq => ?_⟩
      simp only [C11, List.mem_cons, List.not_mem_nil, or_false] at hq
      rcases hq with rfl | rfl | rfl
      · exact (F1 (a + 1) (by omega) (by omega)).trans e1
      · exact (F36 (a + 122) (by omega) (by omega)).trans e36
      · exact (F38 (a + 123) (by omega) (by omega)).trans e38), Or.inl ⟨rfl, rfl⟩, (k7.kept (fun b b1 b2 => F7 b (by omega) (by omega))), (k10.kept (fun b b1 b2 => F10 b (by omega) (by omega))), (k13.kept C0_ok (fun b b1 b2 => F13 b (by omega) (by have b3 : b < a + 63 + 7 := b2; omega))), (k16.kept C0_ok (fun b b1 b2 => F16 b (by omega) (by have b3 : b < a + 70 + 7 := b2; omega))), (k19.kept C0_ok (fun b b1 b2 => F19 b (by omega) (by have b3 : b < a + 77 + 7 := b2; omega))), (k25.kept C10_ok (fun b b1 b2 => F25 b (by omega) (by have b3 : b < a + 104 + 5 := b2; omega))), (k28.kept C3_ok (fun b b1 b2 => F28 b (by omega) (by have b3 : b < a + 109 + 6 := b2; omega))), (k22.kept C1_ok (fun b b1 b2 => F22 b (by omega) (by have b3 : b < a + 84 + 1 := b2; omega))), (k31.kept C5_ok (fun b b1 b2 => F31 b (by omega) (by have b3 : b < a + 115 + 2 := b2; omega))), (k34.kept C9_ok (fun b b1 b2 => F34 b (by omega) (by have b3 : b < a + 117 + 5 := b2; omega))), (k4.1.kept C6_ok (fun b b1 b2 => F4 b (by omega) (by have b3 : b < a + 2 + 23 := b2; omega))), (k4.2.kept C7_ok (fun b b1 b2 => F4 b (by omega) (by have b3 : b < a + 2 + 1 + 1 := b2; omega)))⟩, fun b hb => (o39 b (by omega)).trans ((o38 b (by omega)).trans ((o37 b (by omega)).trans ((o36 b (by omega)).trans ((o35 b (by omega)).trans ((o34 b (by omega)).trans ((o33 b (by omega)).trans ((o32 b (by omega)).trans ((o31 b (by omega)).trans ((o30 b (by omega)).trans ((o29 b (by omega)).trans ((o28 b (by omega)).trans ((o27 b (by omega)).trans ((o26 b (by omega)).trans ((o25 b (by omega)).trans ((o24 b (by omega)).trans ((o23 b (by omega)).trans ((o22 b (by omega)).trans ((o21 b (by omega)).trans ((o20 b (by omega)).trans ((o19 b (by omega)).trans ((o18 b (by omega)).trans ((o17 b (by omega)).trans ((o16 b (by omega)).trans ((o15 b (by omega)).trans ((o14 b (by omega)).trans ((o13 b (by omega)).trans ((o12 b (by omega)).trans ((o11 b (by omega)).trans ((o10 b (by omega)).trans ((o9 b (by omega)).trans ((o8 b (by omega)).trans ((o7 b (by omega)).trans ((o6 b (by omega)).trans ((o5 b (by omega)).trans ((o4 b (by omega)).trans ((o3 b (by omega)).trans ((o2 b (by omega)).trans ((o1 b (by omega))))))))))))))))))))))))))))))))))))))))⟩
