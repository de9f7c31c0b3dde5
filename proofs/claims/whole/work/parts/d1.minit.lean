/-! the constructor of the model -/
/-- a new BurntEndsModel, ahead of begins -/
def zM : St := zS (upd (upd (upd (upd (fun _ => 0) 30 (-1)) 47 (-1)) 48 (-1)) 56 (-1)) (fun _ => 0)
set_option maxRecDepth 100000 in
set_option maxHeartbeats 8000000 in
theorem ini12_V {d n0 : Nat} {κ : Kd} (hd : 5 ≤ d) {h : Hp} {a : Nat} (hn : n0 = a + 1) (H : h a = some (.inr (12, [.int 0, .null, .int 0, .null, .null, .null, .null, .null, .null, .null, .null, .null, .null, .null, .null, .null, .null, .null, .null, .null, .int 0, .int 0, .int 0, .int 0, .int 0, .int 0, .int 0, .int 0, .int 0, .int 0, .int 0, .int 0, .int 0, .null, .null, .int 0, .null, .null, .null, .null, .null, .null, .null, .null, .int 0, .int 0, .int 0, .int 0, .int 0, .int 0, .null, .null, .null, .int 0, .null, .int 0, .int 0, .null, .null, .null, .null, .null, .null, .null, .null]))) : V MX12_init (d, 40, 5921, n0, κ) 0 0 h 0 [some (.ref a)] [] (fun v h' => v = none ∧ (∃ s' : St, isR C12 h' a s' ∧ frR 0 zM s' ∧ (s'.2.1 36 0 = 0 ∧ s'.2.1 37 0 = zM.2.1 3 6 ∧ s'.2.1 38 0 = 0 ∧ s'.2.1 39 0 = 0) ∧ ∀ k p, 40 ≤ k → k ≤ 43 → p < 6 → s'.2.1 k (6 * 0 + p) = 0) ∧ ∀ b : Nat, (b < a ∨ a + 41 ≤ b) → h' b = h b) := by
  subst hn
  refine V.aload_n dX12_init_0 rfl ?_
  refine V.objInit ml_X12_1 im_objInit co_objInit dX12_init_1 (by omega) (Nat.le_of_ble_eq_true rfl) ?_
  refine V.aload_n dX12_init_4 rfl ?_
  refine V.sipush (v := 700) dX12_init_5 (by decide) ?_
  refine V.newIA (M := 700) (a + 1) (by omega) ac_int dX12_init_8 (by decide) (by decide) (by decide) ⟨Nat.le_of_ble_eq_true rfl, Nat.le_of_ble_eq_true rfl⟩ (fun g1 e1 o1 => ?_)
  have H := (o1 _ (by omega)).trans H
  refine V.putfFH okX12 1 fl_X12_7 dX12_init_10 (by decide) rfl rfl rfl H rfl rfl (Nat.le_of_ble_eq_true rfl) (fun g2 e2 o2 => ?_)
  have H : g2 a = some (.inr (12, [.int 0, .ref (a + 1), .int 0, .null, .null, .null, .null, .null, .null, .null, .null, .null, .null, .null, .null, .null, .null, .null, .null, .null, .int 0, .int 0, .int 0, .int 0, .int 0, .int 0, .int 0, .int 0, .int 0, .int 0, .int 0, .int 0, .int 0, .null, .null, .int 0, .null, .null, .null, .null, .null, .null, .null, .null, .int 0, .int 0, .int 0, .int 0, .int 0, .int 0, .null, .null, .null, .int 0, .null, .int 0, .int 0, .null, .null, .null, .null, .null, .null, .null, .null])) := e2
  refine V.aload_n dX12_init_13 rfl ?_
  refine V.bipush (v := 16) dX12_init_14 (by decide) ?_
  refine V.newIA (M := 16) (a + 2) (by omega) ac_int dX12_init_16 (by decide) (by decide) (by decide) ⟨Nat.le_of_ble_eq_true rfl, Nat.le_of_ble_eq_true rfl⟩ (fun g3 e3 o3 => ?_)
  have H := (o3 _ (by omega)).trans H
  refine V.putfFH okX12 3 fl_X12_13 dX12_init_18 (by decide) rfl rfl rfl H rfl rfl (Nat.le_of_ble_eq_true rfl) (fun g4 e4 o4 => ?_)
  have H : g4 a = some (.inr (12, [.int 0, .ref (a + 1), .int 0, .ref (a + 2), .null, .null, .null, .null, .null, .null, .null, .null, .null, .null, .null, .null, .null, .null, .null, .null, .int 0, .int 0, .int 0, .int 0, .int 0, .int 0, .int 0, .int 0, .int 0, .int 0, .int 0, .int 0, .int 0, .null, .null, .int 0, .null, .null, .null, .null, .null, .null, .null, .null, .int 0, .int 0, .int 0, .int 0, .int 0, .int 0, .null, .null, .null, .int 0, .null, .int 0, .int 0, .null, .null, .null, .null, .null, .null, .null, .null])) := e4
  refine V.aload_n dX12_init_21 rfl ?_
  refine V.bipush (v := 12) dX12_init_22 (by decide) ?_
  refine V.newIA (M := 12) (a + 3) (by omega) ac_int dX12_init_24 (by decide) (by decide) (by decide) ⟨Nat.le_of_ble_eq_true rfl, Nat.le_of_ble_eq_true rfl⟩ (fun g5 e5 o5 => ?_)
  have H := (o5 _ (by omega)).trans H
  refine V.putfFH okX12 4 fl_X12_16 dX12_init_26 (by decide) rfl rfl rfl H rfl rfl (Nat.le_of_ble_eq_true rfl) (fun g6 e6 o6 => ?_)
  have H : g6 a = some (.inr (12, [.int 0, .ref (a + 1), .int 0, .ref (a + 2), .ref (a + 3), .null, .null, .null, .null, .null, .null, .null, .null, .null, .null, .null, .null, .null, .null, .null, .int 0, .int 0, .int 0, .int 0, .int 0, .int 0, .int 0, .int 0, .int 0, .int 0, .int 0, .int 0, .int 0, .null, .null, .int 0, .null, .null, .null, .null, .null, .null, .null, .null, .int 0, .int 0, .int 0, .int 0, .int 0, .int 0, .null, .null, .null, .int 0, .null, .int 0, .int 0, .null, .null, .null, .null, .null, .null, .null, .null])) := e6
  refine V.aload_n dX12_init_29 rfl ?_
  refine V.bipush (v := 12) dX12_init_30 (by decide) ?_
  refine V.newIA (M := 12) (a + 4) (by omega) ac_int dX12_init_32 (by decide) (by decide) (by decide) ⟨Nat.le_of_ble_eq_true rfl, Nat.le_of_ble_eq_true rfl⟩ (fun g7 e7 o7 => ?_)
  have H := (o7 _ (by omega)).trans H
  refine V.putfFH okX12 5 fl_X12_19 dX12_init_34 (by decide) rfl rfl rfl H rfl rfl (Nat.le_of_ble_eq_true rfl) (fun g8 e8 o8 => ?_)
  have H : g8 a = some (.inr (12, [.int 0, .ref (a + 1), .int 0, .ref (a + 2), .ref (a + 3), .ref (a + 4), .null, .null, .null, .null, .null, .null, .null, .null, .null, .null, .null, .null, .null, .null, .int 0, .int 0, .int 0, .int 0, .int 0, .int 0, .int 0, .int 0, .int 0, .int 0, .int 0, .int 0, .int 0, .null, .null, .int 0, .null, .null, .null, .null, .null, .null, .null, .null, .int 0, .int 0, .int 0, .int 0, .int 0, .int 0, .null, .null, .null, .int 0, .null, .int 0, .int 0, .null, .null, .null, .null, .null, .null, .null, .null])) := e8
  refine V.aload_n dX12_init_37 rfl ?_
  refine V.bipush (v := 24) dX12_init_38 (by decide) ?_
  refine V.newIA (M := 24) (a + 5) (by omega) ac_int dX12_init_40 (by decide) (by decide) (by decide) ⟨Nat.le_of_ble_eq_true rfl, Nat.le_of_ble_eq_true rfl⟩ (fun g9 e9 o9 => ?_)
  have H := (o9 _ (by omega)).trans H
  refine V.putfFH okX12 6 fl_X12_22 dX12_init_42 (by decide) rfl rfl rfl H rfl rfl (Nat.le_of_ble_eq_true rfl) (fun g10 e10 o10 => ?_)
  have H : g10 a = some (.inr (12, [.int 0, .ref (a + 1), .int 0, .ref (a + 2), .ref (a + 3), .ref (a + 4), .ref (a + 5), .null, .null, .null, .null, .null, .null, .null, .null, .null, .null, .null, .null, .null, .int 0, .int 0, .int 0, .int 0, .int 0, .int 0, .int 0, .int 0, .int 0, .int 0, .int 0, .int 0, .int 0, .null, .null, .int 0, .null, .null, .null, .null, .null, .null, .null, .null, .int 0, .int 0, .int 0, .int 0, .int 0, .int 0, .null, .null, .null, .int 0, .null, .int 0, .int 0, .null, .null, .null, .null, .null, .null, .null, .null])) := e10
  refine V.aload_n dX12_init_45 rfl ?_
  refine V.bipush (v := 24) dX12_init_46 (by decide) ?_
  refine V.newIA (M := 24) (a + 6) (by omega) ac_int dX12_init_48 (by decide) (by decide) (by decide) ⟨Nat.le_of_ble_eq_true rfl, Nat.le_of_ble_eq_true rfl⟩ (fun g11 e11 o11 => ?_)
  have H := (o11 _ (by omega)).trans H
  refine V.putfFH okX12 7 fl_X12_25 dX12_init_50 (by decide) rfl rfl rfl H rfl rfl (Nat.le_of_ble_eq_true rfl) (fun g12 e12 o12 => ?_)
  have H : g12 a = some (.inr (12, [.int 0, .ref (a + 1), .int 0, .ref (a + 2), .ref (a + 3), .ref (a + 4), .ref (a + 5), .ref (a + 6), .null, .null, .null, .null, .null, .null, .null, .null, .null, .null, .null, .null, .int 0, .int 0, .int 0, .int 0, .int 0, .int 0, .int 0, .int 0, .int 0, .int 0, .int 0, .int 0, .int 0, .null, .null, .int 0, .null, .null, .null, .null, .null, .null, .null, .null, .int 0, .int 0, .int 0, .int 0, .int 0, .int 0, .null, .null, .null, .int 0, .null, .int 0, .int 0, .null, .null, .null, .null, .null, .null, .null, .null])) := e12
  refine V.aload_n dX12_init_53 rfl ?_
  refine V.bipush (v := 24) dX12_init_54 (by decide) ?_
  refine V.newIA (M := 24) (a + 7) (by omega) ac_int dX12_init_56 (by decide) (by decide) (by decide) ⟨Nat.le_of_ble_eq_true rfl, Nat.le_of_ble_eq_true rfl⟩ (fun g13 e13 o13 => ?_)
  have H := (o13 _ (by omega)).trans H
  refine V.putfFH okX12 8 fl_X12_28 dX12_init_58 (by decide) rfl rfl rfl H rfl rfl (Nat.le_of_ble_eq_true rfl) (fun g14 e14 o14 => ?_)
  have H : g14 a = some (.inr (12, [.int 0, .ref (a + 1), .int 0, .ref (a + 2), .ref (a + 3), .ref (a + 4), .ref (a + 5), .ref (a + 6), .ref (a + 7), .null, .null, .null, .null, .null, .null, .null, .null, .null, .null, .null, .int 0, .int 0, .int 0, .int 0, .int 0, .int 0, .int 0, .int 0, .int 0, .int 0, .int 0, .int 0, .int 0, .null, .null, .int 0, .null, .null, .null, .null, .null, .null, .null, .null, .int 0, .int 0, .int 0, .int 0, .int 0, .int 0, .null, .null, .null, .int 0, .null, .int 0, .int 0, .null, .null, .null, .null, .null, .null, .null, .null])) := e14
  refine V.aload_n dX12_init_61 rfl ?_
  refine V.bipush (v := 24) dX12_init_62 (by decide) ?_
  refine V.newIA (M := 24) (a + 8) (by omega) ac_int dX12_init_64 (by decide) (by decide) (by decide) ⟨Nat.le_of_ble_eq_true rfl, Nat.le_of_ble_eq_true rfl⟩ (fun g15 e15 o15 => ?_)
  have H := (o15 _ (by omega)).trans H
  refine V.putfFH okX12 9 fl_X12_31 dX12_init_66 (by decide) rfl rfl rfl H rfl rfl (Nat.le_of_ble_eq_true rfl) (fun g16 e16 o16 => ?_)
  have H : g16 a = some (.inr (12, [.int 0, .ref (a + 1), .int 0, .ref (a + 2), .ref (a + 3), .ref (a + 4), .ref (a + 5), .ref (a + 6), .ref (a + 7), .ref (a + 8), .null, .null, .null, .null, .null, .null, .null, .null, .null, .null, .int 0, .int 0, .int 0, .int 0, .int 0, .int 0, .int 0, .int 0, .int 0, .int 0, .int 0, .int 0, .int 0, .null, .null, .int 0, .null, .null, .null, .null, .null, .null, .null, .null, .int 0, .int 0, .int 0, .int 0, .int 0, .int 0, .null, .null, .null, .int 0, .null, .int 0, .int 0, .null, .null, .null, .null, .null, .null, .null, .null])) := e16
  refine V.aload_n dX12_init_69 rfl ?_
  refine V.bipush (v := 24) dX12_init_70 (by decide) ?_
  refine V.newIA (M := 24) (a + 9) (by omega) ac_int dX12_init_72 (by decide) (by decide) (by decide) ⟨Nat.le_of_ble_eq_true rfl, Nat.le_of_ble_eq_true rfl⟩ (fun g17 e17 o17 => ?_)
  have H := (o17 _ (by omega)).trans H
  refine V.putfFH okX12 10 fl_X12_34 dX12_init_74 (by decide) rfl rfl rfl H rfl rfl (Nat.le_of_ble_eq_true rfl) (fun g18 e18 o18 => ?_)
  have H : g18 a = some (.inr (12, [.int 0, .ref (a + 1), .int 0, .ref (a + 2), .ref (a + 3), .ref (a + 4), .ref (a + 5), .ref (a + 6), .ref (a + 7), .ref (a + 8), .ref (a + 9), .null, .null, .null, .null, .null, .null, .null, .null, .null, .int 0, .int 0, .int 0, .int 0, .int 0, .int 0, .int 0, .int 0, .int 0, .int 0, .int 0, .int 0, .int 0, .null, .null, .int 0, .null, .null, .null, .null, .null, .null, .null, .null, .int 0, .int 0, .int 0, .int 0, .int 0, .int 0, .null, .null, .null, .int 0, .null, .int 0, .int 0, .null, .null, .null, .null, .null, .null, .null, .null])) := e18
  refine V.aload_n dX12_init_77 rfl ?_
  refine V.bipush (v := 16) dX12_init_78 (by decide) ?_
  refine V.newIA (M := 16) (a + 10) (by omega) ac_int dX12_init_80 (by decide) (by decide) (by decide) ⟨Nat.le_of_ble_eq_true rfl, Nat.le_of_ble_eq_true rfl⟩ (fun g19 e19 o19 => ?_)
  have H := (o19 _ (by omega)).trans H
  refine V.putfFH okX12 11 fl_X12_37 dX12_init_82 (by decide) rfl rfl rfl H rfl rfl (Nat.le_of_ble_eq_true rfl) (fun g20 e20 o20 => ?_)
  have H : g20 a = some (.inr (12, [.int 0, .ref (a + 1), .int 0, .ref (a + 2), .ref (a + 3), .ref (a + 4), .ref (a + 5), .ref (a + 6), .ref (a + 7), .ref (a + 8), .ref (a + 9), .ref (a + 10), .null, .null, .null, .null, .null, .null, .null, .null, .int 0, .int 0, .int 0, .int 0, .int 0, .int 0, .int 0, .int 0, .int 0, .int 0, .int 0, .int 0, .int 0, .null, .null, .int 0, .null, .null, .null, .null, .null, .null, .null, .null, .int 0, .int 0, .int 0, .int 0, .int 0, .int 0, .null, .null, .null, .int 0, .null, .int 0, .int 0, .null, .null, .null, .null, .null, .null, .null, .null])) := e20
  refine V.aload_n dX12_init_85 rfl ?_
  refine V.bipush (v := 16) dX12_init_86 (by decide) ?_
  refine V.newIA (M := 16) (a + 11) (by omega) ac_int dX12_init_88 (by decide) (by decide) (by decide) ⟨Nat.le_of_ble_eq_true rfl, Nat.le_of_ble_eq_true rfl⟩ (fun g21 e21 o21 => ?_)
  have H := (o21 _ (by omega)).trans H
  refine V.putfFH okX12 12 fl_X12_40 dX12_init_90 (by decide) rfl rfl rfl H rfl rfl (Nat.le_of_ble_eq_true rfl) (fun g22 e22 o22 => ?_)
  have H : g22 a = some (.inr (12, [.int 0, .ref (a + 1), .int 0, .ref (a + 2), .ref (a + 3), .ref (a + 4), .ref (a + 5), .ref (a + 6), .ref (a + 7), .ref (a + 8), .ref (a + 9), .ref (a + 10), .ref (a + 11), .null, .null, .null, .null, .null, .null, .null, .int 0, .int 0, .int 0, .int 0, .int 0, .int 0, .int 0, .int 0, .int 0, .int 0, .int 0, .int 0, .int 0, .null, .null, .int 0, .null, .null, .null, .null, .null, .null, .null, .null, .int 0, .int 0, .int 0, .int 0, .int 0, .int 0, .null, .null, .null, .int 0, .null, .int 0, .int 0, .null, .null, .null, .null, .null, .null, .null, .null])) := e22
  refine V.aload_n dX12_init_93 rfl ?_
  refine V.bipush (v := 16) dX12_init_94 (by decide) ?_
  refine V.newIA (M := 16) (a + 12) (by omega) ac_int dX12_init_96 (by decide) (by decide) (by decide) ⟨Nat.le_of_ble_eq_true rfl, Nat.le_of_ble_eq_true rfl⟩ (fun g23 e23 o23 => ?_)
  have H := (o23 _ (by omega)).trans H
  refine V.putfFH okX12 13 fl_X12_43 dX12_init_98 (by decide) rfl rfl rfl H rfl rfl (Nat.le_of_ble_eq_true rfl) (fun g24 e24 o24 => ?_)
  have H : g24 a = some (.inr (12, [.int 0, .ref (a + 1), .int 0, .ref (a + 2), .ref (a + 3), .ref (a + 4), .ref (a + 5), .ref (a + 6), .ref (a + 7), .ref (a + 8), .ref (a + 9), .ref (a + 10), .ref (a + 11), .ref (a + 12), .null, .null, .null, .null, .null, .null, .int 0, .int 0, .int 0, .int 0, .int 0, .int 0, .int 0, .int 0, .int 0, .int 0, .int 0, .int 0, .int 0, .null, .null, .int 0, .null, .null, .null, .null, .null, .null, .null, .null, .int 0, .int 0, .int 0, .int 0, .int 0, .int 0, .null, .null, .null, .int 0, .null, .int 0, .int 0, .null, .null, .null, .null, .null, .null, .null, .null])) := e24
  refine V.aload_n dX12_init_101 rfl ?_
  refine V.bipush (v := 16) dX12_init_102 (by decide) ?_
  refine V.newIA (M := 16) (a + 13) (by omega) ac_int dX12_init_104 (by decide) (by decide) (by decide) ⟨Nat.le_of_ble_eq_true rfl, Nat.le_of_ble_eq_true rfl⟩ (fun g25 e25 o25 => ?_)
  have H := (o25 _ (by omega)).trans H
  refine V.putfFH okX12 14 fl_X12_46 dX12_init_106 (by decide) rfl rfl rfl H rfl rfl (Nat.le_of_ble_eq_true rfl) (fun g26 e26 o26 => ?_)
  have H : g26 a = some (.inr (12, [.int 0, .ref (a + 1), .int 0, .ref (a + 2), .ref (a + 3), .ref (a + 4), .ref (a + 5), .ref (a + 6), .ref (a + 7), .ref (a + 8), .ref (a + 9), .ref (a + 10), .ref (a + 11), .ref (a + 12), .ref (a + 13), .null, .null, .null, .null, .null, .int 0, .int 0, .int 0, .int 0, .int 0, .int 0, .int 0, .int 0, .int 0, .int 0, .int 0, .int 0, .int 0, .null, .null, .int 0, .null, .null, .null, .null, .null, .null, .null, .null, .int 0, .int 0, .int 0, .int 0, .int 0, .int 0, .null, .null, .null, .int 0, .null, .int 0, .int 0, .null, .null, .null, .null, .null, .null, .null, .null])) := e26
  refine V.aload_n dX12_init_109 rfl ?_
  refine V.bipush (v := 16) dX12_init_110 (by decide) ?_
  refine V.newIA (M := 16) (a + 14) (by omega) ac_int dX12_init_112 (by decide) (by decide) (by decide) ⟨Nat.le_of_ble_eq_true rfl, Nat.le_of_ble_eq_true rfl⟩ (fun g27 e27 o27 => ?_)
  have H := (o27 _ (by omega)).trans H
  refine V.putfFH okX12 15 fl_X12_49 dX12_init_114 (by decide) rfl rfl rfl H rfl rfl (Nat.le_of_ble_eq_true rfl) (fun g28 e28 o28 => ?_)
  have H : g28 a = some (.inr (12, [.int 0, .ref (a + 1), .int 0, .ref (a + 2), .ref (a + 3), .ref (a + 4), .ref (a + 5), .ref (a + 6), .ref (a + 7), .ref (a + 8), .ref (a + 9), .ref (a + 10), .ref (a + 11), .ref (a + 12), .ref (a + 13), .ref (a + 14), .null, .null, .null, .null, .int 0, .int 0, .int 0, .int 0, .int 0, .int 0, .int 0, .int 0, .int 0, .int 0, .int 0, .int 0, .int 0, .null, .null, .int 0, .null, .null, .null, .null, .null, .null, .null, .null, .int 0, .int 0, .int 0, .int 0, .int 0, .int 0, .null, .null, .null, .int 0, .null, .int 0, .int 0, .null, .null, .null, .null, .null, .null, .null, .null])) := e28
  refine V.aload_n dX12_init_117 rfl ?_
  refine V.bipush (v := 6) dX12_init_118 (by decide) ?_
  refine V.newIA (M := 6) (a + 15) (by omega) ac_int dX12_init_120 (by decide) (by decide) (by decide) ⟨Nat.le_of_ble_eq_true rfl, Nat.le_of_ble_eq_true rfl⟩ (fun g29 e29 o29 => ?_)
  have H := (o29 _ (by omega)).trans H
  refine V.putfFH okX12 16 fl_X12_52 dX12_init_122 (by decide) rfl rfl rfl H rfl rfl (Nat.le_of_ble_eq_true rfl) (fun g30 e30 o30 => ?_)
  have H : g30 a = some (.inr (12, [.int 0, .ref (a + 1), .int 0, .ref (a + 2), .ref (a + 3), .ref (a + 4), .ref (a + 5), .ref (a + 6), .ref (a + 7), .ref (a + 8), .ref (a + 9), .ref (a + 10), .ref (a + 11), .ref (a + 12), .ref (a + 13), .ref (a + 14), .ref (a + 15), .null, .null, .null, .int 0, .int 0, .int 0, .int 0, .int 0, .int 0, .int 0, .int 0, .int 0, .int 0, .int 0, .int 0, .int 0, .null, .null, .int 0, .null, .null, .null, .null, .null, .null, .null, .null, .int 0, .int 0, .int 0, .int 0, .int 0, .int 0, .null, .null, .null, .int 0, .null, .int 0, .int 0, .null, .null, .null, .null, .null, .null, .null, .null])) := e30
  refine V.aload_n dX12_init_125 rfl ?_
  refine V.bipush (v := 6) dX12_init_126 (by decide) ?_
  refine V.newIA (M := 6) (a + 16) (by omega) ac_int dX12_init_128 (by decide) (by decide) (by decide) ⟨Nat.le_of_ble_eq_true rfl, Nat.le_of_ble_eq_true rfl⟩ (fun g31 e31 o31 => ?_)
  have H := (o31 _ (by omega)).trans H
  refine V.putfFH okX12 17 fl_X12_55 dX12_init_130 (by decide) rfl rfl rfl H rfl rfl (Nat.le_of_ble_eq_true rfl) (fun g32 e32 o32 => ?_)
  have H : g32 a = some (.inr (12, [.int 0, .ref (a + 1), .int 0, .ref (a + 2), .ref (a + 3), .ref (a + 4), .ref (a + 5), .ref (a + 6), .ref (a + 7), .ref (a + 8), .ref (a + 9), .ref (a + 10), .ref (a + 11), .ref (a + 12), .ref (a + 13), .ref (a + 14), .ref (a + 15), .ref (a + 16), .null, .null, .int 0, .int 0, .int 0, .int 0, .int 0, .int 0, .int 0, .int 0, .int 0, .int 0, .int 0, .int 0, .int 0, .null, .null, .int 0, .null, .null, .null, .null, .null, .null, .null, .null, .int 0, .int 0, .int 0, .int 0, .int 0, .int 0, .null, .null, .null, .int 0, .null, .int 0, .int 0, .null, .null, .null, .null, .null, .null, .null, .null])) := e32
  refine V.aload_n dX12_init_133 rfl ?_
  refine V.sipush (v := 128) dX12_init_134 (by decide) ?_
  refine V.newIA (M := 128) (a + 17) (by omega) ac_int dX12_init_137 (by decide) (by decide) (by decide) ⟨Nat.le_of_ble_eq_true rfl, Nat.le_of_ble_eq_true rfl⟩ (fun g33 e33 o33 => ?_)
  have H := (o33 _ (by omega)).trans H
  refine V.putfFH okX12 18 fl_X12_58 dX12_init_139 (by decide) rfl rfl rfl H rfl rfl (Nat.le_of_ble_eq_true rfl) (fun g34 e34 o34 => ?_)
  have H : g34 a = some (.inr (12, [.int 0, .ref (a + 1), .int 0, .ref (a + 2), .ref (a + 3), .ref (a + 4), .ref (a + 5), .ref (a + 6), .ref (a + 7), .ref (a + 8), .ref (a + 9), .ref (a + 10), .ref (a + 11), .ref (a + 12), .ref (a + 13), .ref (a + 14), .ref (a + 15), .ref (a + 16), .ref (a + 17), .null, .int 0, .int 0, .int 0, .int 0, .int 0, .int 0, .int 0, .int 0, .int 0, .int 0, .int 0, .int 0, .int 0, .null, .null, .int 0, .null, .null, .null, .null, .null, .null, .null, .null, .int 0, .int 0, .int 0, .int 0, .int 0, .int 0, .null, .null, .null, .int 0, .null, .int 0, .int 0, .null, .null, .null, .null, .null, .null, .null, .null])) := e34
  refine V.aload_n dX12_init_142 rfl ?_
  refine V.sipush (v := 128) dX12_init_143 (by decide) ?_
  refine V.newIA (M := 128) (a + 18) (by omega) ac_int dX12_init_146 (by decide) (by decide) (by decide) ⟨Nat.le_of_ble_eq_true rfl, Nat.le_of_ble_eq_true rfl⟩ (fun g35 e35 o35 => ?_)
  have H := (o35 _ (by omega)).trans H
  refine V.putfFH okX12 19 fl_X12_61 dX12_init_148 (by decide) rfl rfl rfl H rfl rfl (Nat.le_of_ble_eq_true rfl) (fun g36 e36 o36 => ?_)
  have H : g36 a = some (.inr (12, [.int 0, .ref (a + 1), .int 0, .ref (a + 2), .ref (a + 3), .ref (a + 4), .ref (a + 5), .ref (a + 6), .ref (a + 7), .ref (a + 8), .ref (a + 9), .ref (a + 10), .ref (a + 11), .ref (a + 12), .ref (a + 13), .ref (a + 14), .ref (a + 15), .ref (a + 16), .ref (a + 17), .ref (a + 18), .int 0, .int 0, .int 0, .int 0, .int 0, .int 0, .int 0, .int 0, .int 0, .int 0, .int 0, .int 0, .int 0, .null, .null, .int 0, .null, .null, .null, .null, .null, .null, .null, .null, .int 0, .int 0, .int 0, .int 0, .int 0, .int 0, .null, .null, .null, .int 0, .null, .int 0, .int 0, .null, .null, .null, .null, .null, .null, .null, .null])) := e36
  refine V.aload_n dX12_init_151 rfl ?_
  refine V.iconst (v := (-1)) dX12_init_152 (by decide) ?_
  refine V.putfH okX12 30 fl_X12_64 dX12_init_153 (by decide) rfl H rfl rfl (Nat.le_of_ble_eq_true rfl) (fun g37 e37 o37 => ?_)
  have H : g37 a = some (.inr (12, [.int 0, .ref (a + 1), .int 0, .ref (a + 2), .ref (a + 3), .ref (a + 4), .ref (a + 5), .ref (a + 6), .ref (a + 7), .ref (a + 8), .ref (a + 9), .ref (a + 10), .ref (a + 11), .ref (a + 12), .ref (a + 13), .ref (a + 14), .ref (a + 15), .ref (a + 16), .ref (a + 17), .ref (a + 18), .int 0, .int 0, .int 0, .int 0, .int 0, .int 0, .int 0, .int 0, .int 0, .int 0, .int (-1), .int 0, .int 0, .null, .null, .int 0, .null, .null, .null, .null, .null, .null, .null, .null, .int 0, .int 0, .int 0, .int 0, .int 0, .int 0, .null, .null, .null, .int 0, .null, .int 0, .int 0, .null, .null, .null, .null, .null, .null, .null, .null])) := e37
  refine V.aload_n dX12_init_156 rfl ?_
  refine V.bipush (v := 7) dX12_init_157 (by decide) ?_
  refine V.newJA (M := 7) (a + 19) (by omega) ac_long dX12_init_159 (by decide) (by decide) (by decide) ⟨Nat.le_of_ble_eq_true rfl, Nat.le_of_ble_eq_true rfl⟩ (fun g38 e38 o38 => ?_)
  have H := (o38 _ (by omega)).trans H
  refine V.putfFH okX12 33 fl_X12_68 dX12_init_161 (by decide) rfl rfl rfl H rfl rfl (Nat.le_of_ble_eq_true rfl) (fun g39 e39 o39 => ?_)
  have H : g39 a = some (.inr (12, [.int 0, .ref (a + 1), .int 0, .ref (a + 2), .ref (a + 3), .ref (a + 4), .ref (a + 5), .ref (a + 6), .ref (a + 7), .ref (a + 8), .ref (a + 9), .ref (a + 10), .ref (a + 11), .ref (a + 12), .ref (a + 13), .ref (a + 14), .ref (a + 15), .ref (a + 16), .ref (a + 17), .ref (a + 18), .int 0, .int 0, .int 0, .int 0, .int 0, .int 0, .int 0, .int 0, .int 0, .int 0, .int (-1), .int 0, .int 0, .ref (a + 19), .null, .int 0, .null, .null, .null, .null, .null, .null, .null, .null, .int 0, .int 0, .int 0, .int 0, .int 0, .int 0, .null, .null, .null, .int 0, .null, .int 0, .int 0, .null, .null, .null, .null, .null, .null, .null, .null])) := e39
  refine V.aload_n dX12_init_164 rfl ?_
  refine V.bipush (v := 64) dX12_init_165 (by decide) ?_
  refine V.newJA (M := 64) (a + 20) (by omega) ac_long dX12_init_167 (by decide) (by decide) (by decide) ⟨Nat.le_of_ble_eq_true rfl, Nat.le_of_ble_eq_true rfl⟩ (fun g40 e40 o40 => ?_)
  have H := (o40 _ (by omega)).trans H
  refine V.putfFH okX12 34 fl_X12_72 dX12_init_169 (by decide) rfl rfl rfl H rfl rfl (Nat.le_of_ble_eq_true rfl) (fun g41 e41 o41 => ?_)
  have H : g41 a = some (.inr (12, [.int 0, .ref (a + 1), .int 0, .ref (a + 2), .ref (a + 3), .ref (a + 4), .ref (a + 5), .ref (a + 6), .ref (a + 7), .ref (a + 8), .ref (a + 9), .ref (a + 10), .ref (a + 11), .ref (a + 12), .ref (a + 13), .ref (a + 14), .ref (a + 15), .ref (a + 16), .ref (a + 17), .ref (a + 18), .int 0, .int 0, .int 0, .int 0, .int 0, .int 0, .int 0, .int 0, .int 0, .int 0, .int (-1), .int 0, .int 0, .ref (a + 19), .ref (a + 20), .int 0, .null, .null, .null, .null, .null, .null, .null, .null, .int 0, .int 0, .int 0, .int 0, .int 0, .int 0, .null, .null, .null, .int 0, .null, .int 0, .int 0, .null, .null, .null, .null, .null, .null, .null, .null])) := e41
  refine V.aload_n dX12_init_172 rfl ?_
  refine V.bipush (v := 23) dX12_init_173 (by decide) ?_
  refine V.newIA (M := 23) (a + 21) (by omega) ac_int dX12_init_175 (by decide) (by decide) (by decide) ⟨Nat.le_of_ble_eq_true rfl, Nat.le_of_ble_eq_true rfl⟩ (fun g42 e42 o42 => ?_)
  have H := (o42 _ (by omega)).trans H
  refine V.putfFH okX12 36 fl_X12_75 dX12_init_177 (by decide) rfl rfl rfl H rfl rfl (Nat.le_of_ble_eq_true rfl) (fun g43 e43 o43 => ?_)
  have H : g43 a = some (.inr (12, [.int 0, .ref (a + 1), .int 0, .ref (a + 2), .ref (a + 3), .ref (a + 4), .ref (a + 5), .ref (a + 6), .ref (a + 7), .ref (a + 8), .ref (a + 9), .ref (a + 10), .ref (a + 11), .ref (a + 12), .ref (a + 13), .ref (a + 14), .ref (a + 15), .ref (a + 16), .ref (a + 17), .ref (a + 18), .int 0, .int 0, .int 0, .int 0, .int 0, .int 0, .int 0, .int 0, .int 0, .int 0, .int (-1), .int 0, .int 0, .ref (a + 19), .ref (a + 20), .int 0, .ref (a + 21), .null, .null, .null, .null, .null, .null, .null, .int 0, .int 0, .int 0, .int 0, .int 0, .int 0, .null, .null, .null, .int 0, .null, .int 0, .int 0, .null, .null, .null, .null, .null, .null, .null, .null])) := e43
  refine V.aload_n dX12_init_180 rfl ?_
  refine V.bipush (v := 23) dX12_init_181 (by decide) ?_
  refine V.newIA (M := 23) (a + 22) (by omega) ac_int dX12_init_183 (by decide) (by decide) (by decide) ⟨Nat.le_of_ble_eq_true rfl, Nat.le_of_ble_eq_true rfl⟩ (fun g44 e44 o44 => ?_)
  have H := (o44 _ (by omega)).trans H
  refine V.putfFH okX12 37 fl_X12_78 dX12_init_185 (by decide) rfl rfl rfl H rfl rfl (Nat.le_of_ble_eq_true rfl) (fun g45 e45 o45 => ?_)
  have H : g45 a = some (.inr (12, [.int 0, .ref (a + 1), .int 0, .ref (a + 2), .ref (a + 3), .ref (a + 4), .ref (a + 5), .ref (a + 6), .ref (a + 7), .ref (a + 8), .ref (a + 9), .ref (a + 10), .ref (a + 11), .ref (a + 12), .ref (a + 13), .ref (a + 14), .ref (a + 15), .ref (a + 16), .ref (a + 17), .ref (a + 18), .int 0, .int 0, .int 0, .int 0, .int 0, .int 0, .int 0, .int 0, .int 0, .int 0, .int (-1), .int 0, .int 0, .ref (a + 19), .ref (a + 20), .int 0, .ref (a + 21), .ref (a + 22), .null, .null, .null, .null, .null, .null, .int 0, .int 0, .int 0, .int 0, .int 0, .int 0, .null, .null, .null, .int 0, .null, .int 0, .int 0, .null, .null, .null, .null, .null, .null, .null, .null])) := e45
  refine V.aload_n dX12_init_188 rfl ?_
  refine V.bipush (v := 23) dX12_init_189 (by decide) ?_
  refine V.newIA (M := 23) (a + 23) (by omega) ac_int dX12_init_191 (by decide) (by decide) (by decide) ⟨Nat.le_of_ble_eq_true rfl, Nat.le_of_ble_eq_true rfl⟩ (fun g46 e46 o46 => ?_)
  have H := (o46 _ (by omega)).trans H
  refine V.putfFH okX12 38 fl_X12_81 dX12_init_193 (by decide) rfl rfl rfl H rfl rfl (Nat.le_of_ble_eq_true rfl) (fun g47 e47 o47 => ?_)
  have H : g47 a = some (.inr (12, [.int 0, .ref (a + 1), .int 0, .ref (a + 2), .ref (a + 3), .ref (a + 4), .ref (a + 5), .ref (a + 6), .ref (a + 7), .ref (a + 8), .ref (a + 9), .ref (a + 10), .ref (a + 11), .ref (a + 12), .ref (a + 13), .ref (a + 14), .ref (a + 15), .ref (a + 16), .ref (a + 17), .ref (a + 18), .int 0, .int 0, .int 0, .int 0, .int 0, .int 0, .int 0, .int 0, .int 0, .int 0, .int (-1), .int 0, .int 0, .ref (a + 19), .ref (a + 20), .int 0, .ref (a + 21), .ref (a + 22), .ref (a + 23), .null, .null, .null, .null, .null, .int 0, .int 0, .int 0, .int 0, .int 0, .int 0, .null, .null, .null, .int 0, .null, .int 0, .int 0, .null, .null, .null, .null, .null, .null, .null, .null])) := e47
  refine V.aload_n dX12_init_196 rfl ?_
  refine V.bipush (v := 23) dX12_init_197 (by decide) ?_
  refine V.newIA (M := 23) (a + 24) (by omega) ac_int dX12_init_199 (by decide) (by decide) (by decide) ⟨Nat.le_of_ble_eq_true rfl, Nat.le_of_ble_eq_true rfl⟩ (fun g48 e48 o48 => ?_)
  have H := (o48 _ (by omega)).trans H
  refine V.putfFH okX12 39 fl_X12_84 dX12_init_201 (by decide) rfl rfl rfl H rfl rfl (Nat.le_of_ble_eq_true rfl) (fun g49 e49 o49 => ?_)
  have H : g49 a = some (.inr (12, [.int 0, .ref (a + 1), .int 0, .ref (a + 2), .ref (a + 3), .ref (a + 4), .ref (a + 5), .ref (a + 6), .ref (a + 7), .ref (a + 8), .ref (a + 9), .ref (a + 10), .ref (a + 11), .ref (a + 12), .ref (a + 13), .ref (a + 14), .ref (a + 15), .ref (a + 16), .ref (a + 17), .ref (a + 18), .int 0, .int 0, .int 0, .int 0, .int 0, .int 0, .int 0, .int 0, .int 0, .int 0, .int (-1), .int 0, .int 0, .ref (a + 19), .ref (a + 20), .int 0, .ref (a + 21), .ref (a + 22), .ref (a + 23), .ref (a + 24), .null, .null, .null, .null, .int 0, .int 0, .int 0, .int 0, .int 0, .int 0, .null, .null, .null, .int 0, .null, .int 0, .int 0, .null, .null, .null, .null, .null, .null, .null, .null])) := e49
  refine V.aload_n dX12_init_204 rfl ?_
  refine V.sipush (v := 138) dX12_init_205 (by decide) ?_
  refine V.newIA (M := 138) (a + 25) (by omega) ac_int dX12_init_208 (by decide) (by decide) (by decide) ⟨Nat.le_of_ble_eq_true rfl, Nat.le_of_ble_eq_true rfl⟩ (fun g50 e50 o50 => ?_)
  have H := (o50 _ (by omega)).trans H
  refine V.putfFH okX12 40 fl_X12_87 dX12_init_210 (by decide) rfl rfl rfl H rfl rfl (Nat.le_of_ble_eq_true rfl) (fun g51 e51 o51 => ?_)
  have H : g51 a = some (.inr (12, [.int 0, .ref (a + 1), .int 0, .ref (a + 2), .ref (a + 3), .ref (a + 4), .ref (a + 5), .ref (a + 6), .ref (a + 7), .ref (a + 8), .ref (a + 9), .ref (a + 10), .ref (a + 11), .ref (a + 12), .ref (a + 13), .ref (a + 14), .ref (a + 15), .ref (a + 16), .ref (a + 17), .ref (a + 18), .int 0, .int 0, .int 0, .int 0, .int 0, .int 0, .int 0, .int 0, .int 0, .int 0, .int (-1), .int 0, .int 0, .ref (a + 19), .ref (a + 20), .int 0, .ref (a + 21), .ref (a + 22), .ref (a + 23), .ref (a + 24), .ref (a + 25), .null, .null, .null, .int 0, .int 0, .int 0, .int 0, .int 0, .int 0, .null, .null, .null, .int 0, .null, .int 0, .int 0, .null, .null, .null, .null, .null, .null, .null, .null])) := e51
  refine V.aload_n dX12_init_213 rfl ?_
  refine V.sipush (v := 138) dX12_init_214 (by decide) ?_
  refine V.newIA (M := 138) (a + 26) (by omega) ac_int dX12_init_217 (by decide) (by decide) (by decide) ⟨Nat.le_of_ble_eq_true rfl, Nat.le_of_ble_eq_true rfl⟩ (fun g52 e52 o52 => ?_)
  have H := (o52 _ (by omega)).trans H
  refine V.putfFH okX12 41 fl_X12_90 dX12_init_219 (by decide) rfl rfl rfl H rfl rfl (Nat.le_of_ble_eq_true rfl) (fun g53 e53 o53 => ?_)
  have H : g53 a = some (.inr (12, [.int 0, .ref (a + 1), .int 0, .ref (a + 2), .ref (a + 3), .ref (a + 4), .ref (a + 5), .ref (a + 6), .ref (a + 7), .ref (a + 8), .ref (a + 9), .ref (a + 10), .ref (a + 11), .ref (a + 12), .ref (a + 13), .ref (a + 14), .ref (a + 15), .ref (a + 16), .ref (a + 17), .ref (a + 18), .int 0, .int 0, .int 0, .int 0, .int 0, .int 0, .int 0, .int 0, .int 0, .int 0, .int (-1), .int 0, .int 0, .ref (a + 19), .ref (a + 20), .int 0, .ref (a + 21), .ref (a + 22), .ref (a + 23), .ref (a + 24), .ref (a + 25), .ref (a + 26), .null, .null, .int 0, .int 0, .int 0, .int 0, .int 0, .int 0, .null, .null, .null, .int 0, .null, .int 0, .int 0, .null, .null, .null, .null, .null, .null, .null, .null])) := e53
  refine V.aload_n dX12_init_222 rfl ?_
  refine V.sipush (v := 138) dX12_init_223 (by decide) ?_
  refine V.newIA (M := 138) (a + 27) (by omega) ac_int dX12_init_226 (by decide) (by decide) (by decide) ⟨Nat.le_of_ble_eq_true rfl, Nat.le_of_ble_eq_true rfl⟩ (fun g54 e54 o54 => ?_)
  have H := (o54 _ (by omega)).trans H
  refine V.putfFH okX12 42 fl_X12_93 dX12_init_228 (by decide) rfl rfl rfl H rfl rfl (Nat.le_of_ble_eq_true rfl) (fun g55 e55 o55 => ?_)
  have H : g55 a = some (.inr (12, [.int 0, .ref (a + 1), .int 0, .ref (a + 2), .ref (a + 3), .ref (a + 4), .ref (a + 5), .ref (a + 6), .ref (a + 7), .ref (a + 8), .ref (a + 9), .ref (a + 10), .ref (a + 11), .ref (a + 12), .ref (a + 13), .ref (a + 14), .ref (a + 15), .ref (a + 16), .ref (a + 17), .ref (a + 18), .int 0, .int 0, .int 0, .int 0, .int 0, .int 0, .int 0, .int 0, .int 0, .int 0, .int (-1), .int 0, .int 0, .ref (a + 19), .ref (a + 20), .int 0, .ref (a + 21), .ref (a + 22), .ref (a + 23), .ref (a + 24), .ref (a + 25), .ref (a + 26), .ref (a + 27), .null, .int 0, .int 0, .int 0, .int 0, .int 0, .int 0, .null, .null, .null, .int 0, .null, .int 0, .int 0, .null, .null, .null, .null, .null, .null, .null, .null])) := e55
  refine V.aload_n dX12_init_231 rfl ?_
  refine V.sipush (v := 138) dX12_init_232 (by decide) ?_
  refine V.newIA (M := 138) (a + 28) (by omega) ac_int dX12_init_235 (by decide) (by decide) (by decide) ⟨Nat.le_of_ble_eq_true rfl, Nat.le_of_ble_eq_true rfl⟩ (fun g56 e56 o56 => ?_)
  have H := (o56 _ (by omega)).trans H
  refine V.putfFH okX12 43 fl_X12_96 dX12_init_237 (by decide) rfl rfl rfl H rfl rfl (Nat.le_of_ble_eq_true rfl) (fun g57 e57 o57 => ?_)
  have H : g57 a = some (.inr (12, [.int 0, .ref (a + 1), .int 0, .ref (a + 2), .ref (a + 3), .ref (a + 4), .ref (a + 5), .ref (a + 6), .ref (a + 7), .ref (a + 8), .ref (a + 9), .ref (a + 10), .ref (a + 11), .ref (a + 12), .ref (a + 13), .ref (a + 14), .ref (a + 15), .ref (a + 16), .ref (a + 17), .ref (a + 18), .int 0, .int 0, .int 0, .int 0, .int 0, .int 0, .int 0, .int 0, .int 0, .int 0, .int (-1), .int 0, .int 0, .ref (a + 19), .ref (a + 20), .int 0, .ref (a + 21), .ref (a + 22), .ref (a + 23), .ref (a + 24), .ref (a + 25), .ref (a + 26), .ref (a + 27), .ref (a + 28), .int 0, .int 0, .int 0, .int 0, .int 0, .int 0, .null, .null, .null, .int 0, .null, .int 0, .int 0, .null, .null, .null, .null, .null, .null, .null, .null])) := e57
  refine V.aload_n dX12_init_240 rfl ?_
  refine V.iconst (v := (-1)) dX12_init_241 (by decide) ?_
  refine V.putfH okX12 47 fl_X12_99 dX12_init_242 (by decide) rfl H rfl rfl (Nat.le_of_ble_eq_true rfl) (fun g58 e58 o58 => ?_)
  have H : g58 a = some (.inr (12, [.int 0, .ref (a + 1), .int 0, .ref (a + 2), .ref (a + 3), .ref (a + 4), .ref (a + 5), .ref (a + 6), .ref (a + 7), .ref (a + 8), .ref (a + 9), .ref (a + 10), .ref (a + 11), .ref (a + 12), .ref (a + 13), .ref (a + 14), .ref (a + 15), .ref (a + 16), .ref (a + 17), .ref (a + 18), .int 0, .int 0, .int 0, .int 0, .int 0, .int 0, .int 0, .int 0, .int 0, .int 0, .int (-1), .int 0, .int 0, .ref (a + 19), .ref (a + 20), .int 0, .ref (a + 21), .ref (a + 22), .ref (a + 23), .ref (a + 24), .ref (a + 25), .ref (a + 26), .ref (a + 27), .ref (a + 28), .int 0, .int 0, .int 0, .int (-1), .int 0, .int 0, .null, .null, .null, .int 0, .null, .int 0, .int 0, .null, .null, .null, .null, .null, .null, .null, .null])) := e58
  refine V.aload_n dX12_init_245 rfl ?_
  refine V.iconst (v := (-1)) dX12_init_246 (by decide) ?_
  refine V.putfH okX12 48 fl_X12_102 dX12_init_247 (by decide) rfl H rfl rfl (Nat.le_of_ble_eq_true rfl) (fun g59 e59 o59 => ?_)
  have H : g59 a = some (.inr (12, [.int 0, .ref (a + 1), .int 0, .ref (a + 2), .ref (a + 3), .ref (a + 4), .ref (a + 5), .ref (a + 6), .ref (a + 7), .ref (a + 8), .ref (a + 9), .ref (a + 10), .ref (a + 11), .ref (a + 12), .ref (a + 13), .ref (a + 14), .ref (a + 15), .ref (a + 16), .ref (a + 17), .ref (a + 18), .int 0, .int 0, .int 0, .int 0, .int 0, .int 0, .int 0, .int 0, .int 0, .int 0, .int (-1), .int 0, .int 0, .ref (a + 19), .ref (a + 20), .int 0, .ref (a + 21), .ref (a + 22), .ref (a + 23), .ref (a + 24), .ref (a + 25), .ref (a + 26), .ref (a + 27), .ref (a + 28), .int 0, .int 0, .int 0, .int (-1), .int (-1), .int 0, .null, .null, .null, .int 0, .null, .int 0, .int 0, .null, .null, .null, .null, .null, .null, .null, .null])) := e59
  refine V.aload_n dX12_init_250 rfl ?_
  refine V.bipush (v := 61) dX12_init_251 (by decide) ?_
  refine V.newIA (M := 61) (a + 29) (by omega) ac_int dX12_init_253 (by decide) (by decide) (by decide) ⟨Nat.le_of_ble_eq_true rfl, Nat.le_of_ble_eq_true rfl⟩ (fun g60 e60 o60 => ?_)
  have H := (o60 _ (by omega)).trans H
  refine V.putfFH okX12 50 fl_X12_105 dX12_init_255 (by decide) rfl rfl rfl H rfl rfl (Nat.le_of_ble_eq_true rfl) (fun g61 e61 o61 => ?_)
  have H : g61 a = some (.inr (12, [.int 0, .ref (a + 1), .int 0, .ref (a + 2), .ref (a + 3), .ref (a + 4), .ref (a + 5), .ref (a + 6), .ref (a + 7), .ref (a + 8), .ref (a + 9), .ref (a + 10), .ref (a + 11), .ref (a + 12), .ref (a + 13), .ref (a + 14), .ref (a + 15), .ref (a + 16), .ref (a + 17), .ref (a + 18), .int 0, .int 0, .int 0, .int 0, .int 0, .int 0, .int 0, .int 0, .int 0, .int 0, .int (-1), .int 0, .int 0, .ref (a + 19), .ref (a + 20), .int 0, .ref (a + 21), .ref (a + 22), .ref (a + 23), .ref (a + 24), .ref (a + 25), .ref (a + 26), .ref (a + 27), .ref (a + 28), .int 0, .int 0, .int 0, .int (-1), .int (-1), .int 0, .ref (a + 29), .null, .null, .int 0, .null, .int 0, .int 0, .null, .null, .null, .null, .null, .null, .null, .null])) := e61
  refine V.aload_n dX12_init_258 rfl ?_
  refine V.bipush (v := 6) dX12_init_259 (by decide) ?_
  refine V.newIA (M := 6) (a + 30) (by omega) ac_int dX12_init_261 (by decide) (by decide) (by decide) ⟨Nat.le_of_ble_eq_true rfl, Nat.le_of_ble_eq_true rfl⟩ (fun g62 e62 o62 => ?_)
  have H := (o62 _ (by omega)).trans H
  refine V.putfFH okX12 51 fl_X12_108 dX12_init_263 (by decide) rfl rfl rfl H rfl rfl (Nat.le_of_ble_eq_true rfl) (fun g63 e63 o63 => ?_)
  have H : g63 a = some (.inr (12, [.int 0, .ref (a + 1), .int 0, .ref (a + 2), .ref (a + 3), .ref (a + 4), .ref (a + 5), .ref (a + 6), .ref (a + 7), .ref (a + 8), .ref (a + 9), .ref (a + 10), .ref (a + 11), .ref (a + 12), .ref (a + 13), .ref (a + 14), .ref (a + 15), .ref (a + 16), .ref (a + 17), .ref (a + 18), .int 0, .int 0, .int 0, .int 0, .int 0, .int 0, .int 0, .int 0, .int 0, .int 0, .int (-1), .int 0, .int 0, .ref (a + 19), .ref (a + 20), .int 0, .ref (a + 21), .ref (a + 22), .ref (a + 23), .ref (a + 24), .ref (a + 25), .ref (a + 26), .ref (a + 27), .ref (a + 28), .int 0, .int 0, .int 0, .int (-1), .int (-1), .int 0, .ref (a + 29), .ref (a + 30), .null, .int 0, .null, .int 0, .int 0, .null, .null, .null, .null, .null, .null, .null, .null])) := e63
  refine V.aload_n dX12_init_266 rfl ?_
  refine V.bipush (v := 6) dX12_init_267 (by decide) ?_
  refine V.newIA (M := 6) (a + 31) (by omega) ac_int dX12_init_269 (by decide) (by decide) (by decide) ⟨Nat.le_of_ble_eq_true rfl, Nat.le_of_ble_eq_true rfl⟩ (fun g64 e64 o64 => ?_)
  have H := (o64 _ (by omega)).trans H
  refine V.putfFH okX12 52 fl_X12_111 dX12_init_271 (by decide) rfl rfl rfl H rfl rfl (Nat.le_of_ble_eq_true rfl) (fun g65 e65 o65 => ?_)
  have H : g65 a = some (.inr (12, [.int 0, .ref (a + 1), .int 0, .ref (a + 2), .ref (a + 3), .ref (a + 4), .ref (a + 5), .ref (a + 6), .ref (a + 7), .ref (a + 8), .ref (a + 9), .ref (a + 10), .ref (a + 11), .ref (a + 12), .ref (a + 13), .ref (a + 14), .ref (a + 15), .ref (a + 16), .ref (a + 17), .ref (a + 18), .int 0, .int 0, .int 0, .int 0, .int 0, .int 0, .int 0, .int 0, .int 0, .int 0, .int (-1), .int 0, .int 0, .ref (a + 19), .ref (a + 20), .int 0, .ref (a + 21), .ref (a + 22), .ref (a + 23), .ref (a + 24), .ref (a + 25), .ref (a + 26), .ref (a + 27), .ref (a + 28), .int 0, .int 0, .int 0, .int (-1), .int (-1), .int 0, .ref (a + 29), .ref (a + 30), .ref (a + 31), .int 0, .null, .int 0, .int 0, .null, .null, .null, .null, .null, .null, .null, .null])) := e65
  refine V.aload_n dX12_init_274 rfl ?_
  refine V.sipush (v := 3721) dX12_init_275 (by decide) ?_
  refine V.newIA (M := 3721) (a + 32) (by omega) ac_int dX12_init_278 (by decide) (by decide) (by decide) ⟨Nat.le_of_ble_eq_true rfl, Nat.le_of_ble_eq_true rfl⟩ (fun g66 e66 o66 => ?_)
  have H := (o66 _ (by omega)).trans H
  refine V.putfFH okX12 54 fl_X12_114 dX12_init_280 (by decide) rfl rfl rfl H rfl rfl (Nat.le_of_ble_eq_true rfl) (fun g67 e67 o67 => ?_)
  have H : g67 a = some (.inr (12, [.int 0, .ref (a + 1), .int 0, .ref (a + 2), .ref (a + 3), .ref (a + 4), .ref (a + 5), .ref (a + 6), .ref (a + 7), .ref (a + 8), .ref (a + 9), .ref (a + 10), .ref (a + 11), .ref (a + 12), .ref (a + 13), .ref (a + 14), .ref (a + 15), .ref (a + 16), .ref (a + 17), .ref (a + 18), .int 0, .int 0, .int 0, .int 0, .int 0, .int 0, .int 0, .int 0, .int 0, .int 0, .int (-1), .int 0, .int 0, .ref (a + 19), .ref (a + 20), .int 0, .ref (a + 21), .ref (a + 22), .ref (a + 23), .ref (a + 24), .ref (a + 25), .ref (a + 26), .ref (a + 27), .ref (a + 28), .int 0, .int 0, .int 0, .int (-1), .int (-1), .int 0, .ref (a + 29), .ref (a + 30), .ref (a + 31), .int 0, .ref (a + 32), .int 0, .int 0, .null, .null, .null, .null, .null, .null, .null, .null])) := e67
  refine V.aload_n dX12_init_283 rfl ?_
  refine V.iconst (v := (-1)) dX12_init_284 (by decide) ?_
  refine V.putfH okX12 56 fl_X12_117 dX12_init_285 (by decide) rfl H rfl rfl (Nat.le_of_ble_eq_true rfl) (fun g68 e68 o68 => ?_)
  have H : g68 a = some (.inr (12, [.int 0, .ref (a + 1), .int 0, .ref (a + 2), .ref (a + 3), .ref (a + 4), .ref (a + 5), .ref (a + 6), .ref (a + 7), .ref (a + 8), .ref (a + 9), .ref (a + 10), .ref (a + 11), .ref (a + 12), .ref (a + 13), .ref (a + 14), .ref (a + 15), .ref (a + 16), .ref (a + 17), .ref (a + 18), .int 0, .int 0, .int 0, .int 0, .int 0, .int 0, .int 0, .int 0, .int 0, .int 0, .int (-1), .int 0, .int 0, .ref (a + 19), .ref (a + 20), .int 0, .ref (a + 21), .ref (a + 22), .ref (a + 23), .ref (a + 24), .ref (a + 25), .ref (a + 26), .ref (a + 27), .ref (a + 28), .int 0, .int 0, .int 0, .int (-1), .int (-1), .int 0, .ref (a + 29), .ref (a + 30), .ref (a + 31), .int 0, .ref (a + 32), .int 0, .int (-1), .null, .null, .null, .null, .null, .null, .null, .null])) := e68
  refine V.aload_n dX12_init_288 rfl ?_
  refine V.bipush (v := 24) dX12_init_289 (by decide) ?_
  refine V.newIA (M := 24) (a + 33) (by omega) ac_int dX12_init_291 (by decide) (by decide) (by decide) ⟨Nat.le_of_ble_eq_true rfl, Nat.le_of_ble_eq_true rfl⟩ (fun g69 e69 o69 => ?_)
  have H := (o69 _ (by omega)).trans H
  refine V.putfFH okX12 57 fl_X12_120 dX12_init_293 (by decide) rfl rfl rfl H rfl rfl (Nat.le_of_ble_eq_true rfl) (fun g70 e70 o70 => ?_)
  have H : g70 a = some (.inr (12, [.int 0, .ref (a + 1), .int 0, .ref (a + 2), .ref (a + 3), .ref (a + 4), .ref (a + 5), .ref (a + 6), .ref (a + 7), .ref (a + 8), .ref (a + 9), .ref (a + 10), .ref (a + 11), .ref (a + 12), .ref (a + 13), .ref (a + 14), .ref (a + 15), .ref (a + 16), .ref (a + 17), .ref (a + 18), .int 0, .int 0, .int 0, .int 0, .int 0, .int 0, .int 0, .int 0, .int 0, .int 0, .int (-1), .int 0, .int 0, .ref (a + 19), .ref (a + 20), .int 0, .ref (a + 21), .ref (a + 22), .ref (a + 23), .ref (a + 24), .ref (a + 25), .ref (a + 26), .ref (a + 27), .ref (a + 28), .int 0, .int 0, .int 0, .int (-1), .int (-1), .int 0, .ref (a + 29), .ref (a + 30), .ref (a + 31), .int 0, .ref (a + 32), .int 0, .int (-1), .ref (a + 33), .null, .null, .null, .null, .null, .null, .null])) := e70
  refine V.aload_n dX12_init_296 rfl ?_
  refine V.bipush (v := 24) dX12_init_297 (by decide) ?_
  refine V.newIA (M := 24) (a + 34) (by omega) ac_int dX12_init_299 (by decide) (by decide) (by decide) ⟨Nat.le_of_ble_eq_true rfl, Nat.le_of_ble_eq_true rfl⟩ (fun g71 e71 o71 => ?_)
  have H := (o71 _ (by omega)).trans H
  refine V.putfFH okX12 58 fl_X12_123 dX12_init_301 (by decide) rfl rfl rfl H rfl rfl (Nat.le_of_ble_eq_true rfl) (fun g72 e72 o72 => ?_)
  have H : g72 a = some (.inr (12, [.int 0, .ref (a + 1), .int 0, .ref (a + 2), .ref (a + 3), .ref (a + 4), .ref (a + 5), .ref (a + 6), .ref (a + 7), .ref (a + 8), .ref (a + 9), .ref (a + 10), .ref (a + 11), .ref (a + 12), .ref (a + 13), .ref (a + 14), .ref (a + 15), .ref (a + 16), .ref (a + 17), .ref (a + 18), .int 0, .int 0, .int 0, .int 0, .int 0, .int 0, .int 0, .int 0, .int 0, .int 0, .int (-1), .int 0, .int 0, .ref (a + 19), .ref (a + 20), .int 0, .ref (a + 21), .ref (a + 22), .ref (a + 23), .ref (a + 24), .ref (a + 25), .ref (a + 26), .ref (a + 27), .ref (a + 28), .int 0, .int 0, .int 0, .int (-1), .int (-1), .int 0, .ref (a + 29), .ref (a + 30), .ref (a + 31), .int 0, .ref (a + 32), .int 0, .int (-1), .ref (a + 33), .ref (a + 34), .null, .null, .null, .null, .null, .null])) := e72
  refine V.aload_n dX12_init_304 rfl ?_
  refine V.bipush (v := 24) dX12_init_305 (by decide) ?_
  refine V.newIA (M := 24) (a + 35) (by omega) ac_int dX12_init_307 (by decide) (by decide) (by decide) ⟨Nat.le_of_ble_eq_true rfl, Nat.le_of_ble_eq_true rfl⟩ (fun g73 e73 o73 => ?_)
  have H := (o73 _ (by omega)).trans H
  refine V.putfFH okX12 59 fl_X12_126 dX12_init_309 (by decide) rfl rfl rfl H rfl rfl (Nat.le_of_ble_eq_true rfl) (fun g74 e74 o74 => ?_)
  have H : g74 a = some (.inr (12, [.int 0, .ref (a + 1), .int 0, .ref (a + 2), .ref (a + 3), .ref (a + 4), .ref (a + 5), .ref (a + 6), .ref (a + 7), .ref (a + 8), .ref (a + 9), .ref (a + 10), .ref (a + 11), .ref (a + 12), .ref (a + 13), .ref (a + 14), .ref (a + 15), .ref (a + 16), .ref (a + 17), .ref (a + 18), .int 0, .int 0, .int 0, .int 0, .int 0, .int 0, .int 0, .int 0, .int 0, .int 0, .int (-1), .int 0, .int 0, .ref (a + 19), .ref (a + 20), .int 0, .ref (a + 21), .ref (a + 22), .ref (a + 23), .ref (a + 24), .ref (a + 25), .ref (a + 26), .ref (a + 27), .ref (a + 28), .int 0, .int 0, .int 0, .int (-1), .int (-1), .int 0, .ref (a + 29), .ref (a + 30), .ref (a + 31), .int 0, .ref (a + 32), .int 0, .int (-1), .ref (a + 33), .ref (a + 34), .ref (a + 35), .null, .null, .null, .null, .null])) := e74
  refine V.aload_n dX12_init_312 rfl ?_
  refine V.bipush (v := 24) dX12_init_313 (by decide) ?_
  refine V.newZA (M := 24) (a + 36) (by omega) ac_boolean dX12_init_315 (by decide) (by decide) (by decide) ⟨Nat.le_of_ble_eq_true rfl, Nat.le_of_ble_eq_true rfl⟩ (fun g75 e75 o75 => ?_)
  have H := (o75 _ (by omega)).trans H
  refine V.putfFH okX12 60 fl_X12_129 dX12_init_317 (by decide) rfl rfl rfl H rfl rfl (Nat.le_of_ble_eq_true rfl) (fun g76 e76 o76 => ?_)
  have H : g76 a = some (.inr (12, [.int 0, .ref (a + 1), .int 0, .ref (a + 2), .ref (a + 3), .ref (a + 4), .ref (a + 5), .ref (a + 6), .ref (a + 7), .ref (a + 8), .ref (a + 9), .ref (a + 10), .ref (a + 11), .ref (a + 12), .ref (a + 13), .ref (a + 14), .ref (a + 15), .ref (a + 16), .ref (a + 17), .ref (a + 18), .int 0, .int 0, .int 0, .int 0, .int 0, .int 0, .int 0, .int 0, .int 0, .int 0, .int (-1), .int 0, .int 0, .ref (a + 19), .ref (a + 20), .int 0, .ref (a + 21), .ref (a + 22), .ref (a + 23), .ref (a + 24), .ref (a + 25), .ref (a + 26), .ref (a + 27), .ref (a + 28), .int 0, .int 0, .int 0, .int (-1), .int (-1), .int 0, .ref (a + 29), .ref (a + 30), .ref (a + 31), .int 0, .ref (a + 32), .int 0, .int (-1), .ref (a + 33), .ref (a + 34), .ref (a + 35), .ref (a + 36), .null, .null, .null, .null])) := e76
  refine V.aload_n dX12_init_320 rfl ?_
  refine V.bipush (v := 24) dX12_init_321 (by decide) ?_
  refine V.newIA (M := 24) (a + 37) (by omega) ac_int dX12_init_323 (by decide) (by decide) (by decide) ⟨Nat.le_of_ble_eq_true rfl, Nat.le_of_ble_eq_true rfl⟩ (fun g77 e77 o77 => ?_)
  have H := (o77 _ (by omega)).trans H
  refine V.putfFH okX12 61 fl_X12_133 dX12_init_325 (by decide) rfl rfl rfl H rfl rfl (Nat.le_of_ble_eq_true rfl) (fun g78 e78 o78 => ?_)
  have H : g78 a = some (.inr (12, [.int 0, .ref (a + 1), .int 0, .ref (a + 2), .ref (a + 3), .ref (a + 4), .ref (a + 5), .ref (a + 6), .ref (a + 7), .ref (a + 8), .ref (a + 9), .ref (a + 10), .ref (a + 11), .ref (a + 12), .ref (a + 13), .ref (a + 14), .ref (a + 15), .ref (a + 16), .ref (a + 17), .ref (a + 18), .int 0, .int 0, .int 0, .int 0, .int 0, .int 0, .int 0, .int 0, .int 0, .int 0, .int (-1), .int 0, .int 0, .ref (a + 19), .ref (a + 20), .int 0, .ref (a + 21), .ref (a + 22), .ref (a + 23), .ref (a + 24), .ref (a + 25), .ref (a + 26), .ref (a + 27), .ref (a + 28), .int 0, .int 0, .int 0, .int (-1), .int (-1), .int 0, .ref (a + 29), .ref (a + 30), .ref (a + 31), .int 0, .ref (a + 32), .int 0, .int (-1), .ref (a + 33), .ref (a + 34), .ref (a + 35), .ref (a + 36), .ref (a + 37), .null, .null, .null])) := e78
  refine V.aload_n dX12_init_328 rfl ?_
  refine V.bipush (v := 24) dX12_init_329 (by decide) ?_
  refine V.newZA (M := 24) (a + 38) (by omega) ac_boolean dX12_init_331 (by decide) (by decide) (by decide) ⟨Nat.le_of_ble_eq_true rfl, Nat.le_of_ble_eq_true rfl⟩ (fun g79 e79 o79 => ?_)
  have H := (o79 _ (by omega)).trans H
  refine V.putfFH okX12 62 fl_X12_136 dX12_init_333 (by decide) rfl rfl rfl H rfl rfl (Nat.le_of_ble_eq_true rfl) (fun g80 e80 o80 => ?_)
  have H : g80 a = some (.inr (12, [.int 0, .ref (a + 1), .int 0, .ref (a + 2), .ref (a + 3), .ref (a + 4), .ref (a + 5), .ref (a + 6), .ref (a + 7), .ref (a + 8), .ref (a + 9), .ref (a + 10), .ref (a + 11), .ref (a + 12), .ref (a + 13), .ref (a + 14), .ref (a + 15), .ref (a + 16), .ref (a + 17), .ref (a + 18), .int 0, .int 0, .int 0, .int 0, .int 0, .int 0, .int 0, .int 0, .int 0, .int 0, .int (-1), .int 0, .int 0, .ref (a + 19), .ref (a + 20), .int 0, .ref (a + 21), .ref (a + 22), .ref (a + 23), .ref (a + 24), .ref (a + 25), .ref (a + 26), .ref (a + 27), .ref (a + 28), .int 0, .int 0, .int 0, .int (-1), .int (-1), .int 0, .ref (a + 29), .ref (a + 30), .ref (a + 31), .int 0, .ref (a + 32), .int 0, .int (-1), .ref (a + 33), .ref (a + 34), .ref (a + 35), .ref (a + 36), .ref (a + 37), .ref (a + 38), .null, .null])) := e80
  refine V.aload_n dX12_init_336 rfl ?_
  refine V.bipush (v := 30) dX12_init_337 (by decide) ?_
  refine V.newIA (M := 30) (a + 39) (by omega) ac_int dX12_init_339 (by decide) (by decide) (by decide) ⟨Nat.le_of_ble_eq_true rfl, Nat.le_of_ble_eq_true rfl⟩ (fun g81 e81 o81 => ?_)
  have H := (o81 _ (by omega)).trans H
  refine V.putfFH okX12 63 fl_X12_139 dX12_init_341 (by decide) rfl rfl rfl H rfl rfl (Nat.le_of_ble_eq_true rfl) (fun g82 e82 o82 => ?_)
  have H : g82 a = some (.inr (12, [.int 0, .ref (a + 1), .int 0, .ref (a + 2), .ref (a + 3), .ref (a + 4), .ref (a + 5), .ref (a + 6), .ref (a + 7), .ref (a + 8), .ref (a + 9), .ref (a + 10), .ref (a + 11), .ref (a + 12), .ref (a + 13), .ref (a + 14), .ref (a + 15), .ref (a + 16), .ref (a + 17), .ref (a + 18), .int 0, .int 0, .int 0, .int 0, .int 0, .int 0, .int 0, .int 0, .int 0, .int 0, .int (-1), .int 0, .int 0, .ref (a + 19), .ref (a + 20), .int 0, .ref (a + 21), .ref (a + 22), .ref (a + 23), .ref (a + 24), .ref (a + 25), .ref (a + 26), .ref (a + 27), .ref (a + 28), .int 0, .int 0, .int 0, .int (-1), .int (-1), .int 0, .ref (a + 29), .ref (a + 30), .ref (a + 31), .int 0, .ref (a + 32), .int 0, .int (-1), .ref (a + 33), .ref (a + 34), .ref (a + 35), .ref (a + 36), .ref (a + 37), .ref (a + 38), .ref (a + 39), .null])) := e82
  refine V.aload_n dX12_init_344 rfl ?_
  refine V.bipush (v := 30) dX12_init_345 (by decide) ?_
  refine V.newIA (M := 30) (a + 40) (by omega) ac_int dX12_init_347 (by decide) (by decide) (by decide) ⟨Nat.le_of_ble_eq_true rfl, Nat.le_of_ble_eq_true rfl⟩ (fun g83 e83 o83 => ?_)
  have H := (o83 _ (by omega)).trans H
  refine V.putfFH okX12 64 fl_X12_142 dX12_init_349 (by decide) rfl rfl rfl H rfl rfl (Nat.le_of_ble_eq_true rfl) (fun g84 e84 o84 => ?_)
  have H : g84 a = some (.inr (12, [.int 0, .ref (a + 1), .int 0, .ref (a + 2), .ref (a + 3), .ref (a + 4), .ref (a + 5), .ref (a + 6), .ref (a + 7), .ref (a + 8), .ref (a + 9), .ref (a + 10), .ref (a + 11), .ref (a + 12), .ref (a + 13), .ref (a + 14), .ref (a + 15), .ref (a + 16), .ref (a + 17), .ref (a + 18), .int 0, .int 0, .int 0, .int 0, .int 0, .int 0, .int 0, .int 0, .int 0, .int 0, .int (-1), .int 0, .int 0, .ref (a + 19), .ref (a + 20), .int 0, .ref (a + 21), .ref (a + 22), .ref (a + 23), .ref (a + 24), .ref (a + 25), .ref (a + 26), .ref (a + 27), .ref (a + 28), .int 0, .int 0, .int 0, .int (-1), .int (-1), .int 0, .ref (a + 29), .ref (a + 30), .ref (a + 31), .int 0, .ref (a + 32), .int 0, .int (-1), .ref (a + 33), .ref (a + 34), .ref (a + 35), .ref (a + 36), .ref (a + 37), .ref (a + 38), .ref (a + 39), .ref (a + 40)])) := e84
  refine V.aload_n dX12_init_352 rfl ?_
  have F84 : ∀ b : Nat, b ≠ a → g84 b = g84 b := fun _ _ => rfl
  have F83 : ∀ b : Nat, b ≠ a → b < a + 41 → g84 b = g83 b := fun b q1 q2 => (F84 b q1).trans (o84 b (by omega))
  have F82 : ∀ b : Nat, b ≠ a → b < a + 40 → g84 b = g82 b := fun b q1 q2 => (F83 b q1 (by omega)).trans (o83 b (by omega))
  have F81 : ∀ b : Nat, b ≠ a → b < a + 40 → g84 b = g81 b := fun b q1 q2 => (F82 b q1 (by omega)).trans (o82 b (by omega))
  have F80 : ∀ b : Nat, b ≠ a → b < a + 39 → g84 b = g80 b := fun b q1 q2 => (F81 b q1 (by omega)).trans (o81 b (by omega))
  have F79 : ∀ b : Nat, b ≠ a → b < a + 39 → g84 b = g79 b := fun b q1 q2 => (F80 b q1 (by omega)).trans (o80 b (by omega))
  have F78 : ∀ b : Nat, b ≠ a → b < a + 38 → g84 b = g78 b := fun b q1 q2 => (F79 b q1 (by omega)).trans (o79 b (by omega))
  have F77 : ∀ b : Nat, b ≠ a → b < a + 38 → g84 b = g77 b := fun b q1 q2 => (F78 b q1 (by omega)).trans (o78 b (by omega))
  have F76 : ∀ b : Nat, b ≠ a → b < a + 37 → g84 b = g76 b := fun b q1 q2 => (F77 b q1 (by omega)).trans (o77 b (by omega))
  have F75 : ∀ b : Nat, b ≠ a → b < a + 37 → g84 b = g75 b := fun b q1 q2 => (F76 b q1 (by omega)).trans (o76 b (by omega))
  have F74 : ∀ b : Nat, b ≠ a → b < a + 36 → g84 b = g74 b := fun b q1 q2 => (F75 b q1 (by omega)).trans (o75 b (by omega))
  have F73 : ∀ b : Nat, b ≠ a → b < a + 36 → g84 b = g73 b := fun b q1 q2 => (F74 b q1 (by omega)).trans (o74 b (by omega))
  have F72 : ∀ b : Nat, b ≠ a → b < a + 35 → g84 b = g72 b := fun b q1 q2 => (F73 b q1 (by omega)).trans (o73 b (by omega))
  have F71 : ∀ b : Nat, b ≠ a → b < a + 35 → g84 b = g71 b := fun b q1 q2 => (F72 b q1 (by omega)).trans (o72 b (by omega))
  have F70 : ∀ b : Nat, b ≠ a → b < a + 34 → g84 b = g70 b := fun b q1 q2 => (F71 b q1 (by omega)).trans (o71 b (by omega))
  have F69 : ∀ b : Nat, b ≠ a → b < a + 34 → g84 b = g69 b := fun b q1 q2 => (F70 b q1 (by omega)).trans (o70 b (by omega))
  have F68 : ∀ b : Nat, b ≠ a → b < a + 33 → g84 b = g68 b := fun b q1 q2 => (F69 b q1 (by omega)).trans (o69 b (by omega))
  have F67 : ∀ b : Nat, b ≠ a → b < a + 33 → g84 b = g67 b := fun b q1 q2 => (F68 b q1 (by omega)).trans (o68 b (by omega))
  have F66 : ∀ b : Nat, b ≠ a → b < a + 33 → g84 b = g66 b := fun b q1 q2 => (F67 b q1 (by omega)).trans (o67 b (by omega))
  have F65 : ∀ b : Nat, b ≠ a → b < a + 32 → g84 b = g65 b := fun b q1 q2 => (F66 b q1 (by omega)).trans (o66 b (by omega))
  have F64 : ∀ b : Nat, b ≠ a → b < a + 32 → g84 b = g64 b := fun b q1 q2 => (F65 b q1 (by omega)).trans (o65 b (by omega))
  have F63 : ∀ b : Nat, b ≠ a → b < a + 31 → g84 b = g63 b := fun b q1 q2 => (F64 b q1 (by omega)).trans (o64 b (by omega))
  have F62 : ∀ b : Nat, b ≠ a → b < a + 31 → g84 b = g62 b := fun b q1 q2 => (F63 b q1 (by omega)).trans (o63 b (by omega))
  have F61 : ∀ b : Nat, b ≠ a → b < a + 30 → g84 b = g61 b := fun b q1 q2 => (F62 b q1 (by omega)).trans (o62 b (by omega))
  have F60 : ∀ b : Nat, b ≠ a → b < a + 30 → g84 b = g60 b := fun b q1 q2 => (F61 b q1 (by omega)).trans (o61 b (by omega))
  have F59 : ∀ b : Nat, b ≠ a → b < a + 29 → g84 b = g59 b := fun b q1 q2 => (F60 b q1 (by omega)).trans (o60 b (by omega))
  have F58 : ∀ b : Nat, b ≠ a → b < a + 29 → g84 b = g58 b := fun b q1 q2 => (F59 b q1 (by omega)).trans (o59 b (by omega))
  have F57 : ∀ b : Nat, b ≠ a → b < a + 29 → g84 b = g57 b := fun b q1 q2 => (F58 b q1 (by omega)).trans (o58 b (by omega))
  have F56 : ∀ b : Nat, b ≠ a → b < a + 29 → g84 b = g56 b := fun b q1 q2 => (F57 b q1 (by omega)).trans (o57 b (by omega))
  have F55 : ∀ b : Nat, b ≠ a → b < a + 28 → g84 b = g55 b := fun b q1 q2 => (F56 b q1 (by omega)).trans (o56 b (by omega))
  have F54 : ∀ b : Nat, b ≠ a → b < a + 28 → g84 b = g54 b := fun b q1 q2 => (F55 b q1 (by omega)).trans (o55 b (by omega))
  have F53 : ∀ b : Nat, b ≠ a → b < a + 27 → g84 b = g53 b := fun b q1 q2 => (F54 b q1 (by omega)).trans (o54 b (by omega))
  have F52 : ∀ b : Nat, b ≠ a → b < a + 27 → g84 b = g52 b := fun b q1 q2 => (F53 b q1 (by omega)).trans (o53 b (by omega))
  have F51 : ∀ b : Nat, b ≠ a → b < a + 26 → g84 b = g51 b := fun b q1 q2 => (F52 b q1 (by omega)).trans (o52 b (by omega))
  have F50 : ∀ b : Nat, b ≠ a → b < a + 26 → g84 b = g50 b := fun b q1 q2 => (F51 b q1 (by omega)).trans (o51 b (by omega))
  have F49 : ∀ b : Nat, b ≠ a → b < a + 25 → g84 b = g49 b := fun b q1 q2 => (F50 b q1 (by omega)).trans (o50 b (by omega))
  have F48 : ∀ b : Nat, b ≠ a → b < a + 25 → g84 b = g48 b := fun b q1 q2 => (F49 b q1 (by omega)).trans (o49 b (by omega))
  have F47 : ∀ b : Nat, b ≠ a → b < a + 24 → g84 b = g47 b := fun b q1 q2 => (F48 b q1 (by omega)).trans (o48 b (by omega))
  have F46 : ∀ b : Nat, b ≠ a → b < a + 24 → g84 b = g46 b := fun b q1 q2 => (F47 b q1 (by omega)).trans (o47 b (by omega))
  have F45 : ∀ b : Nat, b ≠ a → b < a + 23 → g84 b = g45 b := fun b q1 q2 => (F46 b q1 (by omega)).trans (o46 b (by omega))
  have F44 : ∀ b : Nat, b ≠ a → b < a + 23 → g84 b = g44 b := fun b q1 q2 => (F45 b q1 (by omega)).trans (o45 b (by omega))
  have F43 : ∀ b : Nat, b ≠ a → b < a + 22 → g84 b = g43 b := fun b q1 q2 => (F44 b q1 (by omega)).trans (o44 b (by omega))
  have F42 : ∀ b : Nat, b ≠ a → b < a + 22 → g84 b = g42 b := fun b q1 q2 => (F43 b q1 (by omega)).trans (o43 b (by omega))
  have F41 : ∀ b : Nat, b ≠ a → b < a + 21 → g84 b = g41 b := fun b q1 q2 => (F42 b q1 (by omega)).trans (o42 b (by omega))
  have F40 : ∀ b : Nat, b ≠ a → b < a + 21 → g84 b = g40 b := fun b q1 q2 => (F41 b q1 (by omega)).trans (o41 b (by omega))
  have F39 : ∀ b : Nat, b ≠ a → b < a + 20 → g84 b = g39 b := fun b q1 q2 => (F40 b q1 (by omega)).trans (o40 b (by omega))
  have F38 : ∀ b : Nat, b ≠ a → b < a + 20 → g84 b = g38 b := fun b q1 q2 => (F39 b q1 (by omega)).trans (o39 b (by omega))
  have F37 : ∀ b : Nat, b ≠ a → b < a + 19 → g84 b = g37 b := fun b q1 q2 => (F38 b q1 (by omega)).trans (o38 b (by omega))
  have F36 : ∀ b : Nat, b ≠ a → b < a + 19 → g84 b = g36 b := fun b q1 q2 => (F37 b q1 (by omega)).trans (o37 b (by omega))
  have F35 : ∀ b : Nat, b ≠ a → b < a + 19 → g84 b = g35 b := fun b q1 q2 => (F36 b q1 (by omega)).trans (o36 b (by omega))
  have F34 : ∀ b : Nat, b ≠ a → b < a + 18 → g84 b = g34 b := fun b q1 q2 => (F35 b q1 (by omega)).trans (o35 b (by omega))
  have F33 : ∀ b : Nat, b ≠ a → b < a + 18 → g84 b = g33 b := fun b q1 q2 => (F34 b q1 (by omega)).trans (o34 b (by omega))
  have F32 : ∀ b : Nat, b ≠ a → b < a + 17 → g84 b = g32 b := fun b q1 q2 => (F33 b q1 (by omega)).trans (o33 b (by omega))
  have F31 : ∀ b : Nat, b ≠ a → b < a + 17 → g84 b = g31 b := fun b q1 q2 => (F32 b q1 (by omega)).trans (o32 b (by omega))
  have F30 : ∀ b : Nat, b ≠ a → b < a + 16 → g84 b = g30 b := fun b q1 q2 => (F31 b q1 (by omega)).trans (o31 b (by omega))
  have F29 : ∀ b : Nat, b ≠ a → b < a + 16 → g84 b = g29 b := fun b q1 q2 => (F30 b q1 (by omega)).trans (o30 b (by omega))
  have F28 : ∀ b : Nat, b ≠ a → b < a + 15 → g84 b = g28 b := fun b q1 q2 => (F29 b q1 (by omega)).trans (o29 b (by omega))
  have F27 : ∀ b : Nat, b ≠ a → b < a + 15 → g84 b = g27 b := fun b q1 q2 => (F28 b q1 (by omega)).trans (o28 b (by omega))
  have F26 : ∀ b : Nat, b ≠ a → b < a + 14 → g84 b = g26 b := fun b q1 q2 => (F27 b q1 (by omega)).trans (o27 b (by omega))
  have F25 : ∀ b : Nat, b ≠ a → b < a + 14 → g84 b = g25 b := fun b q1 q2 => (F26 b q1 (by omega)).trans (o26 b (by omega))
  have F24 : ∀ b : Nat, b ≠ a → b < a + 13 → g84 b = g24 b := fun b q1 q2 => (F25 b q1 (by omega)).trans (o25 b (by omega))
  have F23 : ∀ b : Nat, b ≠ a → b < a + 13 → g84 b = g23 b := fun b q1 q2 => (F24 b q1 (by omega)).trans (o24 b (by omega))
  have F22 : ∀ b : Nat, b ≠ a → b < a + 12 → g84 b = g22 b := fun b q1 q2 => (F23 b q1 (by omega)).trans (o23 b (by omega))
  have F21 : ∀ b : Nat, b ≠ a → b < a + 12 → g84 b = g21 b := fun b q1 q2 => (F22 b q1 (by omega)).trans (o22 b (by omega))
  have F20 : ∀ b : Nat, b ≠ a → b < a + 11 → g84 b = g20 b := fun b q1 q2 => (F21 b q1 (by omega)).trans (o21 b (by omega))
  have F19 : ∀ b : Nat, b ≠ a → b < a + 11 → g84 b = g19 b := fun b q1 q2 => (F20 b q1 (by omega)).trans (o20 b (by omega))
  have F18 : ∀ b : Nat, b ≠ a → b < a + 10 → g84 b = g18 b := fun b q1 q2 => (F19 b q1 (by omega)).trans (o19 b (by omega))
  have F17 : ∀ b : Nat, b ≠ a → b < a + 10 → g84 b = g17 b := fun b q1 q2 => (F18 b q1 (by omega)).trans (o18 b (by omega))
  have F16 : ∀ b : Nat, b ≠ a → b < a + 9 → g84 b = g16 b := fun b q1 q2 => (F17 b q1 (by omega)).trans (o17 b (by omega))
  have F15 : ∀ b : Nat, b ≠ a → b < a + 9 → g84 b = g15 b := fun b q1 q2 => (F16 b q1 (by omega)).trans (o16 b (by omega))
  have F14 : ∀ b : Nat, b ≠ a → b < a + 8 → g84 b = g14 b := fun b q1 q2 => (F15 b q1 (by omega)).trans (o15 b (by omega))
  have F13 : ∀ b : Nat, b ≠ a → b < a + 8 → g84 b = g13 b := fun b q1 q2 => (F14 b q1 (by omega)).trans (o14 b (by omega))
  have F12 : ∀ b : Nat, b ≠ a → b < a + 7 → g84 b = g12 b := fun b q1 q2 => (F13 b q1 (by omega)).trans (o13 b (by omega))
  have F11 : ∀ b : Nat, b ≠ a → b < a + 7 → g84 b = g11 b := fun b q1 q2 => (F12 b q1 (by omega)).trans (o12 b (by omega))
  have F10 : ∀ b : Nat, b ≠ a → b < a + 6 → g84 b = g10 b := fun b q1 q2 => (F11 b q1 (by omega)).trans (o11 b (by omega))
  have F9 : ∀ b : Nat, b ≠ a → b < a + 6 → g84 b = g9 b := fun b q1 q2 => (F10 b q1 (by omega)).trans (o10 b (by omega))
  have F8 : ∀ b : Nat, b ≠ a → b < a + 5 → g84 b = g8 b := fun b q1 q2 => (F9 b q1 (by omega)).trans (o9 b (by omega))
  have F7 : ∀ b : Nat, b ≠ a → b < a + 5 → g84 b = g7 b := fun b q1 q2 => (F8 b q1 (by omega)).trans (o8 b (by omega))
  have F6 : ∀ b : Nat, b ≠ a → b < a + 4 → g84 b = g6 b := fun b q1 q2 => (F7 b q1 (by omega)).trans (o7 b (by omega))
  have F5 : ∀ b : Nat, b ≠ a → b < a + 4 → g84 b = g5 b := fun b q1 q2 => (F6 b q1 (by omega)).trans (o6 b (by omega))
  have F4 : ∀ b : Nat, b ≠ a → b < a + 3 → g84 b = g4 b := fun b q1 q2 => (F5 b q1 (by omega)).trans (o5 b (by omega))
  have F3 : ∀ b : Nat, b ≠ a → b < a + 3 → g84 b = g3 b := fun b q1 q2 => (F4 b q1 (by omega)).trans (o4 b (by omega))
  have F2 : ∀ b : Nat, b ≠ a → b < a + 2 → g84 b = g2 b := fun b q1 q2 => (F3 b q1 (by omega)).trans (o3 b (by omega))
  have F1 : ∀ b : Nat, b ≠ a → b < a + 2 → g84 b = g1 b := fun b q1 q2 => (F2 b q1 (by omega)).trans (o2 b (by omega))
  have HZ : isR C12 g84 a zM := by
    refine ⟨H, fun q hq => ?_⟩
    simp only [C12, List.mem_cons, List.not_mem_nil, or_false] at hq
    rcases hq with rfl | rfl | rfl | rfl | rfl | rfl | rfl | rfl | rfl | rfl | rfl | rfl | rfl | rfl | rfl | rfl | rfl | rfl | rfl | rfl | rfl | rfl | rfl | rfl | rfl | rfl | rfl | rfl | rfl | rfl | rfl | rfl | rfl | rfl | rfl | rfl | rfl | rfl | rfl | rfl
    · exact (F1 (a + 1) (by omega) (by omega)).trans e1
    · exact (F3 (a + 2) (by omega) (by omega)).trans e3
    · exact (F5 (a + 3) (by omega) (by omega)).trans e5
    · exact (F7 (a + 4) (by omega) (by omega)).trans e7
    · exact (F9 (a + 5) (by omega) (by omega)).trans e9
    · exact (F11 (a + 6) (by omega) (by omega)).trans e11
    · exact (F13 (a + 7) (by omega) (by omega)).trans e13
    · exact (F15 (a + 8) (by omega) (by omega)).trans e15
    · exact (F17 (a + 9) (by omega) (by omega)).trans e17
    · exact (F19 (a + 10) (by omega) (by omega)).trans e19
    · exact (F21 (a + 11) (by omega) (by omega)).trans e21
    · exact (F23 (a + 12) (by omega) (by omega)).trans e23
    · exact (F25 (a + 13) (by omega) (by omega)).trans e25
    · exact (F27 (a + 14) (by omega) (by omega)).trans e27
    · exact (F29 (a + 15) (by omega) (by omega)).trans e29
    · exact (F31 (a + 16) (by omega) (by omega)).trans e31
    · exact (F33 (a + 17) (by omega) (by omega)).trans e33
    · exact (F35 (a + 18) (by omega) (by omega)).trans e35
    · exact (F38 (a + 19) (by omega) (by omega)).trans e38
    · exact (F40 (a + 20) (by omega) (by omega)).trans e40
    · exact (F42 (a + 21) (by omega) (by omega)).trans e42
    · exact (F44 (a + 22) (by omega) (by omega)).trans e44
    · exact (F46 (a + 23) (by omega) (by omega)).trans e46
    · exact (F48 (a + 24) (by omega) (by omega)).trans e48
    · exact (F50 (a + 25) (by omega) (by omega)).trans e50
    · exact (F52 (a + 26) (by omega) (by omega)).trans e52
    · exact (F54 (a + 27) (by omega) (by omega)).trans e54
    · exact (F56 (a + 28) (by omega) (by omega)).trans e56
    · exact (F60 (a + 29) (by omega) (by omega)).trans e60
    · exact (F62 (a + 30) (by omega) (by omega)).trans e62
    · exact (F64 (a + 31) (by omega) (by omega)).trans e64
    · exact (F66 (a + 32) (by omega) (by omega)).trans e66
    · exact (F69 (a + 33) (by omega) (by omega)).trans e69
    · exact (F71 (a + 34) (by omega) (by omega)).trans e71
    · exact (F73 (a + 35) (by omega) (by omega)).trans e73
    · exact (F75 (a + 36) (by omega) (by omega)).trans e75
    · exact (F77 (a + 37) (by omega) (by omega)).trans e77
    · exact (F79 (a + 38) (by omega) (by omega)).trans e79
    · exact (F81 (a + 39) (by omega) (by omega)).trans e81
    · exact (F83 (a + 40) (by omega) (by omega)).trans e83
  have FR : ∀ b : Nat, (b < a ∨ a + 41 ≤ b) → g84 b = h b := fun b hb => (o84 b (by omega)).trans ((o83 b (by omega)).trans ((o82 b (by omega)).trans ((o81 b (by omega)).trans ((o80 b (by omega)).trans ((o79 b (by omega)).trans ((o78 b (by omega)).trans ((o77 b (by omega)).trans ((o76 b (by omega)).trans ((o75 b (by omega)).trans ((o74 b (by omega)).trans ((o73 b (by omega)).trans ((o72 b (by omega)).trans ((o71 b (by omega)).trans ((o70 b (by omega)).trans ((o69 b (by omega)).trans ((o68 b (by omega)).trans ((o67 b (by omega)).trans ((o66 b (by omega)).trans ((o65 b (by omega)).trans ((o64 b (by omega)).trans ((o63 b (by omega)).trans ((o62 b (by omega)).trans ((o61 b (by omega)).trans ((o60 b (by omega)).trans ((o59 b (by omega)).trans ((o58 b (by omega)).trans ((o57 b (by omega)).trans ((o56 b (by omega)).trans ((o55 b (by omega)).trans ((o54 b (by omega)).trans ((o53 b (by omega)).trans ((o52 b (by omega)).trans ((o51 b (by omega)).trans ((o50 b (by omega)).trans ((o49 b (by omega)).trans ((o48 b (by omega)).trans ((o47 b (by omega)).trans ((o46 b (by omega)).trans ((o45 b (by omega)).trans ((o44 b (by omega)).trans ((o43 b (by omega)).trans ((o42 b (by omega)).trans ((o41 b (by omega)).trans ((o40 b (by omega)).trans ((o39 b (by omega)).trans ((o38 b (by omega)).trans ((o37 b (by omega)).trans ((o36 b (by omega)).trans ((o35 b (by omega)).trans ((o34 b (by omega)).trans ((o33 b (by omega)).trans ((o32 b (by omega)).trans ((o31 b (by omega)).trans ((o30 b (by omega)).trans ((o29 b (by omega)).trans ((o28 b (by omega)).trans ((o27 b (by omega)).trans ((o26 b (by omega)).trans ((o25 b (by omega)).trans ((o24 b (by omega)).trans ((o23 b (by omega)).trans ((o22 b (by omega)).trans ((o21 b (by omega)).trans ((o20 b (by omega)).trans ((o19 b (by omega)).trans ((o18 b (by omega)).trans ((o17 b (by omega)).trans ((o16 b (by omega)).trans ((o15 b (by omega)).trans ((o14 b (by omega)).trans ((o13 b (by omega)).trans ((o12 b (by omega)).trans ((o11 b (by omega)).trans ((o10 b (by omega)).trans ((o9 b (by omega)).trans ((o8 b (by omega)).trans ((o7 b (by omega)).trans ((o6 b (by omega)).trans ((o5 b (by omega)).trans ((o4 b (by omega)).trans ((o3 b (by omega)).trans ((o2 b (by omega)).trans ((o1 b (by omega)))))))))))))))))))))))))))))))))))))))))))))))))))))))))))))))))))))))))))))))))))))
  refine V.cV0 (ci := 12) yoX12_begins ml_X12_145 im_X12_begins se_X12_begins dX12_init_353 rfl HZ.1 (Nat.le_of_ble_eq_true rfl) (by omega) ⟨Nat.le_refl _, Nat.le_refl _⟩ rfl (Nat.le_of_ble_eq_true rfl) (begins_M (h0 := g84) (by omega) g84 HZ (fun _ _ => rfl)) ?_
  rintro _ hz ⟨s', ⟨rfl, fr, z4, zp⟩, Hs, fM⟩
  refine V.vret dX12_init_356 rfl ?_
  exact ⟨rfl, ⟨s', Hs, fr, z4, zp⟩, fun b hb => (fM b hb).trans (FR b hb)⟩
