/-! THE LAW'S ENTRY: what the Statement gives -/
/-- what holds at the law's entry: the machine, the code, the tables' words (any of lw_tbl by 'hts w (by decide +kernel)'), the script of L ints xs at the cell b, what the Statement gives of the start (any of its parts by flat_of_before) -/
def lw_At (p : Program) (s : State) (m : MethodId) (meth : Method) (c : Code) (b L : Nat) (xs : Nat → Int32) : Prop :=
  p.tables.exec = Jvm.exec ∧ c.code = code ∧ meth.sig.returnType = ret ∧ c.maxLocals = 7 ∧ s.vm.findClass R_law = some m.cls ∧ (∀ w ∈ lw_tbl, w.before #[Value.ref b] s = true) ∧ va_X b L xs s s.heap ∧ b < s.heap.size ∧ meth.locks = false ∧ (Jvm.Cond.and given_1 narrow_1).before #[Value.ref b] s = true
abbrev roC : Cond := Jvm.Cond.and given_1 narrow_1
def roTm : Nat → Term
  | 0 => .string "BurntEnds" 126
  | 1 => .string "BurntEnds" 158
  | _ => .string "BurntEndsModel" 191
theorem ro_w : (∀ j, j < 21 → Cond.eq (.elem (.static "BurntEnds" "WORDS" "[I") (.int (Int32.ofNat j))) (.int (wW.getD j 0)) ∈ flatC roC) ∧ Cond.arrayOf (.static "BurntEnds" "WORDS" "[I") .int ∈ flatC roC ∧ Cond.eq (.length (.static "BurntEnds" "WORDS" "[I")) (.int 21) ∈ flatC roC := by decide +kernel
theorem ro_f : Cond.eq (.static "java/lang/String" "COMPACT_STRINGS" "Z") (.int 1) ∈ flatC roC ∧ Cond.isRef (.static "jdk/internal/util/Preconditions" "SIOOBE_FORMATTER" "Ljava/util/function/BiFunction;") ∈ flatC roC ∧ Cond.isRef (.static Bundle.tN "UNASSIGNED_STACK" Bundle.steD) ∈ flatC roC ∧ Cond.isRef (.static Bundle.tN "SUPPRESSED_SENTINEL" Bundle.listD) ∈ flatC roC := by decide +kernel
theorem ro_s1 : ∀ i, i < 3 → Cond.exactly (roTm i) "java/lang/String" ∈ flatC roC ∧ Cond.eq (.field (roTm i) "java/lang/String" "coder" "B") (.int 0) ∈ flatC roC ∧ Cond.arrayOf (.field (roTm i) "java/lang/String" "value" "[B") .byte ∈ flatC roC ∧ Cond.eq (.length (.field (roTm i) "java/lang/String" "value" "[B")) (.int (Int32.ofNat (roLen.getD i 0))) ∈ flatC roC := by decide +kernel
theorem ro_s2 : ∀ i, i < 3 → ∀ j, j < roLen.getD i 0 → Cond.eq (.elem (.field (roTm i) "java/lang/String" "value" "[B") (.int (Int32.ofNat j))) (.int ((roByt.getD i []).getD j 0)) ∈ flatC roC := by decide +kernel
theorem ro_s3 : ∀ i, i < 3 → ∀ j, j < 3 → i ≠ j → Cond.not (Cond.eq (roTm i) (roTm j)) ∈ flatC roC ∨ Cond.not (Cond.eq (roTm j) (roTm i)) ∈ flatC roC := by decide +kernel
theorem nw_tbl : ∀ w ∈ NW, w ∈ lw_tbl := by
  have h : NW = [38, 44, 73, 110, 235, 238, 300, 305, 327, 350, 379, 390, 518, 894].filterMap (fun i => tables_1[i]?) := by decide +kernel
  intro w hw
  rw [h] at hw
  obtain ⟨i, -, hi⟩ := List.mem_filterMap.mp hw
  exact List.mem_append_right _ (List.mem_of_getElem? hi)
theorem nw_onT : ∀ w ∈ NW, w.onTables = true := List.all_eq_true.mp (by decide +kernel)
theorem lw_in {w : Cond} (i : Nat) (h : tables_1[i]? = some w) : w ∈ lw_tbl := List.mem_append_right _ (List.mem_of_getElem? h)
section Entry
variable {s : State} {args : Array Value}
theorem ro_at (hts : ∀ w ∈ lw_tbl, w.before args s = true) (hc : roC.before args s = true) : ∃ κ : Kd, RO κ (lwA s.heap.size) s s.heap := by
  have hs := flat_of_before _ hc
  have hA : ∀ a : Nat, a < s.heap.size → ¬ lwA s.heap.size a := fun a ha z => absurd ha (Nat.not_lt.mpr z)
  obtain ⟨t, ht, hT⟩ := va_Tof (tm := .static "BurntEnds" "WORDS" "[I") (ty := .int) (N := 21) (f := fun j => .int (wW.getD j 0)) (A := lwA s.heap.size) (by decide) (hs _ ro_w.2.1) (va_eqt (hs _ ro_w.2.2)) (fun j hj => va_eqt (hs _ (ro_w.1 j hj))) hA
  obtain ⟨adK, adV, hS, hE⟩ := vk_Sof (N := 3) (tm := roTm) (len := roLen) (byt := roByt) (A := lwA s.heap.size) (by decide) (fun i hi => hs _ (ro_s1 i hi).1) (fun i hi => hs _ (ro_s1 i hi).2.1) (fun i hi => hs _ (ro_s1 i hi).2.2.1) (fun i hi => hs _ (ro_s1 i hi).2.2.2) (fun i hi j hj => hs _ (ro_s2 i hi j hj)) (fun i j hi hj hij => (ro_s3 i hi j hj hij).elim (fun h => Or.inl (hs _ h)) (fun h => Or.inr (hs _ h))) hA
  refine ⟨(t, adK 2, adV 2), ⟨va_Zof (hts _ (lw_in 519 (by decide +kernel))) (hts _ (lw_in 1 (by decide +kernel))) ht hA, hT⟩, ⟨va_Zof (hts _ (lw_in 1485 (by decide +kernel))) (hts _ (lw_in 17 (by decide +kernel))) (va_eqi (hs _ ro_f.1)) hA, va_Zqof (hts _ (lw_in 1501 (by decide +kernel))) (hts _ (lw_in 19 (by decide +kernel))) (hs _ ro_f.2.1) hA⟩, adK, adV, hS,
    vk_R.of (hts _ (lw_in 1190 (by decide +kernel))) (hE 0 (by decide)), vk_R.of (hts _ (lw_in 1226 (by decide +kernel))) (hE 1 (by decide)), vk_R.of (hts _ (lw_in 1475 (by decide +kernel))) (hE 2 (by decide)), rfl, rfl⟩
theorem zq_at (hts : ∀ w ∈ lw_tbl, w.before args s = true) (hc : roC.before args s = true) : vx_Zq Bundle.tN "UNASSIGNED_STACK" Bundle.steD (lwA s.heap.size) s s.heap ∧ vx_Zq Bundle.tN "SUPPRESSED_SENTINEL" Bundle.listD (lwA s.heap.size) s s.heap := by
  have hs := flat_of_before _ hc
  have hA : ∀ a : Nat, a < s.heap.size → ¬ lwA s.heap.size a := fun a ha z => absurd ha (Nat.not_lt.mpr z)
  exact ⟨vx_Zqof (hts _ (lw_in 1177 (by decide +kernel))) (hts _ (lw_in 21 (by decide +kernel))) (hs _ ro_f.2.2.1) hA, vx_Zqof (hts _ (lw_in 1179 (by decide +kernel))) (hts _ (lw_in 21 (by decide +kernel))) (hs _ ro_f.2.2.2) hA⟩
theorem bg_at (hts : ∀ w ∈ lw_tbl, w.before args s = true) : ∀ w ∈ BG, w.before args s = true := fun w hw => hts w (List.mem_filter.mp hw).1
theorem arr_at {ty : FieldType} (h : (Cond.arrayClass ty).before args s = true) (hp : ∀ C, ty ≠ .object C) : ∃ cA : ClassId, ArrOfT s cA ty ∧ va_RA s cA ty := by
  obtain ⟨cA, kA, comp, h1, h2, h3⟩ := Cond.arrayClass_spec (args := args) (first := s) (o := none) (s := s) (idx := []) h
  refine ⟨cA, fun n z => ⟨fun k h => (by cases h), kA, h2, comp, h3⟩, ?_⟩
  cases ty with
  | object C => exact absurd rfl (hp C)
  | _ => exact h1
theorem ok_at (hb : ∀ w ∈ BG, w.before args s = true) {ci : Nat} {C : String} {T : u_T} {NF : Nat} {ty : Nat → FieldType} (ok : Cok ci C T NF ty) (hi : Cond.instantiable C NF ∈ BG) : ∃ (cC : ClassId) (iS : Nat → Nat), ∀ q : vw_C, vwCl[ci]? = some q → u_Kn s q.1 q.2.1 q.2.2 cC iS := by
  obtain ⟨cC, iS, h⟩ := u_known hb ok.2.1 (hb _ hi)
  refine ⟨cC, iS, fun q hq => ?_⟩
  cases Option.some.inj (ok.1.symm.trans hq)
  exact h
theorem k_at (hb : ∀ w ∈ BG, w.before args s = true) : ∃ (G : va_G) (aC : Nat → ClassId), va_K G vwCl (tysOf aC) s := by
  have h : ∀ ci : Nat, ∃ g : ClassId × (Nat → Nat), ∀ q : vw_C, vwCl[ci]? = some q → u_Kn s q.1 q.2.1 q.2.2 g.1 g.2 := by
    intro ci
    by_cases hci : ci < 13
    · have f : ∀ {ci : Nat}, (∃ (cC : ClassId) (iS : Nat → Nat), ∀ q : vw_C, vwCl[ci]? = some q → u_Kn s q.1 q.2.1 q.2.2 cC iS) → ∃ g : ClassId × (Nat → Nat), ∀ q : vw_C, vwCl[ci]? = some q → u_Kn s q.1 q.2.1 q.2.2 g.1 g.2 := fun ⟨a, b, h⟩ => ⟨(a, b), h⟩
      exact match ci, hci with
      | 0, _ => f (ok_at hb okX0 ins_X0)
      | 1, _ => f (ok_at hb okX1 ins_X1)
      | 2, _ => f (ok_at hb okX2 ins_X2)
      | 3, _ => f (ok_at hb okX3 ins_X3)
      | 4, _ => f (ok_at hb okX4 ins_X4)
      | 5, _ => f (ok_at hb okX5 ins_X5)
      | 6, _ => f (ok_at hb okX6 ins_X6)
      | 7, _ => f (ok_at hb okX7 ins_X7)
      | 8, _ => f (ok_at hb okX8 ins_X8)
      | 9, _ => f (ok_at hb okX9 ins_X9)
      | 10, _ => f (ok_at hb okX10 ins_X10)
      | 11, _ => f (ok_at hb okX11 ins_X11)
      | 12, _ => f (ok_at hb okX12 ins_X12)
      | n + 13, h => absurd h (by omega)
    · exact ⟨(0, fun _ => 0), fun q hq => absurd (List.getElem?_eq_some_iff.mp hq).1 hci⟩
  obtain ⟨g, hg⟩ := Classical.axiomOfChoice h
  obtain ⟨a0, h0⟩ := arr_at (hb _ ac_int) (fun C z => by cases z)
  obtain ⟨a1, h1⟩ := arr_at (hb _ ac_long) (fun C z => by cases z)
  obtain ⟨a2, h2⟩ := arr_at (hb _ ac_boolean) (fun C z => by cases z)
  refine ⟨(fun c => (g c).1, fun c => (g c).2), fun k => if k = 0 then a0 else if k = 1 then a1 else a2, hg, fun k q hk => ?_⟩
  have hl : k < 3 := (List.getElem?_eq_some_iff.mp hk).1
  rcases (show k = 0 ∨ k = 1 ∨ k = 2 by omega) with rfl | rfl | rfl
  · cases hk
    exact h0
  · cases hk
    exact h1
  · cases hk
    exact h2
end Entry
