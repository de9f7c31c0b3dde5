/-! rows in the form that the walks use -/
theorem nw_X11_17 : Cond.methodLinkNest RX11 17 yX6_init "BurntEnds" ∈ NW := List.mem_of_getElem? (i := 0) rfl
theorem nw_X6_17 : Cond.methodLinkNest RX6 17 yX7_init "BurntEnds" ∈ NW := List.mem_of_getElem? (i := 1) rfl
theorem nw_X6_24 : Cond.methodLinkNest RX6 24 yX8_init "BurntEnds" ∈ NW := List.mem_of_getElem? (i := 2) rfl
theorem nw_X8_39 : Cond.methodLinkNest RX8 39 yX4_init "BurntEnds" ∈ NW := List.mem_of_getElem? (i := 3) rfl
theorem nw_X11_24 : Cond.methodLinkNest RX11 24 yX8_init "BurntEnds" ∈ NW := List.mem_of_getElem? (i := 4) rfl
theorem nw_X11_34 : Cond.methodLinkNest RX11 34 yX0_init "BurntEnds" ∈ NW := List.mem_of_getElem? (i := 5) rfl
theorem nw_X11_47 : Cond.methodLinkNest RX11 47 yX1_init "BurntEnds" ∈ NW := List.mem_of_getElem? (i := 6) rfl
theorem nw_X1_11 : Cond.methodLinkNest RX1 11 yX8_init "BurntEnds" ∈ NW := List.mem_of_getElem? (i := 7) rfl
theorem nw_X11_54 : Cond.methodLinkNest RX11 54 yX10_init "BurntEnds" ∈ NW := List.mem_of_getElem? (i := 8) rfl
theorem nw_X11_61 : Cond.methodLinkNest RX11 61 yX3_init "BurntEnds" ∈ NW := List.mem_of_getElem? (i := 9) rfl
theorem nw_X11_68 : Cond.methodLinkNest RX11 68 yX5_init "BurntEnds" ∈ NW := List.mem_of_getElem? (i := 10) rfl
theorem nw_X11_75 : Cond.methodLinkNest RX11 75 yX9_init "BurntEnds" ∈ NW := List.mem_of_getElem? (i := 11) rfl
theorem nw_X7_66 : Cond.fieldLinkNest RX7 66 "BurntEnds" "WORDS" "[I" "BurntEnds" ∈ NW := List.mem_of_getElem? (i := 12) rfl
theorem nw_X1_65 : Cond.methodLinkNest RX1 65 yX11_within "BurntEnds" ∈ NW := List.mem_of_getElem? (i := 13) rfl
def Rd (h : Hp) (r : Value) : Option Value → Hp → Prop := fun v h' => v = some r ∧ h' = h
def bI (b : Bool) : Int32 := if b then 1 else 0
theorem bI_t {b : Bool} (h : ¬ bI b = 0) : b = true := by cases b <;> simp_all [bI]
theorem bI_f {b : Bool} (h : bI b = 0) : b = false := by cases b <;> simp_all [bI]
theorem bI_n (b : Bool) : narrow .boolean (.int (bI b)) = .int (bI b) := by cases b <;> rfl
theorem bI_fit (b : Bool) : fits .boolean (.int (bI b)) = true := by cases b <;> rfl
theorem up31 {n : Nat} (h : n < 2147483648) : n < 2 ^ 31 := h
section Rows2
variable {Y : Yd} {Z : Zd} {ca sl : Nat} {h : Hp} {pc : Nat} {L : List (Option Value)} {rest : List Value} {P : Option Value → Hp → Prop}
theorem V.rdK {r : Value} (k : V Y Z ca sl h pc L (r :: rest) P) : ∀ (v : Option Value) (h' : Hp), Rd h r v h' → V Y Z ca sl h' pc L (v.toList ++ rest) P := by
  rintro _ _ ⟨rfl, rfl⟩
  exact k
theorem V.ialdN {a n j : Nat} {f : Nat → Int32} {x : Int32} (hdg : decode Y.2.1 pc = .ok (.iaload, 1)) (ha : h a = some (.inl (0, n, .inl f))) (hx : x = nI j) (hj : j < n) (hn : n < 2147483648) (k : V Y Z ca sl h (pc + 1) L (.int (f j) :: rest) P) : V Y Z ca sl h pc L (.int x :: .ref a :: rest) P := by
  subst hx
  refine V.iald hdg ha (vp_in_nI hj hn) ?_
  rw [nI_clamp (Nat.lt_trans hj hn)]
  exact k
theorem V.laldN {a n j : Nat} {f : Nat → Int64} {x : Int32} (hdg : decode Y.2.1 pc = .ok (.laload, 1)) (ha : h a = some (.inl (1, n, .inr (.inl f)))) (hx : x = nI j) (hj : j < n) (hn : n < 2147483648) (k : V Y Z ca sl h (pc + 1) L (.long (f j) :: rest) P) : V Y Z ca sl h pc L (.int x :: .ref a :: rest) P := by
  subst hx
  refine V.lald hdg ha (vp_in_nI hj hn) ?_
  rw [nI_clamp (Nat.lt_trans hj hn)]
  exact k
theorem V.zaldN {a n j : Nat} {f : Nat → Int32} {x : Int32} (hdg : decode Y.2.1 pc = .ok (.baload, 1)) (ha : h a = some (.inl (2, n, .inl f))) (hx : x = nI j) (hj : j < n) (hn : n < 2147483648) (k : V Y Z ca sl h (pc + 1) L (.int (f j) :: rest) P) : V Y Z ca sl h pc L (.int x :: .ref a :: rest) P := by
  subst hx
  refine V.zald hdg ha (vp_in_nI hj hn) ?_
  rw [nI_clamp (Nat.lt_trans hj hn)]
  exact k
theorem V.iastH {a n j : Nat} {f : Nat → Int32} {x : Int32} {y : Int32} (hdg : decode Y.2.1 pc = .ok (.iastore, 1)) (ha : h a = some (.inl (0, n, .inl f))) (hx : x = nI j) (hj : j < n) (hn : n < 2147483648) (k : ∀ h' : Hp, h' a = some (.inl (0, n, .inl (upd f j y))) → (∀ b : Nat, b ≠ a → h' b = h b) → V Y Z ca sl h' (pc + 1) L rest P) : V Y Z ca sl h pc L (.int y :: .int x :: .ref a :: rest) P := by
  subst hx
  refine V.iast hdg ha (vp_in_nI hj hn) ?_
  rw [nI_clamp (Nat.lt_trans hj hn)]
  exact k _ up_s (fun b hb => up_n hb)
theorem V.lastH {a n j : Nat} {f : Nat → Int64} {x : Int32} {y : Int64} (hdg : decode Y.2.1 pc = .ok (.lastore, 1)) (ha : h a = some (.inl (1, n, .inr (.inl f)))) (hx : x = nI j) (hj : j < n) (hn : n < 2147483648) (k : ∀ h' : Hp, h' a = some (.inl (1, n, .inr (.inl (vp_updL f j y)))) → (∀ b : Nat, b ≠ a → h' b = h b) → V Y Z ca sl h' (pc + 1) L rest P) : V Y Z ca sl h pc L (.long y :: .int x :: .ref a :: rest) P := by
  subst hx
  refine V.last hdg ha (vp_in_nI hj hn) ?_
  rw [nI_clamp (Nat.lt_trans hj hn)]
  exact k _ up_s (fun b hb => up_n hb)
theorem V.zastH {a n j : Nat} {f : Nat → Int32} {x y : Int32} (hdg : decode Y.2.1 pc = .ok (.bastore, 1)) (ha : h a = some (.inl (2, n, .inl f))) (hx : x = nI j) (hj : j < n) (hn : n < 2147483648) (hy : vp_nar .boolean y = y) (k : ∀ h' : Hp, h' a = some (.inl (2, n, .inl (upd f j y))) → (∀ b : Nat, b ≠ a → h' b = h b) → V Y Z ca sl h' (pc + 1) L rest P) : V Y Z ca sl h pc L (.int y :: .int x :: .ref a :: rest) P := by
  subst hx
  refine V.zast hdg ha (vp_in_nI hj hn) ?_
  rw [nI_clamp (Nat.lt_trans hj hn), hy]
  exact k _ up_s (fun b hb => up_n hb)
theorem V.putfH {ci : Nat} {C : String} {T : u_T} {N : Nat} {ty : Nat → FieldType} (ok : Cok ci C T N ty) (i : Nat) {idx a : Nat} {fs : List Value} {v : Value} (hlk : Cond.fieldLink Y.1.cls idx (T i).1 (T i).2.1 (T i).2.2.1 ∈ BG) (hdg : decode Y.2.1 pc = .ok (.putfield idx, 3)) (hi : i < N) (hfin : (T i).2.2.2 = false) (ha : h a = some (.inr (ci, fs))) (hn0 : narrow (ty i) v = v) (hfit : fits (ty i) v = true) (hl : i < fs.length) (k : ∀ h' : Hp, h' a = some (.inr (ci, fs.set i v)) → (∀ b : Nat, b ≠ a → h' b = h b) → V Y Z ca sl h' (pc + 3) L rest P) : V Y Z ca sl h pc L (v :: .ref a :: rest) P :=
  V.putf ok i hlk hdg hi hfin ha hn0 hfit hl (k _ up_s (fun b hb => up_n hb))
theorem V.putfFH {ci : Nat} {C : String} {T : u_T} {N : Nat} {ty : Nat → FieldType} (ok : Cok ci C T N ty) (i : Nat) {idx a : Nat} {fs : List Value} {v : Value} (hlk : Cond.fieldLink Y.1.cls idx (T i).1 (T i).2.1 (T i).2.2.1 ∈ BG) (hdg : decode Y.2.1 pc = .ok (.putfield idx, 3)) (hi : i < N) (hfin : (T i).2.2.2 = true) (hnm : Y.1.name = "<init>") (hdc : (T i).1 = Y.1.cls) (ha : h a = some (.inr (ci, fs))) (hn0 : narrow (ty i) v = v) (hfit : fits (ty i) v = true) (hl : i < fs.length) (k : ∀ h' : Hp, h' a = some (.inr (ci, fs.set i v)) → (∀ b : Nat, b ≠ a → h' b = h b) → V Y Z ca sl h' (pc + 3) L rest P) : V Y Z ca sl h pc L (v :: .ref a :: rest) P :=
  V.putfF ok i hlk hdg hi hfin hnm hdc ha hn0 hfit hl (k _ up_s (fun b hb => up_n hb))
/-- a row is what its places hold -/
theorem V.rowI {a t n : Nat} {f : Nat → Int32} (g : Nat → Int32) (ha : h a = some (.inl (t, n, .inl f))) (hfg : ∀ j, j < n → f j = g j) (k : ∀ h' : Hp, h' a = some (.inl (t, n, .inl g)) → (∀ b : Nat, b ≠ a → h' b = h b) → V Y Z ca sl h' pc L rest P) : V Y Z ca sl h pc L rest P := by
  intro p l e s m args below meth c G aC A H locs ls hF hK hRO hA hn hR hz hS hL
  obtain ⟨ws, hP, hD, hC⟩ := hR
  obtain ⟨q, hq⟩ := hC.at ha
  have h1 : H[a]? = some (vp_cell (aC t) (n, .inl f)) := hP q _ hq
  have ec : vp_cell (aC t) (n, .inl f) = vp_cell (aC t) (n, .inl g) := by
    rw [vp_cell_i, vp_cell_i]
    unfold arrV
    have : (fun j : Fin n => Value.int (f j.val)) = (fun j : Fin n => Value.int (g j.val)) := funext fun j => by rw [hfg j.val j.isLt]
    rw [this]
  exact k (up h a (.inl (t, n, .inl g))) up_s (fun b hb => up_n hb) p l e s m args below meth c G aC A H locs ls hF hK hRO hA hn ⟨_, hP.set (e := co aC (.inl (t, n, .inl g))) hD hq (show H[a]? = some (vp_cell (aC t) (n, .inl g)) by rw [← ec]; exact h1) (fun _ _ => rfl), hD.set hq, hC.set (o := .inl (t, n, .inl g)) hq⟩ hz hS hL
/-- a row is what its places hold -/
theorem V.rowJ {a t n : Nat} {f : Nat → Int64} (g : Nat → Int64) (ha : h a = some (.inl (t, n, .inr (.inl f)))) (hfg : ∀ j, j < n → f j = g j) (k : ∀ h' : Hp, h' a = some (.inl (t, n, .inr (.inl g))) → (∀ b : Nat, b ≠ a → h' b = h b) → V Y Z ca sl h' pc L rest P) : V Y Z ca sl h pc L rest P := by
  intro p l e s m args below meth c G aC A H locs ls hF hK hRO hA hn hR hz hS hL
  obtain ⟨ws, hP, hD, hC⟩ := hR
  obtain ⟨q, hq⟩ := hC.at ha
  have h1 : H[a]? = some (vp_cell (aC t) (n, .inr (.inl f))) := hP q _ hq
  have ec : vp_cell (aC t) (n, .inr (.inl f)) = vp_cell (aC t) (n, .inr (.inl g)) := by
    rw [vp_cell_l, vp_cell_l]
    unfold arrV
    have : (fun j : Fin n => Value.long (f j.val)) = (fun j : Fin n => Value.long (g j.val)) := funext fun j => by rw [hfg j.val j.isLt]
    rw [this]
  exact k (up h a (.inl (t, n, .inr (.inl g)))) up_s (fun b hb => up_n hb) p l e s m args below meth c G aC A H locs ls hF hK hRO hA hn ⟨_, hP.set (e := co aC (.inl (t, n, .inr (.inl g)))) hD hq (show H[a]? = some (vp_cell (aC t) (n, .inr (.inl g))) by rw [← ec]; exact h1) (fun _ _ => rfl), hD.set hq, hC.set (o := .inl (t, n, .inr (.inl g))) hq⟩ hz hS hL
theorem V.copyIF {d mc ms n0 : Nat} {κ : Kd} {idx a a0 m : Nat} {f g : Nat → Int32} {z1 z2 c : Int32} (hlk : Cond.methodLink Y.1.cls idx arraycopyName ∈ BG) (hdg : decode Y.2.1 pc = .ok (.invokestatic idx, 3)) (ha0 : h a0 = some (.inl (0, m, .inl f))) (ha : h a = some (.inl (0, m, .inl g))) (h1 : z1 = nI 0) (h2 : z2 = nI 0) (h3 : c = nI m) (hm : m < 2147483648) (hd : 1 ≤ d) (hrm : (rest.map fun v => v.category).sum ≤ 8)
    (k : ∀ h' : Hp, h' a = some (.inl (0, m, .inl f)) → (∀ b : Nat, b ≠ a → h' b = h b) → V Y (d, mc, ms, n0, κ) ca sl h' (pc + 3) L rest P) : V Y (d, mc, ms, n0, κ) ca sl h pc L (.int c :: .int z2 :: .ref a :: .int z1 :: .ref a0 :: rest) P := by
  subst h1
  subst h2
  subst h3
  have hz : (nI 0).toNatClampNeg = 0 := nI_clamp (by decide)
  refine V.copyI hlk nat_arraycopy st_arraycopy ini_J10 hdg ha0 ha (nI_pos (by decide)) (nI_pos (by decide)) (nI_pos hm) (by rw [hz, nI_clamp hm]; omega) (by rw [hz, nI_clamp hm]; omega) hd hrm ?_
  refine V.rowI f up_s (fun j hj => ?_) (fun h' e o => k h' e (fun b hb => (o b hb).trans (up_n hb)))
  rw [hz, nI_clamp hm]
  simp [va_cpy, hj]
theorem V.copyJF {d mc ms n0 : Nat} {κ : Kd} {idx a a0 m : Nat} {f g : Nat → Int64} {z1 z2 c : Int32} (hlk : Cond.methodLink Y.1.cls idx arraycopyName ∈ BG) (hdg : decode Y.2.1 pc = .ok (.invokestatic idx, 3)) (ha0 : h a0 = some (.inl (1, m, .inr (.inl f)))) (ha : h a = some (.inl (1, m, .inr (.inl g)))) (h1 : z1 = nI 0) (h2 : z2 = nI 0) (h3 : c = nI m) (hm : m < 2147483648) (hd : 1 ≤ d) (hrm : (rest.map fun v => v.category).sum ≤ 8)
    (k : ∀ h' : Hp, h' a = some (.inl (1, m, .inr (.inl f))) → (∀ b : Nat, b ≠ a → h' b = h b) → V Y (d, mc, ms, n0, κ) ca sl h' (pc + 3) L rest P) : V Y (d, mc, ms, n0, κ) ca sl h pc L (.int c :: .int z2 :: .ref a :: .int z1 :: .ref a0 :: rest) P := by
  subst h1
  subst h2
  subst h3
  have hz : (nI 0).toNatClampNeg = 0 := nI_clamp (by decide)
  refine V.copyJ hlk nat_arraycopy st_arraycopy ini_J10 hdg ha0 ha (nI_pos (by decide)) (nI_pos (by decide)) (nI_pos hm) (by rw [hz, nI_clamp hm]; omega) (by rw [hz, nI_clamp hm]; omega) hd hrm ?_
  refine V.rowJ f up_s (fun j hj => ?_) (fun h' e o => k h' e (fun b hb => (o b hb).trans (up_n hb)))
  rw [hz, nI_clamp hm]
  simp [va_cpy, hj]
def tsOk (pc : Nat) (lo hi : Int) (offs : Array Int) (td : Nat) (ts : List (Int32 × Nat)) : Bool :=
  decide (hi + 1 - lo = (offs.size : Int)) && ts.all (fun q => decide (lo ≤ q.1.toInt) && (match offs[(q.1.toInt - lo).toNat]? with
    | some off => decide ((pc : Int) + off = (q.2 : Int))
    | none => false)) && (List.range offs.size).all (fun j => match offs[j]? with
    | some off => decide ((pc : Int) + off = (td : Int)) || ts.any (fun q => decide (q.1.toInt = lo + j))
    | none => false)
theorem fa_nil {α : Type} {Q : α → Prop} : ∀ q ∈ ([] : List α), Q q := fun q h => by cases h
theorem fa_cons {α : Type} {Q : α → Prop} {a : α} {l : List α} (h : Q a) (t : ∀ q ∈ l, Q q) : ∀ q ∈ a :: l, Q q := fun q hq => by
  rcases List.mem_cons.mp hq with rfl | hq
  · exact h
  · exact t q hq
theorem V.tswG {dflt lo hi : Int} {offs : Array Int} {len : Nat} {x : Int32} (ts : List (Int32 × Nat)) (td : Nat) (hdg : decode Y.2.1 pc = .ok (.tableswitch dflt lo hi offs, len)) (htd : (pc : Int) + dflt = (td : Int)) (hok : tsOk pc lo hi offs td ts = true)
    (kin : ∀ q ∈ ts, x = q.1 → V Y Z ca sl h q.2 L rest P) (kout : (∀ q ∈ ts, ¬ x = q.1) → V Y Z ca sl h td L rest P) : V Y Z ca sl h pc L (.int x :: rest) P := by
  intro p l e s m args below meth c G aC A H locs ls hF hK hRO hA hn hR hz hS hL
  unfold tsOk at hok
  simp only [Bool.and_eq_true, decide_eq_true_eq, List.all_eq_true, List.mem_range] at hok
  obtain ⟨⟨h1, h2⟩, h3⟩ := hok
  have hin : ∀ q ∈ ts, lo ≤ q.1.toInt ∧ q.1.toInt ≤ hi := fun q hq => by
    obtain ⟨a1, a2⟩ := h2 q hq
    refine ⟨a1, ?_⟩
    cases ho : offs[(q.1.toInt - lo).toNat]? with
    | none => rw [ho] at a2; cases a2
    | some off =>
      have := (Array.getElem?_eq_some_iff.mp ho).1
      omega
  rcases Classical.em (x.toInt < lo ∨ hi < x.toInt) with hq | hq
  · exact lv_tableOut hF.1 hF.2.1 hdg hq htd (kout (fun q hq2 hx => by
      have := hin q hq2
      rw [hx] at hq
      omega) p l e s m args below meth c G aC A H locs ls hF hK hRO hA hn hR hz hS hL)
  · have q1 : ¬ x.toInt < lo := fun z => hq (Or.inl z)
    have q2 : ¬ hi < x.toInt := fun z => hq (Or.inr z)
    have hj : (x.toInt - lo).toNat < offs.size := by omega
    have ho : offs[(x.toInt - lo).toNat]? = some offs[(x.toInt - lo).toNat] := Array.getElem?_eq_getElem hj
    rcases Classical.em (∃ q ∈ ts, x = q.1) with ⟨q, hq3, hx⟩ | hx
    · have b := (h2 q hq3).2
      rw [← hx, ho] at b
      simp only [decide_eq_true_eq] at b
      exact lv_tableIn hF.1 hF.2.1 hdg q1 q2 ho b (kin q hq3 hx p l e s m args below meth c G aC A H locs ls hF hK hRO hA hn hR hz hS hL)
    · have a := h3 _ hj
      rw [ho] at a
      simp only [Bool.or_eq_true, decide_eq_true_eq, List.any_eq_true] at a
      rcases a with a | ⟨q, hq3, a⟩
      · exact lv_tableIn hF.1 hF.2.1 hdg q1 q2 ho a (kout (fun q hq3 hx2 => hx ⟨q, hq3, hx2⟩) p l e s m args below meth c G aC A H locs ls hF hK hRO hA hn hR hz hS hL)
      · exact absurd ⟨q, hq3, Int32.toInt_inj.mp (by omega)⟩ hx
end Rows2
section Calls2
variable {Y Yc : Yd} {d mc ms n0 ca sl mc' ms' : Nat} {κ : Kd} {h : Hp} {pc : Nat} {L : List (Option Value)} {rest : List Value} {P P1 : Option Value → Hp → Prop} {idx b ci : Nat} {fs : List Value} {T : u_T} {N : Nat} {Lc : List (Option Value)}
theorem V.cV0 (hok : Yok Yc 0) (hlk : Cond.methodLink Y.1.cls idx Yc.1 ∈ BG) (hin : Cond.instanceMethod Yc.1 ∈ BG) (hse : Cond.selects Yc.1.cls Yc.1 Yc.1 ∈ BG) (hdg : decode Y.2.1 pc = .ok (.invokevirtual idx, 3)) (hc : vwCl[ci]? = some (Yc.1.cls, T, N)) (hb : h b = some (.inr (ci, fs))) (hrm : (rest.map fun v => v.category).sum ≤ 8) (hd : 1 ≤ d) (hm : ca + mc' ≤ mc ∧ sl + ms' ≤ ms) (hLc : padL Yc.2.2.1 (entA (.ref b :: [])) = Lc) (hle : (lg_sl (.ref b :: [])).length ≤ Yc.2.2.1)
    (hV : V Yc (d - 1, mc', ms', n0 + ca, κ) 0 0 h 0 Lc [] P1) (kk : ∀ (v : Option Value) (h' : Hp), P1 v h' → V Y (d, mc, ms, n0, κ) (ca + mc') (sl + ms') h' (pc + 3) L (v.toList ++ rest) P) : V Y (d, mc, ms, n0, κ) ca sl h pc L (.ref b :: rest) P :=
  V.callV (As := []) (d' := d - 1) hok hlk hin hse hdg hc hb rfl rfl hrm (by omega) hm hLc hle hV kk
theorem V.cS0 (hok : Yok Yc 0) (hlk : Cond.methodLink Y.1.cls idx Yc.1 ∈ BG) (hin : Cond.static Yc.1 ∈ BG) (hdg : decode Y.2.1 pc = .ok (.invokestatic idx, 3)) (hrm : (rest.map fun v => v.category).sum ≤ 8) (hd : 1 ≤ d) (hm : ca + mc' ≤ mc ∧ sl + ms' ≤ ms) (hLc : padL Yc.2.2.1 (entA []) = Lc) (hle : (lg_sl []).length ≤ Yc.2.2.1)
    (hV : V Yc (d - 1, mc', ms', n0 + ca, κ) 0 0 h 0 Lc [] P1) (kk : ∀ (v : Option Value) (h' : Hp), P1 v h' → V Y (d, mc, ms, n0, κ) (ca + mc') (sl + ms') h' (pc + 3) L (v.toList ++ rest) P) : V Y (d, mc, ms, n0, κ) ca sl h pc L (rest) P :=
  V.callS (As := []) (d' := d - 1) hok hlk hin hdg rfl rfl hrm (by omega) hm hLc hle hV kk
theorem V.cI0 (hok : Yok Yc 0) (hnm : Yc.1.name = "<init>") (hret : Yc.2.2.2 = none) (hlk : Cond.methodLink Y.1.cls idx Yc.1 ∈ BG) (hin : Cond.instanceMethod Yc.1 ∈ BG) (hdg : decode Y.2.1 pc = .ok (.invokespecial idx, 3)) (hrm : (rest.map fun v => v.category).sum ≤ 8) (hd : 1 ≤ d) (hm : ca + mc' ≤ mc ∧ sl + ms' ≤ ms) (hLc : padL Yc.2.2.1 (entA (.ref b :: [])) = Lc) (hle : (lg_sl (.ref b :: [])).length ≤ Yc.2.2.1)
    (hV : V Yc (d - 1, mc', ms', n0 + ca, κ) 0 0 h 0 Lc [] P1) (kk : ∀ (v : Option Value) (h' : Hp), P1 v h' → V Y (d, mc, ms, n0, κ) (ca + mc') (sl + ms') h' (pc + 3) L (v.toList ++ rest) P) : V Y (d, mc, ms, n0, κ) ca sl h pc L (.ref b :: rest) P :=
  V.callI (As := []) (d' := d - 1) hok hnm hret hlk hin hdg rfl rfl hrm (by omega) hm hLc hle hV kk
theorem V.cIN0 {host : String} (hok : Yok Yc 0) (hnm : Yc.1.name = "<init>") (hret : Yc.2.2.2 = none) (hlk : Cond.methodLinkNest Y.1.cls idx Yc.1 host ∈ NW) (hin : Cond.instanceMethod Yc.1 ∈ BG) (hdg : decode Y.2.1 pc = .ok (.invokespecial idx, 3)) (hrm : (rest.map fun v => v.category).sum ≤ 8) (hd : 1 ≤ d) (hm : ca + mc' ≤ mc ∧ sl + ms' ≤ ms) (hLc : padL Yc.2.2.1 (entA (.ref b :: [])) = Lc) (hle : (lg_sl (.ref b :: [])).length ≤ Yc.2.2.1)
    (hV : V Yc (d - 1, mc', ms', n0 + ca, κ) 0 0 h 0 Lc [] P1) (kk : ∀ (v : Option Value) (h' : Hp), P1 v h' → V Y (d, mc, ms, n0, κ) (ca + mc') (sl + ms') h' (pc + 3) L (v.toList ++ rest) P) : V Y (d, mc, ms, n0, κ) ca sl h pc L (.ref b :: rest) P :=
  V.callIN (As := []) (d' := d - 1) hok hnm hret hlk hin hdg rfl rfl hrm (by omega) hm hLc hle hV kk
theorem V.cV1 {x1 : Value} (hok : Yok Yc 1) (hlk : Cond.methodLink Y.1.cls idx Yc.1 ∈ BG) (hin : Cond.instanceMethod Yc.1 ∈ BG) (hse : Cond.selects Yc.1.cls Yc.1 Yc.1 ∈ BG) (hdg : decode Y.2.1 pc = .ok (.invokevirtual idx, 3)) (hc : vwCl[ci]? = some (Yc.1.cls, T, N)) (hb : h b = some (.inr (ci, fs))) (hrm : (rest.map fun v => v.category).sum ≤ 8) (hd : 1 ≤ d) (hm : ca + mc' ≤ mc ∧ sl + ms' ≤ ms) (hLc : padL Yc.2.2.1 (entA (.ref b :: [x1])) = Lc) (hle : (lg_sl (.ref b :: [x1])).length ≤ Yc.2.2.1)
    (hV : V Yc (d - 1, mc', ms', n0 + ca, κ) 0 0 h 0 Lc [] P1) (kk : ∀ (v : Option Value) (h' : Hp), P1 v h' → V Y (d, mc, ms, n0, κ) (ca + mc') (sl + ms') h' (pc + 3) L (v.toList ++ rest) P) : V Y (d, mc, ms, n0, κ) ca sl h pc L (x1 :: .ref b :: rest) P :=
  V.callV (As := [x1]) (d' := d - 1) hok hlk hin hse hdg hc hb rfl rfl hrm (by omega) hm hLc hle hV kk
theorem V.cS1 {x1 : Value} (hok : Yok Yc 1) (hlk : Cond.methodLink Y.1.cls idx Yc.1 ∈ BG) (hin : Cond.static Yc.1 ∈ BG) (hdg : decode Y.2.1 pc = .ok (.invokestatic idx, 3)) (hrm : (rest.map fun v => v.category).sum ≤ 8) (hd : 1 ≤ d) (hm : ca + mc' ≤ mc ∧ sl + ms' ≤ ms) (hLc : padL Yc.2.2.1 (entA [x1]) = Lc) (hle : (lg_sl [x1]).length ≤ Yc.2.2.1)
    (hV : V Yc (d - 1, mc', ms', n0 + ca, κ) 0 0 h 0 Lc [] P1) (kk : ∀ (v : Option Value) (h' : Hp), P1 v h' → V Y (d, mc, ms, n0, κ) (ca + mc') (sl + ms') h' (pc + 3) L (v.toList ++ rest) P) : V Y (d, mc, ms, n0, κ) ca sl h pc L (x1 :: rest) P :=
  V.callS (As := [x1]) (d' := d - 1) hok hlk hin hdg rfl rfl hrm (by omega) hm hLc hle hV kk
theorem V.cI1 {x1 : Value} (hok : Yok Yc 1) (hnm : Yc.1.name = "<init>") (hret : Yc.2.2.2 = none) (hlk : Cond.methodLink Y.1.cls idx Yc.1 ∈ BG) (hin : Cond.instanceMethod Yc.1 ∈ BG) (hdg : decode Y.2.1 pc = .ok (.invokespecial idx, 3)) (hrm : (rest.map fun v => v.category).sum ≤ 8) (hd : 1 ≤ d) (hm : ca + mc' ≤ mc ∧ sl + ms' ≤ ms) (hLc : padL Yc.2.2.1 (entA (.ref b :: [x1])) = Lc) (hle : (lg_sl (.ref b :: [x1])).length ≤ Yc.2.2.1)
    (hV : V Yc (d - 1, mc', ms', n0 + ca, κ) 0 0 h 0 Lc [] P1) (kk : ∀ (v : Option Value) (h' : Hp), P1 v h' → V Y (d, mc, ms, n0, κ) (ca + mc') (sl + ms') h' (pc + 3) L (v.toList ++ rest) P) : V Y (d, mc, ms, n0, κ) ca sl h pc L (x1 :: .ref b :: rest) P :=
  V.callI (As := [x1]) (d' := d - 1) hok hnm hret hlk hin hdg rfl rfl hrm (by omega) hm hLc hle hV kk
theorem V.cV2 {x1 x2 : Value} (hok : Yok Yc 2) (hlk : Cond.methodLink Y.1.cls idx Yc.1 ∈ BG) (hin : Cond.instanceMethod Yc.1 ∈ BG) (hse : Cond.selects Yc.1.cls Yc.1 Yc.1 ∈ BG) (hdg : decode Y.2.1 pc = .ok (.invokevirtual idx, 3)) (hc : vwCl[ci]? = some (Yc.1.cls, T, N)) (hb : h b = some (.inr (ci, fs))) (hrm : (rest.map fun v => v.category).sum ≤ 8) (hd : 1 ≤ d) (hm : ca + mc' ≤ mc ∧ sl + ms' ≤ ms) (hLc : padL Yc.2.2.1 (entA (.ref b :: [x1, x2])) = Lc) (hle : (lg_sl (.ref b :: [x1, x2])).length ≤ Yc.2.2.1)
    (hV : V Yc (d - 1, mc', ms', n0 + ca, κ) 0 0 h 0 Lc [] P1) (kk : ∀ (v : Option Value) (h' : Hp), P1 v h' → V Y (d, mc, ms, n0, κ) (ca + mc') (sl + ms') h' (pc + 3) L (v.toList ++ rest) P) : V Y (d, mc, ms, n0, κ) ca sl h pc L (x2 :: x1 :: .ref b :: rest) P :=
  V.callV (As := [x1, x2]) (d' := d - 1) hok hlk hin hse hdg hc hb rfl rfl hrm (by omega) hm hLc hle hV kk
theorem V.cS2 {x1 x2 : Value} (hok : Yok Yc 2) (hlk : Cond.methodLink Y.1.cls idx Yc.1 ∈ BG) (hin : Cond.static Yc.1 ∈ BG) (hdg : decode Y.2.1 pc = .ok (.invokestatic idx, 3)) (hrm : (rest.map fun v => v.category).sum ≤ 8) (hd : 1 ≤ d) (hm : ca + mc' ≤ mc ∧ sl + ms' ≤ ms) (hLc : padL Yc.2.2.1 (entA [x1, x2]) = Lc) (hle : (lg_sl [x1, x2]).length ≤ Yc.2.2.1)
    (hV : V Yc (d - 1, mc', ms', n0 + ca, κ) 0 0 h 0 Lc [] P1) (kk : ∀ (v : Option Value) (h' : Hp), P1 v h' → V Y (d, mc, ms, n0, κ) (ca + mc') (sl + ms') h' (pc + 3) L (v.toList ++ rest) P) : V Y (d, mc, ms, n0, κ) ca sl h pc L (x2 :: x1 :: rest) P :=
  V.callS (As := [x1, x2]) (d' := d - 1) hok hlk hin hdg rfl rfl hrm (by omega) hm hLc hle hV kk
theorem V.cSN2 {x1 x2 : Value} {host : String} (hok : Yok Yc 2) (hlk : Cond.methodLinkNest Y.1.cls idx Yc.1 host ∈ NW) (hin : Cond.static Yc.1 ∈ BG) (hdg : decode Y.2.1 pc = .ok (.invokestatic idx, 3)) (hrm : (rest.map fun v => v.category).sum ≤ 8) (hd : 1 ≤ d) (hm : ca + mc' ≤ mc ∧ sl + ms' ≤ ms) (hLc : padL Yc.2.2.1 (entA [x1, x2]) = Lc) (hle : (lg_sl [x1, x2]).length ≤ Yc.2.2.1)
    (hV : V Yc (d - 1, mc', ms', n0 + ca, κ) 0 0 h 0 Lc [] P1) (kk : ∀ (v : Option Value) (h' : Hp), P1 v h' → V Y (d, mc, ms, n0, κ) (ca + mc') (sl + ms') h' (pc + 3) L (v.toList ++ rest) P) : V Y (d, mc, ms, n0, κ) ca sl h pc L (x2 :: x1 :: rest) P :=
  V.callSN (As := [x1, x2]) (d' := d - 1) hok hlk hin hdg rfl rfl hrm (by omega) hm hLc hle hV kk
theorem V.cV3 {x1 x2 x3 : Value} (hok : Yok Yc 3) (hlk : Cond.methodLink Y.1.cls idx Yc.1 ∈ BG) (hin : Cond.instanceMethod Yc.1 ∈ BG) (hse : Cond.selects Yc.1.cls Yc.1 Yc.1 ∈ BG) (hdg : decode Y.2.1 pc = .ok (.invokevirtual idx, 3)) (hc : vwCl[ci]? = some (Yc.1.cls, T, N)) (hb : h b = some (.inr (ci, fs))) (hrm : (rest.map fun v => v.category).sum ≤ 8) (hd : 1 ≤ d) (hm : ca + mc' ≤ mc ∧ sl + ms' ≤ ms) (hLc : padL Yc.2.2.1 (entA (.ref b :: [x1, x2, x3])) = Lc) (hle : (lg_sl (.ref b :: [x1, x2, x3])).length ≤ Yc.2.2.1)
    (hV : V Yc (d - 1, mc', ms', n0 + ca, κ) 0 0 h 0 Lc [] P1) (kk : ∀ (v : Option Value) (h' : Hp), P1 v h' → V Y (d, mc, ms, n0, κ) (ca + mc') (sl + ms') h' (pc + 3) L (v.toList ++ rest) P) : V Y (d, mc, ms, n0, κ) ca sl h pc L (x3 :: x2 :: x1 :: .ref b :: rest) P :=
  V.callV (As := [x1, x2, x3]) (d' := d - 1) hok hlk hin hse hdg hc hb rfl rfl hrm (by omega) hm hLc hle hV kk
theorem V.cS3 {x1 x2 x3 : Value} (hok : Yok Yc 3) (hlk : Cond.methodLink Y.1.cls idx Yc.1 ∈ BG) (hin : Cond.static Yc.1 ∈ BG) (hdg : decode Y.2.1 pc = .ok (.invokestatic idx, 3)) (hrm : (rest.map fun v => v.category).sum ≤ 8) (hd : 1 ≤ d) (hm : ca + mc' ≤ mc ∧ sl + ms' ≤ ms) (hLc : padL Yc.2.2.1 (entA [x1, x2, x3]) = Lc) (hle : (lg_sl [x1, x2, x3]).length ≤ Yc.2.2.1)
    (hV : V Yc (d - 1, mc', ms', n0 + ca, κ) 0 0 h 0 Lc [] P1) (kk : ∀ (v : Option Value) (h' : Hp), P1 v h' → V Y (d, mc, ms, n0, κ) (ca + mc') (sl + ms') h' (pc + 3) L (v.toList ++ rest) P) : V Y (d, mc, ms, n0, κ) ca sl h pc L (x3 :: x2 :: x1 :: rest) P :=
  V.callS (As := [x1, x2, x3]) (d' := d - 1) hok hlk hin hdg rfl rfl hrm (by omega) hm hLc hle hV kk
theorem V.cV4 {x1 x2 x3 x4 : Value} (hok : Yok Yc 4) (hlk : Cond.methodLink Y.1.cls idx Yc.1 ∈ BG) (hin : Cond.instanceMethod Yc.1 ∈ BG) (hse : Cond.selects Yc.1.cls Yc.1 Yc.1 ∈ BG) (hdg : decode Y.2.1 pc = .ok (.invokevirtual idx, 3)) (hc : vwCl[ci]? = some (Yc.1.cls, T, N)) (hb : h b = some (.inr (ci, fs))) (hrm : (rest.map fun v => v.category).sum ≤ 8) (hd : 1 ≤ d) (hm : ca + mc' ≤ mc ∧ sl + ms' ≤ ms) (hLc : padL Yc.2.2.1 (entA (.ref b :: [x1, x2, x3, x4])) = Lc) (hle : (lg_sl (.ref b :: [x1, x2, x3, x4])).length ≤ Yc.2.2.1)
    (hV : V Yc (d - 1, mc', ms', n0 + ca, κ) 0 0 h 0 Lc [] P1) (kk : ∀ (v : Option Value) (h' : Hp), P1 v h' → V Y (d, mc, ms, n0, κ) (ca + mc') (sl + ms') h' (pc + 3) L (v.toList ++ rest) P) : V Y (d, mc, ms, n0, κ) ca sl h pc L (x4 :: x3 :: x2 :: x1 :: .ref b :: rest) P :=
  V.callV (As := [x1, x2, x3, x4]) (d' := d - 1) hok hlk hin hse hdg hc hb rfl rfl hrm (by omega) hm hLc hle hV kk
theorem V.cS4 {x1 x2 x3 x4 : Value} (hok : Yok Yc 4) (hlk : Cond.methodLink Y.1.cls idx Yc.1 ∈ BG) (hin : Cond.static Yc.1 ∈ BG) (hdg : decode Y.2.1 pc = .ok (.invokestatic idx, 3)) (hrm : (rest.map fun v => v.category).sum ≤ 8) (hd : 1 ≤ d) (hm : ca + mc' ≤ mc ∧ sl + ms' ≤ ms) (hLc : padL Yc.2.2.1 (entA [x1, x2, x3, x4]) = Lc) (hle : (lg_sl [x1, x2, x3, x4]).length ≤ Yc.2.2.1)
    (hV : V Yc (d - 1, mc', ms', n0 + ca, κ) 0 0 h 0 Lc [] P1) (kk : ∀ (v : Option Value) (h' : Hp), P1 v h' → V Y (d, mc, ms, n0, κ) (ca + mc') (sl + ms') h' (pc + 3) L (v.toList ++ rest) P) : V Y (d, mc, ms, n0, κ) ca sl h pc L (x4 :: x3 :: x2 :: x1 :: rest) P :=
  V.callS (As := [x1, x2, x3, x4]) (d' := d - 1) hok hlk hin hdg rfl rfl hrm (by omega) hm hLc hle hV kk
theorem V.cV5 {x1 x2 x3 x4 x5 : Value} (hok : Yok Yc 5) (hlk : Cond.methodLink Y.1.cls idx Yc.1 ∈ BG) (hin : Cond.instanceMethod Yc.1 ∈ BG) (hse : Cond.selects Yc.1.cls Yc.1 Yc.1 ∈ BG) (hdg : decode Y.2.1 pc = .ok (.invokevirtual idx, 3)) (hc : vwCl[ci]? = some (Yc.1.cls, T, N)) (hb : h b = some (.inr (ci, fs))) (hrm : (rest.map fun v => v.category).sum ≤ 8) (hd : 1 ≤ d) (hm : ca + mc' ≤ mc ∧ sl + ms' ≤ ms) (hLc : padL Yc.2.2.1 (entA (.ref b :: [x1, x2, x3, x4, x5])) = Lc) (hle : (lg_sl (.ref b :: [x1, x2, x3, x4, x5])).length ≤ Yc.2.2.1)
    (hV : V Yc (d - 1, mc', ms', n0 + ca, κ) 0 0 h 0 Lc [] P1) (kk : ∀ (v : Option Value) (h' : Hp), P1 v h' → V Y (d, mc, ms, n0, κ) (ca + mc') (sl + ms') h' (pc + 3) L (v.toList ++ rest) P) : V Y (d, mc, ms, n0, κ) ca sl h pc L (x5 :: x4 :: x3 :: x2 :: x1 :: .ref b :: rest) P :=
  V.callV (As := [x1, x2, x3, x4, x5]) (d' := d - 1) hok hlk hin hse hdg hc hb rfl rfl hrm (by omega) hm hLc hle hV kk
theorem V.cS5 {x1 x2 x3 x4 x5 : Value} (hok : Yok Yc 5) (hlk : Cond.methodLink Y.1.cls idx Yc.1 ∈ BG) (hin : Cond.static Yc.1 ∈ BG) (hdg : decode Y.2.1 pc = .ok (.invokestatic idx, 3)) (hrm : (rest.map fun v => v.category).sum ≤ 8) (hd : 1 ≤ d) (hm : ca + mc' ≤ mc ∧ sl + ms' ≤ ms) (hLc : padL Yc.2.2.1 (entA [x1, x2, x3, x4, x5]) = Lc) (hle : (lg_sl [x1, x2, x3, x4, x5]).length ≤ Yc.2.2.1)
    (hV : V Yc (d - 1, mc', ms', n0 + ca, κ) 0 0 h 0 Lc [] P1) (kk : ∀ (v : Option Value) (h' : Hp), P1 v h' → V Y (d, mc, ms, n0, κ) (ca + mc') (sl + ms') h' (pc + 3) L (v.toList ++ rest) P) : V Y (d, mc, ms, n0, κ) ca sl h pc L (x5 :: x4 :: x3 :: x2 :: x1 :: rest) P :=
  V.callS (As := [x1, x2, x3, x4, x5]) (d' := d - 1) hok hlk hin hdg rfl rfl hrm (by omega) hm hLc hle hV kk
theorem V.cV6 {x1 x2 x3 x4 x5 x6 : Value} (hok : Yok Yc 6) (hlk : Cond.methodLink Y.1.cls idx Yc.1 ∈ BG) (hin : Cond.instanceMethod Yc.1 ∈ BG) (hse : Cond.selects Yc.1.cls Yc.1 Yc.1 ∈ BG) (hdg : decode Y.2.1 pc = .ok (.invokevirtual idx, 3)) (hc : vwCl[ci]? = some (Yc.1.cls, T, N)) (hb : h b = some (.inr (ci, fs))) (hrm : (rest.map fun v => v.category).sum ≤ 8) (hd : 1 ≤ d) (hm : ca + mc' ≤ mc ∧ sl + ms' ≤ ms) (hLc : padL Yc.2.2.1 (entA (.ref b :: [x1, x2, x3, x4, x5, x6])) = Lc) (hle : (lg_sl (.ref b :: [x1, x2, x3, x4, x5, x6])).length ≤ Yc.2.2.1)
    (hV : V Yc (d - 1, mc', ms', n0 + ca, κ) 0 0 h 0 Lc [] P1) (kk : ∀ (v : Option Value) (h' : Hp), P1 v h' → V Y (d, mc, ms, n0, κ) (ca + mc') (sl + ms') h' (pc + 3) L (v.toList ++ rest) P) : V Y (d, mc, ms, n0, κ) ca sl h pc L (x6 :: x5 :: x4 :: x3 :: x2 :: x1 :: .ref b :: rest) P :=
  V.callV (As := [x1, x2, x3, x4, x5, x6]) (d' := d - 1) hok hlk hin hse hdg hc hb rfl rfl hrm (by omega) hm hLc hle hV kk
theorem V.cS6 {x1 x2 x3 x4 x5 x6 : Value} (hok : Yok Yc 6) (hlk : Cond.methodLink Y.1.cls idx Yc.1 ∈ BG) (hin : Cond.static Yc.1 ∈ BG) (hdg : decode Y.2.1 pc = .ok (.invokestatic idx, 3)) (hrm : (rest.map fun v => v.category).sum ≤ 8) (hd : 1 ≤ d) (hm : ca + mc' ≤ mc ∧ sl + ms' ≤ ms) (hLc : padL Yc.2.2.1 (entA [x1, x2, x3, x4, x5, x6]) = Lc) (hle : (lg_sl [x1, x2, x3, x4, x5, x6]).length ≤ Yc.2.2.1)
    (hV : V Yc (d - 1, mc', ms', n0 + ca, κ) 0 0 h 0 Lc [] P1) (kk : ∀ (v : Option Value) (h' : Hp), P1 v h' → V Y (d, mc, ms, n0, κ) (ca + mc') (sl + ms') h' (pc + 3) L (v.toList ++ rest) P) : V Y (d, mc, ms, n0, κ) ca sl h pc L (x6 :: x5 :: x4 :: x3 :: x2 :: x1 :: rest) P :=
  V.callS (As := [x1, x2, x3, x4, x5, x6]) (d' := d - 1) hok hlk hin hdg rfl rfl hrm (by omega) hm hLc hle hV kk
end Calls2
