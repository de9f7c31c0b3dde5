/-! THE MAN, 5: the law's own man, whole; its contract -/
def manP (N : Nat) (S : FS) (s2 : St) (x y : Int32) : Int32 → Hp → Prop := fun r h' => r = aManC S.2.1.1 x y ∧ ∃ f' : Nat → Int64, PL N S s2 f' h' ∧ (aManC S.2.1.1 x y = 0 → f' 0 = (aManV S.2.1.1 S.2.2.1.1 (nat x) y).toInt64)
theorem aManC_v (T : Tx) (x y : Int32) : aManC T x y = 0 ∨ aManC T x y = 1 ∨ aManC T x y = 2 := by
  unfold aManC
  repeat' split
  all_goals simp
theorem PL.J {N : Nat} {S : FS} {s2 : St} {f f' : Nat → Int64} {h h' : Hp} (H : PL N S s2 f h) (e : h' (N + 165) = some (.inl (1, 1, .inr (.inl f')))) (o : ∀ b : Nat, b ≠ N + 165 → h' b = h b) : PL N S s2 f' h' :=
  ⟨H.1.kept (fun b b1 b2 => o b (by omega)), H.2.1.kept C12_ok (fun b b1 b2 => o b (by have b3 : b < N + 124 + 41 := b2; omega)), e⟩
section LMan2
variable {d N0 N : Nat} {κ : Kd} {s : St} {T T2 : Tx} {c g th u F k pa tu rd tk s2 : St} {f : Nat → Int64} {x y : Int32} {h : Hp}
theorem lman_X (hd : 20 ≤ d) (hw : wfT T) (hp : c.1 0 = T.1.1 0) (H : PL N (mkF s T T2 c g th u F k pa tu rd tk) s2 f h) :
    VX ML (rmO d 1 6) N0 κ lmT (finL (manP N (mkF s T T2 c g th u F k pa tu rd tk) s2 x y)) 0 0 0 h 0 [some (.ref N), some (.int x), some (.int y), some (.ref (N + 165)), none] [] := by
  have HI : IB N h (mkF s T T2 c g th u F k pa tu rd tk) h := ⟨H.1, fun _ _ => rfl⟩
  refine VX.aload_n dL_man_0 rfl ?_
  refine VX.iconst dL_man_1 rfl ?_
  refine VX.aload_n dL_man_2 rfl ?_
  refine VX.iload_n dL_man_3 rfl ?_
  refine VX.iload_n dL_man_4 rfl ?_
  rcases aManC_v T x y with hc | hc | hc
  · refine VX.callV (As := [.int x, .int y]) (d' := 10) (ci := 11) yoX11_man ml_L_7 im_X11_man se_X11_man dL_man_5 rfl H.1.1.1 rfl rfl (Nat.le_of_ble_eq_true rfl) (by omega) ⟨by omega, by omega⟩ rfl (Nat.le_of_ble_eq_true rfl) (manV_F (by omega) hw hp hc h HI) ?_
    rintro v h' ⟨S', ⟨rfl, rfl⟩, H'⟩
    have H1 := H.B H'
    refine VX.i2l dL_man_8 ?_
    refine VX.lastH rfl dL_man_9 H1.2.2 (show (0 : Int32) = nI 0 from rfl) (by decide) (by decide) (fun h'' e o => ?_)
    refine VX.goto 21 dL_man_10 rfl ?_
    refine VX.iconst dL_man_21 rfl ?_
    refine VX.iret dL_man_22 rfl ⟨by omega, by omega⟩ ⟨hc.symm, _, H1.J e o, fun _ => ?_⟩
    simp [vp_updL]
  · refine lm_throw (d' := 10) (E := eI) (P1 := IB N h (mkF s T T2 c g th u F k pa tu rd tk)) (by omega) H.1.1.1 (Nat.le_of_ble_eq_true rfl) (manI_X (by omega) HI hc) [] ⟨0, 10, 13, 13⟩ [⟨0, 10, 17, 15⟩] rfl (fun _ h => nomatch h) (by decide) (by decide) exI_c (by unfold NX; simp) (fun gr' h' q H' => ?_)
    refine VX.astore dL_man_13 (by decide) rfl ?_
    refine VX.iconst dL_man_15 rfl ?_
    exact VX.iret dL_man_16 rfl ⟨by omega, by omega⟩ ⟨hc.symm, f, H.B H', fun z => absurd (hc.symm.trans z) (by decide)⟩
  · refine lm_throw (d' := 10) (E := eN) (P1 := IB N h (mkF s T T2 c g th u F k pa tu rd tk)) (by omega) H.1.1.1 (Nat.le_of_ble_eq_true rfl) (manN_X (by omega) hw HI hc) [⟨0, 10, 13, 13⟩] ⟨0, 10, 17, 15⟩ [] rfl (fun zt hz => ?_) (by decide) (by decide) exN_c (by unfold NX; simp) (fun gr' h' q H' => ?_)
    · rw [List.mem_singleton] at hz
      subst hz
      exact Or.inr ⟨by decide, eI, exI_c, fun A s H hX => hX.2.1⟩
    · refine VX.astore dL_man_17 (by decide) rfl ?_
      refine VX.iconst dL_man_19 rfl ?_
      exact VX.iret dL_man_20 rfl ⟨by omega, by omega⟩ ⟨hc.symm, f, H.B H', fun z => absurd (hc.symm.trans z) (by decide)⟩
end LMan2
def wsL : List Cond := Cond.codeWith yL_man cL_man 5 (some .int) lmH :: BG
theorem lm_code : Cond.codeWith yL_man cL_man 5 (some .int) lmH ∈ BG := bg_of 1143 (by decide +kernel)
theorem wsL_good : GoodIn BG wsL := fun w h => by
  rcases List.mem_cons.mp h with rfl | h
  · exact bg_good [] _ lm_code
  · exact bg_good [] _ h
theorem lm_met {d N0 : Nat} {κ : Kd} {h : Hp} {P : Int32 → Hp → Prop} {As : List Value} (hn : (lg_sl As).length ≤ 5) {l : Launch} (hl : l.stackTraces = false) {G : va_G} {aC : Nat → ClassId} {ws : va_W} (hC : Cov aC h ws) (hV : VX ML (rmO d 1 6) N0 κ lmT (finL P) 0 0 0 h 0 (padL 5 (entA As)) []) :
    vx_Met l yL_man wsL (rmO d 1 6) (PcX κ aC G ws N0 As) (va_Qi P (fun h' t => Rp G aC (va_A ws N0) h' t.heap) (va_A ws N0)) (vx_X (S := Unit) (fun _ => False) (fun _ _ _ => True) (va_A ws N0)) 1 6 (va_A ws N0) := by
  refine vx_ofWH (cc := cL_man) (maxL := 5) (ret := some .int) (hh := lmH) (by decide +kernel) rfl ?_
  intro p e s m args below meth c s₁ B hml hv
  obtain ⟨rfl, hsz, hP, hK, hD0, hRO, hNW, hXK⟩ := hv
  have hts := atoms_spec (ws := wsL) B.pre
  have hown : s.vm.findClass yL_man.cls = some m.cls := findClass_of_methodNamed B.named
  have hin : meth.name = yL_man.name := (name_of_methodNamed B.named B.method).1
  have htab : lmT c := vx_table (x := yL_man) B (hts _ List.mem_cons_self)
  rw [lg_entry_eq]
  exact hV p l e s m As.toArray below meth c G aC (va_A ws N0) s.heap [] _ ⟨B.exec, B.bytes, hml, hown, fun w hw => hts w (List.mem_cons_of_mem _ hw), B.returns, B.notSynchronized, hin, hNW⟩ hl htab hK hRO hXK (fun q hq => Or.inr (by omega)) hsz
    ⟨ws, hP, hD0.self, hC⟩ hsz va_S.rf (Lh.entry hn)
