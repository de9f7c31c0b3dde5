/-! THE MAN, 3: the class's man where it throws -/
section ManX
variable {d N0 z : Nat} {κ : Kd} {h0 : Hp} {s : St} {T T2 : Tx} {c g th u F k pa tu rd tk : St} {x y : Int32}
theorem ro_I : ∀ (s : State) (A : Nat → Prop), RO κ A s s.heap → ∃ sa, vk_R "BurntEnds" 126 "no such person" sa s := fun s A h => by
  obtain ⟨-, -, adK, adV, -, h5, -⟩ := h
  exact ⟨_, h5⟩
theorem ro_N : ∀ (s : State) (A : Nat → Prop), RO κ A s s.heap → ∃ sa, vk_R "BurntEnds" 158 "no such what" sa s := fun s A h => by
  obtain ⟨-, -, adK, adV, -, -, h6, -⟩ := h
  exact ⟨_, h6⟩
theorem manI_X (hd : 6 ≤ d) {h : Hp} (H : IB z h0 (mkF s T T2 c g th u F k pa tu rd tk) h) (hc : aManC T x y = 1) : VX MX11_man (rmO d 1 6) N0 κ noTB (finM eI (IB z h0 (mkF s T T2 c g th u F k pa tu rd tk))) 0 0 0 h 0 [some (.ref z), some (.int x), some (.int y), none] [] := by
  have hman : isManB (T.1.1 0) x = false := by
    cases q : isManB (T.1.1 0) x with
    | false => rfl
    | true =>
      unfold aManC at hc
      rw [if_pos q] at hc
      revert hc
      repeat' split
      all_goals intro hc; exact absurd hc (by decide)
  refine VX.aload_n dX11_man_0 rfl ?_
  refine VX.iload_n dX11_man_1 rfl ?_
  refine VX.callV (As := [.int x]) (d' := d - 1) (ci := 11) yoX11_isPerson ml_X11_120 im_X11_isPerson se_X11_isPerson dX11_man_2 rfl H.aown.1 rfl rfl (Nat.le_of_ble_eq_true rfl) (by omega) ⟨by omega, by omega⟩ rfl (Nat.le_of_ble_eq_true rfl) (isPerson_F (by omega) h H) ?_
  rintro v h' ⟨S', ⟨rfl, rfl⟩, H'⟩
  rw [hman]
  refine VX.if_ne 18 dX11_man_5 rfl (fun q => absurd rfl q) (fun _ => ?_)
  exact VX.throw hd rfl (by decide +kernel) (by decide +kernel) (by decide +kernel) (by decide +kernel) (by decide +kernel) exI_0 exI_1 ro_I exI_good exI_nx exI_ot dX11_man_8 dX11_man_11 dX11_man_12 dX11_man_14 dX11_man_17 H'
theorem manN_X (hd : 6 ≤ d) {h : Hp} (hw : wfT T) (H : IB z h0 (mkF s T T2 c g th u F k pa tu rd tk) h) (hc : aManC T x y = 2) : VX MX11_man (rmO d 1 6) N0 κ noTB (finM eN (IB z h0 (mkF s T T2 c g th u F k pa tu rd tk))) 0 0 0 h 0 [some (.ref z), some (.int x), some (.int y), none] [] := by
  have hman : isManB (T.1.1 0) x = true ∧ (y < 0 ∨ 7 < y) := by
    unfold aManC at hc
    by_cases q : isManB (T.1.1 0) x = true
    · rw [if_pos q] at hc
      refine ⟨q, ?_⟩
      by_cases q1 : y < 0
      · exact Or.inl q1
      · rw [if_neg q1] at hc
        by_cases q2 : 7 < y
        · exact Or.inr q2
        · rw [if_neg q2] at hc
          exact absurd hc (by decide)
    · rw [if_neg q] at hc
      exact absurd hc (by decide)
  obtain ⟨p, rfl, hpn, hp6, hnp⟩ := man_of hw hman.1
  refine VX.aload_n dX11_man_0 rfl ?_
  refine VX.iload_n dX11_man_1 rfl ?_
  refine VX.callV (As := [.int (nI p)]) (d' := d - 1) (ci := 11) yoX11_isPerson ml_X11_120 im_X11_isPerson se_X11_isPerson dX11_man_2 rfl H.aown.1 rfl rfl (Nat.le_of_ble_eq_true rfl) (by omega) ⟨by omega, by omega⟩ rfl (Nat.le_of_ble_eq_true rfl) (isPerson_F (by omega) h H) ?_
  rintro v h' ⟨S', ⟨rfl, rfl⟩, H'⟩
  rw [hman.1]
  refine VX.if_ne 18 dX11_man_5 rfl (fun _ => ?_) (fun q => absurd q (by decide))
  refine VX.aload_n dX11_man_18 rfl ?_
  refine VX.getf okX11 5 fl_X11_35 dX11_man_19 (by decide) H'.aown.1 rfl ?_
  refine VX.iload_n dX11_man_22 rfl ?_
  refine VX.callV (As := [.int (nI p)]) (d' := d - 1) (ci := 0) yoX0_leftOf ml_X11_131 im_X0_leftOf se_X0_leftOf dX11_man_23 rfl H'.ac.1 rfl rfl (Nat.le_of_ble_eq_true rfl) (by omega) ⟨by omega, by omega⟩ rfl (Nat.le_of_ble_eq_true rfl) (leftOf_V (by omega) H'.ac hp6) ?_
  rintro v h'' ⟨rfl, rfl⟩
  refine VX.istore_n dX11_man_26 (by decide) rfl ?_
  refine VX.iload_n dX11_man_27 rfl ?_
  have hout : ∀ n : Nat, n < 8 → y = nI n → False := fun n hn e => by
    rcases hman.2 with q | q
    · rw [e] at q
      exact nI_nlt0 n (by omega) q
    · rw [e] at q
      exact nI_nlt (a := 7) (b := n) (by omega) (by omega) q
  refine VX.tswG [(0, 76), (1, 86), (2, 88), (3, 107), (4, 138), (5, 148), (6, 157), (7, 171)] 181 dX11_man_28 (by decide) (by decide +kernel) (fa_cons (fun e => (hout 0 (by omega) e).elim) (fa_cons (fun e => (hout 1 (by omega) e).elim) (fa_cons (fun e => (hout 2 (by omega) e).elim) (fa_cons (fun e => (hout 3 (by omega) e).elim) (fa_cons (fun e => (hout 4 (by omega) e).elim) (fa_cons (fun e => (hout 5 (by omega) e).elim) (fa_cons (fun e => (hout 6 (by omega) e).elim) (fa_cons (fun e => (hout 7 (by omega) e).elim) fa_nil)))))))) (fun _ => ?_)
  exact VX.throw hd rfl (by decide +kernel) (by decide +kernel) (by decide +kernel) (by decide +kernel) (by decide +kernel) exN_0 exN_1 ro_N exN_good exN_nx exN_ot dX11_man_181 dX11_man_184 dX11_man_185 dX11_man_187 dX11_man_190 H'
end ManX
