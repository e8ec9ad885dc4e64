variable {l : Launch} {E : Ev} {h : Hp}
/-- only the hall at o was written -/
def frH (o : Nat) (h g : Hp) : Prop := ∀ a, a < o ∨ o + 7 < a → g a = h a
def QH (o : Nat) (b : Int32) (h : Hp) (D : HDt) : Pst := fun v g => v = none ∧ g o 0 = b ∧ CHl g o D ∧ frH o h g
theorem CH_open {o u v : Nat} {D : HDt} (q : CHl h o D) (ok : okD (setH D u v)) : CHl (up (up (up h o 0 1) o 1 (nI u)) o 2 (nI v)) o (setH D u v) := by
  obtain ⟨okd, e1, e2, e3, e4, eL, eJ, eB, eF⟩ := id q
  have r : ∀ a, o < a → up (up (up h o 0 1) o 1 (nI u)) o 2 (nI v) a = h a := fun a ha => by rw [up_row _ _ _ _ (by omega), up_row _ _ _ _ (by omega), up_row _ _ _ _ (by omega)]
  refine ⟨ok, ?_, ?_, ?_, ?_, ?_, ?_, ?_, ?_⟩
  · rw [up_off _ _ _ _ (by decide), up_self]; rfl
  · rw [up_self]; rfl
  · rw [up_off _ _ _ _ (by decide), up_off _ _ _ _ (by decide), up_off _ _ _ _ (by decide)]; exact e3
  · rw [up_off _ _ _ _ (by decide), up_off _ _ _ _ (by decide), up_off _ _ _ _ (by decide)]; exact e4
  · rw [r (o + 1) (by omega), r (o + 2) (by omega), r (o + 3) (by omega)]; exact eL
  · rw [r (o + 4) (by omega), r (o + 5) (by omega)]; exact eJ
  · rw [r (o + 6) (by omega)]; exact eB
  · rw [r (o + 7) (by omega)]; exact eF
set_option maxHeartbeats 4000000 in
theorem s0_open {o : Nat} {D : HDt} (hO : isH o) (hH : CHl h o D) {u v : Nat} (ok : okD (setH D u v)) : Sp l E SHP 0 M0_open [.ref (E.1 + o), .int (nI u), .int (nI v)] h (QH o 1 h (setH D u v)) := by
  refine Sp.of (by decide) (Nat.le_of_ble_eq_true rfl) (fun X C F => ?_)
  have C : Ok X E RX0 cX0_open 3 := C
  have F : Fn X l E SHP 0 none (QH o 1 h (setH D u v)) := F
  show G X E SHP (0, 0) 0 [(0, .ref (E.1 + o)), (1, .int (nI u)), (2, .int (nI v))] [] h
  refine r_aload_n C dX0_open_0 rfl ?_
  refine r_iconst (1) C dX0_open_1 rfl ?_
  refine r_putZ C dX0_open_2 fwX0_33 (hO.1) rfl (by first | exact Or.inl rfl | exact Or.inr rfl) ?_
  refine r_aload_n C dX0_open_5 rfl ?_
  refine r_iload_n C dX0_open_6 rfl ?_
  refine r_putI C dX0_open_7 fwX0_37 (hO.1) rfl ?_
  refine r_aload_n C dX0_open_10 rfl ?_
  refine r_iload_n C dX0_open_11 rfl ?_
  refine r_putI C dX0_open_12 fwX0_41 (hO.1) rfl ?_
  refine r_vret C F dX0_open_15 ⟨rfl, ?_, CH_open hH ok, fun a ha => ?_⟩
  · rw [up_off _ _ _ _ (by decide), up_off _ _ _ _ (by decide), up_self]
  · rw [up_row _ _ _ _ (by omega), up_row _ _ _ _ (by omega), up_row _ _ _ _ (by omega)]
set_option maxHeartbeats 4000000 in
theorem s0_empty {o : Nat} (hO : isH o) : Sp l E SHP 0 M0_empty [.ref (E.1 + o)] h (QH o 0 h D0) := by
  refine Sp.of (by decide) (Nat.le_of_ble_eq_true rfl) (fun X C F => ?_)
  have C : Ok X E RX0 cX0_empty 2 := C
  have F : Fn X l E SHP 0 none (QH o 0 h D0) := F
  show G X E SHP (0, 0) 0 [(0, .ref (E.1 + o))] [] h
  refine r_aload_n C dX0_empty_0 rfl ?_
  refine r_iconst (0) C dX0_empty_1 rfl ?_
  refine r_putZ C dX0_empty_2 fwX0_33 (hO.1) rfl (by first | exact Or.inl rfl | exact Or.inr rfl) ?_
  refine r_aload_n C dX0_empty_5 rfl ?_
  refine r_iconst (0) C dX0_empty_6 rfl ?_
  refine r_putI C dX0_empty_7 fwX0_37 (hO.1) rfl ?_
  refine r_aload_n C dX0_empty_10 rfl ?_
  refine r_iconst (0) C dX0_empty_11 rfl ?_
  refine r_putI C dX0_empty_12 fwX0_41 (hO.1) rfl ?_
  refine r_aload_n C dX0_empty_15 rfl ?_
  refine r_iconst (0) C dX0_empty_16 rfl ?_
  refine r_putI C dX0_empty_17 fwX0_44 (hO.1) rfl ?_
  refine r_aload_n C dX0_empty_20 rfl ?_
  refine r_iconst (0) C dX0_empty_21 rfl ?_
  refine r_putI C dX0_empty_22 fwX0_47 (hO.1) rfl ?_
  have fa : ∀ a, a ≠ o → (up (up (up (up (up h o 0 0) o 1 0) o 2 0) o 3 0) o 4 0) a = h a := fun a ha => by rw [up_row _ _ _ _ ha, up_row _ _ _ _ ha, up_row _ _ _ _ ha, up_row _ _ _ _ ha, up_row _ _ _ _ ha]
  have f0 : (up (up (up (up (up h o 0 0) o 1 0) o 2 0) o 3 0) o 4 0) o 0 = 0 := by simp [up_at]
  have f1 : (up (up (up (up (up h o 0 0) o 1 0) o 2 0) o 3 0) o 4 0) o 1 = 0 := by simp [up_at]
  have f2 : (up (up (up (up (up h o 0 0) o 1 0) o 2 0) o 3 0) o 4 0) o 2 = 0 := by simp [up_at]
  have f3 : (up (up (up (up (up h o 0 0) o 1 0) o 2 0) o 3 0) o 4 0) o 3 = 0 := by simp [up_at]
  have f4 : (up (up (up (up (up h o 0 0) o 1 0) o 2 0) o 3 0) o 4 0) o 4 = 0 := by simp [up_at]
  generalize up (up (up (up (up h o 0 0) o 1 0) o 2 0) o 3 0) o 4 0 = g0 at fa f0 f1 f2 f3 f4 ⊢
  have L2 : ∀ k, k ≤ 4 → G X E SHP (0, 0) 47 [(0, .ref (E.1 + o)), (1, .int (nI k))] [] (upr (upr g0 (o + 6) (fil (g0 (o + 6)) (fun _ => 0) 3)) (o + 7) (fil (g0 (o + 7)) (fun _ => 0) k)) := by
    refine loopN 4 _ (fun k hk ih => ?_)
    refine r_iload_n C dX0_empty_47 rfl ?_
    refine r_iconst (4) C dX0_empty_48 rfl ?_
    refine r_icmp_ge 65 C dX0_empty_49 (by decide) (fun c_49 => ?_) (fun c_49 => ?_)
    · rw [cLe (x := 4) (c := nI k) (i := 4) (n := k) (rfl) (rfl) (by omega) (by omega)] at c_49
      have hk2 : k = 4 := by omega
      subst hk2
      refine r_vret C F dX0_empty_65 ⟨rfl, ?_, ⟨⟨by decide, by decide, by decide, by decide, (fun i hi => absurd hi (Nat.not_lt_zero i)), (fun i hi => absurd hi (Nat.not_lt_zero i))⟩, ?_, ?_, ?_, ?_, (fun i hi => absurd hi (Nat.not_lt_zero i)), (fun i hi => absurd hi (Nat.not_lt_zero i)), fun b hb => ?_, fun b hb => ?_⟩, fun a ha => ?_⟩
      · rw [upr_row _ _ _ (by omega), upr_row _ _ _ (by omega)]; exact f0
      · rw [upr_row _ _ _ (by omega), upr_row _ _ _ (by omega)]; exact f1
      · rw [upr_row _ _ _ (by omega), upr_row _ _ _ (by omega)]; exact f2
      · rw [upr_row _ _ _ (by omega), upr_row _ _ _ (by omega)]; exact f3
      · rw [upr_row _ _ _ (by omega), upr_row _ _ _ (by omega)]; exact f4
      · rw [upr_row _ _ _ (by omega), upr_self, fil_lt hb]; rfl
      · rw [upr_self, fil_lt hb]; rfl
      · rw [upr_row _ _ _ (by omega), upr_row _ _ _ (by omega)]; exact fa a (by omega)
    · rw [cLe (x := 4) (c := nI k) (i := 4) (n := k) (rfl) (rfl) (by omega) (by omega)] at c_49
      refine r_aload_n C dX0_empty_52 rfl ?_
      refine r_getR C dX0_empty_53 flX0_30 (hO.1) rfl ?_
      refine r_iload_n C dX0_empty_56 rfl ?_
      refine r_iconst (0) C dX0_empty_57 rfl ?_
      refine r_iast (k) C dX0_empty_58 (hO.2.2.2.2.2.2.2) (rfl) (by omega) (by decide) ?_
      refine r_inc (1) C dX0_empty_59 rfl (by decide) rfl rfl ?_
      refine r_goto 47 C dX0_empty_62 (by decide) ?_
      exact (G.eq (ih (by omega)) rfl rfl (by rw [up_upr]; exact congrArg _ (fil_s (g0 (o + 7)) (fun _ => 0) k rfl))).sub ⟨rfl, by rw [nI_succ]; rfl, trivial⟩
  have L1 : ∀ k, k ≤ 3 → G X E SHP (0, 0) 27 [(0, .ref (E.1 + o)), (1, .int (nI k))] [] (upr g0 (o + 6) (fil (g0 (o + 6)) (fun _ => 0) k)) := by
    refine loopN 3 _ (fun k hk ih => ?_)
    refine r_iload_n C dX0_empty_27 rfl ?_
    refine r_iconst (3) C dX0_empty_28 rfl ?_
    refine r_icmp_ge 45 C dX0_empty_29 (by decide) (fun c_29 => ?_) (fun c_29 => ?_)
    · rw [cLe (x := 3) (c := nI k) (i := 3) (n := k) (rfl) (rfl) (by omega) (by omega)] at c_29
      refine r_iconst (0) C dX0_empty_45 rfl ?_
      refine r_istore_n C dX0_empty_46 (by decide) rfl ?_
      have hk2 : k = 3 := by omega
      subst hk2
      exact (G.eq (L2 0 (by omega)) rfl rfl (by rw [fil_0 (g0 (o + 7))]; exact (upr_id (upr_row _ _ _ (by omega))).symm)).sub ⟨rfl, rfl, trivial⟩
    · rw [cLe (x := 3) (c := nI k) (i := 3) (n := k) (rfl) (rfl) (by omega) (by omega)] at c_29
      refine r_aload_n C dX0_empty_32 rfl ?_
      refine r_getR C dX0_empty_33 flX0_27 (hO.1) rfl ?_
      refine r_iload_n C dX0_empty_36 rfl ?_
      refine r_iconst (0) C dX0_empty_37 rfl ?_
      refine r_iast (k) C dX0_empty_38 (hO.2.2.2.2.2.2.1) (rfl) (by omega) (by decide) ?_
      refine r_inc (1) C dX0_empty_39 rfl (by decide) rfl rfl ?_
      refine r_goto 27 C dX0_empty_42 (by decide) ?_
      exact (G.eq (ih (by omega)) rfl rfl (by rw [up_upr]; exact congrArg _ (fil_s (g0 (o + 6)) (fun _ => 0) k rfl))).sub ⟨rfl, by rw [nI_succ]; rfl, trivial⟩
  refine r_iconst (0) C dX0_empty_25 rfl ?_
  refine r_istore_n C dX0_empty_26 (by decide) rfl ?_
  exact (G.eq (L1 0 (by omega)) rfl rfl (by rw [fil_0]; exact (upr_id rfl).symm)).sub ⟨rfl, rfl, trivial⟩
