variable {l : Launch} {E : Ev} {h : Hp}
def QT (h : Hp) (a b : Nat) (u : Mom) : Pst := fun v g => v = none ∧ MomC (fun k => g a (b + k)) u ∧ (∀ k, k < b ∨ b + 16 ≤ k → g a k = h a k) ∧ ∀ c, c ≠ a → g c = h c
set_option maxHeartbeats 4000000 in
theorem s2_copyTo {a b N : Nat} {u : Mom} (hU : CM h u) (ha : SHP[a]? = some (.inr (0, N))) (hN : N ≤ 1000) (hb : b + 16 ≤ N) (ne : a ≠ 20 ∧ a ≠ 21 ∧ a ≠ 22) : Sp l E SHP 2 M2_copyTo [.ref (E.1 + 20), .ref (E.1 + a), .int (nI b)] h (QT h a b u) := by
  refine Sp.of (by decide) (Nat.le_of_ble_eq_true rfl) (fun X C F => ?_)
  have C : Ok X E RX2 cX2_copyTo 3 := C
  have F : Fn X l E SHP 2 none (QT h a b u) := F
  show G X E SHP (0, 0) 0 [(0, .ref (E.1 + 20)), (1, .ref (E.1 + a)), (2, .int (nI b))] [] h
  obtain ⟨e0, e1, e2, e3, eO, eM⟩ := id hU
  refine r_iload_n C dX2_copyTo_0 rfl ?_
  refine r_if_lt 13 C dX2_copyTo_1 (by decide) (fun c_1 => ?_) (fun c_1 => ?_)
  · exact absurd c_1 (Int32.not_lt.mpr ((nI_leI (a := 0) (by decide) (by omega)).mpr (Nat.zero_le _)))
  · refine r_iload_n C dX2_copyTo_4 rfl ?_
    refine r_bipush (16) C dX2_copyTo_5 rfl ?_
    refine r_iadd C dX2_copyTo_7 ?_
    rw [show nI b + 16 = nI (b + 16) from nI_add b 16]
    refine r_aload_n C dX2_copyTo_8 rfl ?_
    refine r_alen (ty := 0) (nI (N)) C dX2_copyTo_9 (ha) rfl ?_
    refine r_icmp_le 14 C dX2_copyTo_10 (by decide) (fun c_10 => ?_) (fun c_10 => ?_)
    · refine r_aload_n C dX2_copyTo_14 rfl ?_
      refine r_iload_n C dX2_copyTo_15 rfl ?_
      refine r_aload_n C dX2_copyTo_16 rfl ?_
      refine r_getI C dX2_copyTo_17 flX2_18 (rfl) rfl ?_
      refine r_iast (b) C dX2_copyTo_20 (ha) (rfl) (by omega) (by first | decide | omega) ?_
      refine r_aload_n C dX2_copyTo_21 rfl ?_
      refine r_iload_n C dX2_copyTo_22 rfl ?_
      refine r_iconst (1) C dX2_copyTo_23 rfl ?_
      refine r_iadd C dX2_copyTo_24 ?_
      refine r_aload_n C dX2_copyTo_25 rfl ?_
      refine r_getI C dX2_copyTo_26 flX2_22 (rfl) rfl ?_
      refine r_iast (b + 1) C dX2_copyTo_29 (ha) (nI_add b 1) (by omega) (by first | decide | omega) ?_
      refine r_aload_n C dX2_copyTo_30 rfl ?_
      refine r_iload_n C dX2_copyTo_31 rfl ?_
      refine r_iconst (2) C dX2_copyTo_32 rfl ?_
      refine r_iadd C dX2_copyTo_33 ?_
      refine r_aload_n C dX2_copyTo_34 rfl ?_
      refine r_getI C dX2_copyTo_35 flX2_25 (rfl) rfl ?_
      refine r_iast (b + 2) C dX2_copyTo_38 (ha) (nI_add b 2) (by omega) (by first | decide | omega) ?_
      refine r_aload_n C dX2_copyTo_39 rfl ?_
      refine r_iload_n C dX2_copyTo_40 rfl ?_
      refine r_iconst (3) C dX2_copyTo_41 rfl ?_
      refine r_iadd C dX2_copyTo_42 ?_
      refine r_aload_n C dX2_copyTo_43 rfl ?_
      refine r_getI C dX2_copyTo_44 flX2_28 (rfl) rfl ?_
      refine r_iast (b + 3) C dX2_copyTo_47 (ha) (nI_add b 3) (by omega) (by first | decide | omega) ?_
      refine r_aload_n C dX2_copyTo_48 rfl ?_
      refine r_getR C dX2_copyTo_49 flX2_9 (rfl) rfl ?_
      refine r_iconst (0) C dX2_copyTo_52 rfl ?_
      refine r_aload_n C dX2_copyTo_53 rfl ?_
      refine r_iload_n C dX2_copyTo_54 rfl ?_
      refine r_iconst (4) C dX2_copyTo_55 rfl ?_
      refine r_iadd C dX2_copyTo_56 ?_
      refine r_bipush (6) C dX2_copyTo_57 rfl ?_
      refine r_acp (0) (b + 4) (6) C F dX2_copyTo_59 tw_457 rfl ha rfl (show nI b + 4 = nI (b + 4) from nI_add b 4) rfl (by decide) (by omega) (by decide) (by omega) (by decide) (Nat.le_of_ble_eq_true rfl) ?_
      refine r_aload_n C dX2_copyTo_62 rfl ?_
      refine r_getR C dX2_copyTo_63 flX2_15 (rfl) rfl ?_
      refine r_iconst (0) C dX2_copyTo_66 rfl ?_
      refine r_aload_n C dX2_copyTo_67 rfl ?_
      refine r_iload_n C dX2_copyTo_68 rfl ?_
      refine r_iconst (4) C dX2_copyTo_69 rfl ?_
      refine r_iadd C dX2_copyTo_70 ?_
      refine r_bipush (6) C dX2_copyTo_71 rfl ?_
      refine r_iadd C dX2_copyTo_73 ?_
      refine r_bipush (6) C dX2_copyTo_74 rfl ?_
      refine r_acp (0) (b + 10) (6) C F dX2_copyTo_76 tw_457 rfl ha rfl (show nI b + 4 + 6 = nI (b + 10) by rw [show nI b + 4 = nI (b + 4) from nI_add b 4]; exact nI_add (b + 4) 6) rfl (by decide) (by omega) (by decide) (by omega) (by decide) (Nat.le_of_ble_eq_true rfl) ?_
      refine r_vret C F dX2_copyTo_79 ⟨rfl, ⟨?_, ?_, ?_, ?_, fun i hi => ?_, fun j hj => ?_⟩, fun k hk => ?_, fun c hc => ?_⟩
      · dsimp only
        rw [upr_self]; unfold va_cpy; rw [if_neg (by omega), upr_self, if_neg (by omega), up_if, if_neg (by omega), up_if, if_neg (by omega), up_if, if_neg (by omega), up_if, if_pos (by omega)]; exact e0
      · dsimp only
        rw [upr_self]; unfold va_cpy; rw [if_neg (by omega), upr_self, if_neg (by omega), up_if, if_neg (by omega), up_if, if_neg (by omega), up_if, if_pos (by omega), up_row _ _ _ _ (Ne.symm ne.1)]; exact e1
      · dsimp only
        rw [upr_self]; unfold va_cpy; rw [if_neg (by omega), upr_self, if_neg (by omega), up_if, if_neg (by omega), up_if, if_pos (by omega), up_row _ _ _ _ (Ne.symm ne.1), up_row _ _ _ _ (Ne.symm ne.1)]; exact e2
      · dsimp only
        rw [upr_self]; unfold va_cpy; rw [if_neg (by omega), upr_self, if_neg (by omega), up_if, if_pos (by omega), up_row _ _ _ _ (Ne.symm ne.1), up_row _ _ _ _ (Ne.symm ne.1), up_row _ _ _ _ (Ne.symm ne.1)]; exact e3
      · dsimp only
        rw [upr_self]; unfold va_cpy; rw [if_neg (by omega), upr_self]
        rw [if_pos (by omega), up_row _ _ _ _ (Ne.symm ne.2.1), up_row _ _ _ _ (Ne.symm ne.2.1), up_row _ _ _ _ (Ne.symm ne.2.1), up_row _ _ _ _ (Ne.symm ne.2.1), show 0 + (b + (4 + i) - (b + 4)) = i by omega]
        exact eO i hi
      · dsimp only
        rw [upr_self]; unfold va_cpy
        rw [if_pos (by omega), upr_row _ _ _ (Ne.symm ne.2.2), up_row _ _ _ _ (Ne.symm ne.2.2), up_row _ _ _ _ (Ne.symm ne.2.2), up_row _ _ _ _ (Ne.symm ne.2.2), up_row _ _ _ _ (Ne.symm ne.2.2), show 0 + (b + (10 + j) - (b + 10)) = j by omega]
        exact eM j hj
      · rw [upr_self]; unfold va_cpy; rw [if_neg (by omega), upr_self, if_neg (by omega), up_if, if_neg (by omega), up_if, if_neg (by omega), up_if, if_neg (by omega), up_if, if_neg (by omega)]
      · rw [upr_row _ _ _ hc, upr_row _ _ _ hc, up_row _ _ _ _ hc, up_row _ _ _ _ hc, up_row _ _ _ _ hc, up_row _ _ _ _ hc]
    · exact absurd ((nI_leI (by omega) (by omega)).mpr hb) c_10
/-- the class's past: a ring -/
def CB (h : Hp) (B : List Mom) : Prop := B.length ≤ 30 ∧ h 23 1 = nI B.length ∧ ∃ nx, nx < 30 ∧ h 23 2 = nI nx ∧ ∀ r u, B[r]? = some u → MomC (fun k => h 24 (16 * ((nx + 30 - B.length + r) % 30) + k)) u
theorem MomC_congr {f g : Nat → Int32} {u : Mom} (q : MomC f u) (e : ∀ k, k < 16 → g k = f k) : MomC g u := by
  obtain ⟨q0, q1, q2, q3, qo, qt⟩ := q
  exact ⟨(e 0 (by omega)).trans q0, (e 1 (by omega)).trans q1, (e 2 (by omega)).trans q2, (e 3 (by omega)).trans q3, fun i hi => (e (4 + i) (by omega)).trans (qo i hi), fun j hj => (e (10 + j) (by omega)).trans (qt j hj)⟩
theorem CB_push {g : Hp} {B : List Mom} {u : Mom} {nx : Nat} (hl : B.length ≤ 30) (hx : nx < 30) (hr : ∀ r v, B[r]? = some v → MomC (fun k => h 24 (16 * ((nx + 30 - B.length + r) % 30) + k)) v) (hu : MomC (fun k => g 24 (16 * nx + k)) u) (ho : ∀ k, k < 16 * nx ∨ 16 * nx + 16 ≤ k → g 24 k = h 24 k) : ∀ r v, (pushA B u)[r]? = some v → MomC (fun k => g 24 (16 * (((nx + 1) % 30 + 30 - (pushA B u).length + r) % 30) + k)) v := by
  intro r v q
  rw [push_len hl]
  rcases push_get hl u q with ⟨h30, c⟩ | ⟨h30, c⟩
  · rw [if_pos h30]
    rcases c with ⟨c1, c2⟩ | ⟨rfl, rfl⟩
    · have := hr (r + 1) v c2
      rw [h30] at this
      rw [show ((nx + 1) % 30 + 30 - 30 + r) % 30 = (nx + 30 - 30 + (r + 1)) % 30 by omega]
      refine MomC_congr this (fun k hk => ho _ ?_)
      omega
    · rw [show ((nx + 1) % 30 + 30 - 30 + 29) % 30 = nx by omega]
      exact hu
  · rw [if_neg (by omega)]
    rcases c with ⟨c1, c2⟩ | ⟨rfl, rfl⟩
    · have := hr r v c2
      rw [show ((nx + 1) % 30 + 30 - (B.length + 1) + r) % 30 = (nx + 30 - B.length + r) % 30 by omega]
      refine MomC_congr this (fun k hk => ho _ ?_)
      omega
    · rw [show ((nx + 1) % 30 + 30 - (B.length + 1) + B.length) % 30 = nx by omega]
      exact hu
def QP (h : Hp) (B : List Mom) : Pst := fun v g => v = none ∧ CB g B ∧ ∀ a, a ≠ 23 → a ≠ 24 → g a = h a
set_option maxHeartbeats 4000000 in
theorem s3_push {B : List Mom} {u : Mom} (hU : CM h u) (hB : CB h B) : Sp l E SHP 3 M3_push [.ref (E.1 + 23), .ref (E.1 + 20)] h (QP h (pushA B u)) := by
  refine Sp.of (by decide) (Nat.le_of_ble_eq_true rfl) (fun X C F => ?_)
  have C : Ok X E RX3 cX3_push 2 := C
  have F : Fn X l E SHP 3 none (QP h (pushA B u)) := F
  show G X E SHP (0, 0) 0 [(0, .ref (E.1 + 23)), (1, .ref (E.1 + 20))] [] h
  obtain ⟨hl, hk1, nx, hx, hnx, hr⟩ := hB
  refine r_aload_n C dX3_push_0 rfl ?_
  refine r_aload_n C dX3_push_1 rfl ?_
  refine r_getR C dX3_push_2 flX3_11 (rfl) rfl ?_
  refine r_aload_n C dX3_push_5 rfl ?_
  refine r_getI C dX3_push_6 flX3_21 (rfl) rfl ?_
  refine r_bipush (16) C dX3_push_9 rfl ?_
  refine r_imul C dX3_push_11 ?_
  rw [hnx, show nI nx * 16 = nI (16 * nx) by rw [Nat.mul_comm]; exact pk_mul nx 16]
  refine r_callV C F dX3_push_12 (s2_copyTo (a := 24) (b := 16 * nx) (N := 480) hU rfl (by decide) (by omega) (by decide)) tw_453 m2_copyTo (rfl) rfl (by decide) rfl (Nat.le_of_ble_eq_true rfl) (fun v g q => ?_)
  obtain ⟨rfl, q1, q2, q3⟩ := q
  have f232 : g 23 2 = nI nx := by rw [q3 23 (by decide)]; exact hnx
  have f231 : g 23 1 = nI B.length := by rw [q3 23 (by decide)]; exact hk1
  show G X E SHP (0, 0) 15 [(0, .ref (E.1 + 23)), (1, .ref (E.1 + 20))] [] g
  refine r_aload_n C dX3_push_15 rfl ?_
  refine r_aload_n C dX3_push_16 rfl ?_
  refine r_getI C dX3_push_17 flX3_21 (rfl) rfl ?_
  refine r_iconst (1) C dX3_push_20 rfl ?_
  refine r_iadd C dX3_push_21 ?_
  refine r_bipush (30) C dX3_push_22 rfl ?_
  rw [f232, show nI nx + 1 = nI (nx + 1) from (nI_succ nx).symm]
  refine r_irem C dX3_push_24 (by decide) ?_
  rw [show nI (nx + 1) - nI (nx + 1) / 30 * 30 = nI ((nx + 1) % 30) from pk_rem (by omega) (by decide) (by decide)]
  refine r_putI C dX3_push_25 fwX3_21 (rfl) rfl ?_
  refine r_aload_n C dX3_push_28 rfl ?_
  refine r_getI C dX3_push_29 flX3_17 (rfl) rfl ?_
  refine r_bipush (30) C dX3_push_32 rfl ?_
  refine r_icmp_ge 47 C dX3_push_34 (by decide) (fun c_34 => ?_) (fun c_34 => ?_)
  · rw [cLe (x := 30) (c := up g 23 2 (nI ((nx + 1) % 30)) 23 1) (i := 30) (n := B.length) (rfl) (by rw [up_off _ _ _ _ (by decide)]; exact f231) (by omega) (by omega)] at c_34
    refine r_vret C F dX3_push_47 ⟨rfl, ⟨?_, ?_, (nx + 1) % 30, by omega, ?_, ?_⟩, fun a h1 h2 => ?_⟩
    · rw [push_len hl]; split <;> omega
    · rw [push_len hl, if_pos (show B.length = 30 by omega), up_off _ _ _ _ (by decide), f231, show B.length = 30 by omega]
    · rw [up_self]
    · intro r v q
      have := CB_push hl hx hr q1 q2 r v q
      refine MomC_congr this (fun k hk => ?_)
      rfl
    · rw [up_row _ _ _ _ h1]; exact q3 a h2
  · rw [cLe (x := 30) (c := up g 23 2 (nI ((nx + 1) % 30)) 23 1) (i := 30) (n := B.length) (rfl) (by rw [up_off _ _ _ _ (by decide)]; exact f231) (by omega) (by omega)] at c_34
    refine r_aload_n C dX3_push_37 rfl ?_
    refine r_dup C dX3_push_38 rfl ?_
    refine r_getI C dX3_push_39 flX3_17 (rfl) rfl ?_
    refine r_iconst (1) C dX3_push_42 rfl ?_
    refine r_iadd C dX3_push_43 ?_
    refine r_putI C dX3_push_44 fwX3_17 (rfl) rfl ?_
    refine r_vret C F dX3_push_47 ⟨rfl, ⟨?_, ?_, (nx + 1) % 30, by omega, ?_, ?_⟩, fun a h1 h2 => ?_⟩
    · rw [push_len hl]; split <;> omega
    · rw [push_len hl, if_neg (show ¬ B.length = 30 by omega), up_self, up_off _ _ _ _ (by decide), f231]; exact (nI_succ _).symm
    · rw [up_off _ _ _ _ (by decide)]; rw [up_self]
    · intro r v q
      have := CB_push hl hx hr q1 q2 r v q
      refine MomC_congr this (fun k hk => ?_)
      rfl
    · rw [up_row _ _ _ _ h1, up_row _ _ _ _ h1]; exact q3 a h2
