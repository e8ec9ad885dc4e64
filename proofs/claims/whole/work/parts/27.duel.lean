variable {l : Launch} {E : Ev} {h : Hp}
/-! duels -/
def df (n : Nat) (h g : Hp) : Prop := ∀ a, ¬ (n ≤ a ∧ a ≤ 60) → g a = h a
theorem df.rf (n : Nat) : df n h h := fun _ _ => rfl
theorem df.row {n : Nat} {g : Hp} (q : df n h g) {b : Nat} (f : Nat → Int32) (hb : n ≤ b ∧ b ≤ 60) : df n h (upr g b f) := fun a ha => by rw [upr_row _ _ _ (by omega)]; exact q a ha
theorem df.MH {n : Nat} {g : Hp} {D : HDt} (q : df n h g) (hn : 57 < n) (m : MH h D) : MH g D := by
  unfold _root_.Jvm.Pilot.CLastLaughLaw_law_r2000_4130f9.MH at *
  rw [q 49 (by omega), q 54 (by omega), q 55 (by omega), q 56 (by omega)]
  exact m
theorem df.tr {n m : Nat} {g k : Hp} (p : df n h g) (q : df m g k) (hm : n ≤ m) : df n h k := fun a ha => (q a (by omega)).trans (p a ha)
theorem df.Scr {n : Nat} {g : Hp} (q : df n h g) (hn : 58 ≤ n) : Scr h g := ⟨fun a ha => q a (by omega), fun k _ => by rw [q 49 (by omega)]⟩
noncomputable def lasK (D : HDt) (u : Mom) (x y : Nat) : Nat → Nat
  | 0 => 1
  | k + 1 => if canB D u x k = true ∧ (mI (tl D u x k)).testBit y = false then 2 else lasK D u x y k
noncomputable def nexB (D : HDt) (u : Mom) (x y n k : Nat) : Nat := if (mI (tl D u y k)).testBit x = false then 0 else if n = 2 then 1 else lasK D (tl D u y k) x y 60
noncomputable def nexK (D : HDt) (u : Mom) (x y n : Nat) : Nat → Nat
  | 0 => 2
  | k + 1 => if canB D u y k = true then (if nexB D u x y n k < nexK D u x y n k then nexB D u x y n k else nexK D u x y n k) else nexK D u x y n k
noncomputable def dueB (D : HDt) (u : Mom) (x y n k : Nat) : Nat := if (mI (tl D u x k)).testBit y = false then 2 else if n = 1 then 1 else nexK D (tl D u x k) x y n 60
noncomputable def dueK (D : HDt) (u : Mom) (x y n : Nat) : Nat → Option (Nat × Nat)
  | 0 => none
  | k + 1 => if canB D u x k = true then (match dueK D u x y n k with
    | none => some (dueB D u x y n k, k)
    | some q => if q.1 < dueB D u x y n k then some (dueB D u x y n k, k) else some q) else dueK D u x y n k
theorem lasK_le (D : HDt) (u : Mom) (x y : Nat) : ∀ k, lasK D u x y k ≤ 2
  | 0 => Nat.le_succ 1
  | k + 1 => by
    show (if canB D u x k = true ∧ (mI (tl D u x k)).testBit y = false then 2 else lasK D u x y k) ≤ 2
    split
    · decide
    · exact lasK_le D u x y k
theorem nexB_le (D : HDt) (u : Mom) (x y n k : Nat) : nexB D u x y n k ≤ 2 := by
  unfold nexB
  split
  · decide
  · split
    · decide
    · exact lasK_le _ _ _ _ _
theorem nexK_le (D : HDt) (u : Mom) (x y n : Nat) : ∀ k, nexK D u x y n k ≤ 2
  | 0 => Nat.le_refl 2
  | k + 1 => by
    have h1 := nexB_le D u x y n k
    have h2 := nexK_le D u x y n k
    show (if canB D u y k = true then (if nexB D u x y n k < nexK D u x y n k then nexB D u x y n k else nexK D u x y n k) else nexK D u x y n k) ≤ 2
    split
    · split <;> omega
    · exact h2
theorem dueB_le (D : HDt) (u : Mom) (x y n k : Nat) : dueB D u x y n k ≤ 2 := by
  unfold dueB
  split
  · decide
  · split
    · decide
    · exact nexK_le _ _ _ _ _ _
theorem dueK_le (D : HDt) (u : Mom) (x y n : Nat) : ∀ k q, dueK D u x y n k = some q → q.1 ≤ 2 ∧ q.2 < k
  | 0, q, e => by cases e
  | k + 1, q, e => by
    have e : (if canB D u x k = true then (match dueK D u x y n k with
    | none => some (dueB D u x y n k, k)
    | some q => if q.1 < dueB D u x y n k then some (dueB D u x y n k, k) else some q) else dueK D u x y n k) = some q := e
    have hb := dueB_le D u x y n k
    split at e
    · cases hq : dueK D u x y n k with
      | none => rw [hq] at e; cases e; exact ⟨hb, by show k < k + 1; omega⟩
      | some r =>
        rw [hq] at e
        dsimp only at e
        have := dueK_le D u x y n k r hq
        split at e
        · cases e; exact ⟨hb, by show k < k + 1; omega⟩
        · cases e; exact ⟨this.1, by omega⟩
    · have := dueK_le D u x y n k q e
      exact ⟨this.1, by omega⟩
set_option maxHeartbeats 4000000 in
theorem s8_lastOf {D : HDt} {u : Mom} {x y n : Nat} (hM : MH h D) (hR : MomR (h 59) u) (ok : okW D u n) (hn : n ≤ 100) (hx : x < 6) (hy : y < 6) : Sp l E SHP 5 M8_lastOf [.ref (E.1 + 49), .ref (E.1 + 59), .int (nI x), .int (nI y)] h (fun v g => v = some (.int (nI (lasK D u x y 60))) ∧ df 60 h g) := by
  refine Sp.of (by decide) (Nat.le_of_ble_eq_true rfl) (fun X C F => ?_)
  have C : Ok X E RX8 cX8_lastOf 6 := C
  have F : Fn X l E SHP 5 (some FieldType.int) (fun v g => v = some (.int (nI (lasK D u x y 60))) ∧ df 60 h g) := F
  show G X E SHP (0, 0) 0 [(0, .ref (E.1 + 49)), (1, .ref (E.1 + 59)), (2, .int (nI x)), (3, .int (nI y))] [] h
  have okd := hM.1
  have L : ∀ k, k ≤ 60 → ∀ g, df 60 h g → G X E SHP (0, 0) 6 [(0, .ref (E.1 + 49)), (1, .ref (E.1 + 59)), (2, .int (nI x)), (3, .int (nI y)), (4, .int (nI (lasK D u x y k))), (5, .int (nI k))] [] g := by
    refine loopN 60 _ (fun k hk ih g hS => ?_)
    refine r_iload C dX8_lastOf_6 rfl ?_
    refine r_bipush (60) C dX8_lastOf_8 rfl ?_
    refine r_icmp_ge 64 C dX8_lastOf_10 (by decide) (fun c_10 => ?_) (fun c_10 => ?_)
    · rw [cLe (x := 60) (c := nI k) (i := 60) (n := k) (rfl) (rfl) (by omega) (by omega)] at c_10
      refine r_iload C dX8_lastOf_64 rfl ?_
      exact r_iret C F dX8_lastOf_66 ⟨by rw [show k = 60 by omega], hS⟩
    · rw [cLe (x := 60) (c := nI k) (i := 60) (n := k) (rfl) (rfl) (by omega) (by omega)] at c_10
      refine r_aload_n C dX8_lastOf_13 rfl ?_
      refine r_iconst (0) C dX8_lastOf_14 rfl ?_
      refine r_aload_n C dX8_lastOf_15 rfl ?_
      refine r_getR C dX8_lastOf_16 flX8_44 (rfl) rfl ?_
      refine r_iconst (0) C dX8_lastOf_19 rfl ?_
      refine r_cSv C F dX8_lastOf_20 (s8_copy (i := 59) (j := 60) (a := 0) (b := 0) rfl rfl (by decide) (by decide) (by decide) (by decide) (by decide)) tw_887 m8_copy (by decide) rfl (Nat.le_of_ble_eq_true rfl) ?_
      have hS1 : df 60 h (upr g 60 (va_cpy (g 59) (g 60) 0 0 16)) := hS.row _ (by decide)
      have hm1 : MomR ((upr g 60 (va_cpy (g 59) (g 60) 0 0 16)) 60) (u) := by rw [upr_self]; exact cpy_row (by rw [hS 59 (by decide)]; exact hR)
      generalize upr g 60 (va_cpy (g 59) (g 60) 0 0 16) = g1 at hS1 hm1 ⊢
      refine r_aload_n C dX8_lastOf_23 rfl ?_
      refine r_aload_n C dX8_lastOf_24 rfl ?_
      refine r_getR C dX8_lastOf_25 flX8_44 (rfl) rfl ?_
      refine r_iload_n C dX8_lastOf_28 rfl ?_
      refine r_iload C dX8_lastOf_29 rfl ?_
      refine r_callV C F dX8_lastOf_31 (s8_tells (c := k) (hS1.MH (by decide) hM) rfl hm1 ok hn hx (by omega) (by decide)) tw_948 m8_tells (rfl) rfl (by decide) rfl (Nat.le_of_ble_eq_true rfl) (fun v h2 hq => ?_)
      obtain ⟨rfl, f, rfl, hf⟩ := hq
      have hS2 : df 60 h (upr g1 60 f) := hS1.row _ (by decide)
      have hm2 : canB D u x k = true → MomR (upr g1 60 f 60) (tl D u x k) := fun q => by rw [upr_self]; exact hf q
      generalize upr g1 60 f = g2 at hS2 hm2 ⊢
      refine r_if_eq 54 C dX8_lastOf_34 (by decide) (fun c_34 => ?_) (fun c_34 => ?_)
      · rw [bz_eq0] at c_34
        refine r_iload C dX8_lastOf_54 rfl ?_
        refine r_istore C dX8_lastOf_56 (by decide) rfl ?_
        refine r_inc (1) C dX8_lastOf_58 rfl (by decide) rfl rfl ?_
        refine r_goto 6 C dX8_lastOf_61 (by decide) ?_
        exact (ih (by omega) g2 hS2).sub ⟨rfl, rfl, rfl, rfl, (by rw [show lasK D u x y (k + 1) = lasK D u x y k from if_neg (fun q => c_34 q.1)]; rfl), by rw [nI_succ]; rfl, trivial⟩
      · rw [bz_ne0] at c_34
        refine r_aload_n C dX8_lastOf_37 rfl ?_
        refine r_getR C dX8_lastOf_38 flX8_44 (rfl) rfl ?_
        refine r_iconst (0) C dX8_lastOf_41 rfl ?_
        refine r_iald (0) C dX8_lastOf_42 (rfl) (rfl) (by decide) (by decide) ?_
        refine r_iload_n C dX8_lastOf_43 rfl ?_
        refine r_cSi C F dX8_lastOf_44 (s8_has) tw_879 m8_has (by decide) rfl (Nat.le_of_ble_eq_true rfl) ?_
        refine r_if_ne 54 C dX8_lastOf_47 (by decide) (fun c_47 => ?_) (fun c_47 => ?_)
        · rw [bz_ne0, (hm2 c_34).1, hasP_nI (by have := okW_lt okd (okW_tl ok x k); omega) (by omega)] at c_47
          refine r_iload C dX8_lastOf_54 rfl ?_
          refine r_istore C dX8_lastOf_56 (by decide) rfl ?_
          refine r_inc (1) C dX8_lastOf_58 rfl (by decide) rfl rfl ?_
          refine r_goto 6 C dX8_lastOf_61 (by decide) ?_
          exact (ih (by omega) g2 hS2).sub ⟨rfl, rfl, rfl, rfl, (by rw [show lasK D u x y (k + 1) = lasK D u x y k from if_neg (fun q => by rw [q.2] at c_47; cases c_47)]; rfl), by rw [nI_succ]; rfl, trivial⟩
        · rw [bz_eq0, (hm2 c_34).1, hasP_nI (by have := okW_lt okd (okW_tl ok x k); omega) (by omega), Bool.not_eq_true] at c_47
          refine r_iconst (2) C dX8_lastOf_50 rfl ?_
          refine r_goto 56 C dX8_lastOf_51 (by decide) ?_
          refine r_istore C dX8_lastOf_56 (by decide) rfl ?_
          refine r_inc (1) C dX8_lastOf_58 rfl (by decide) rfl rfl ?_
          refine r_goto 6 C dX8_lastOf_61 (by decide) ?_
          exact (ih (by omega) g2 hS2).sub ⟨rfl, rfl, rfl, rfl, (by rw [show lasK D u x y (k + 1) = 2 from if_pos ⟨c_34, c_47⟩]; rfl), by rw [nI_succ]; rfl, trivial⟩
  refine r_iconst (1) C dX8_lastOf_0 rfl ?_
  refine r_istore C dX8_lastOf_1 (by decide) rfl ?_
  refine r_iconst (0) C dX8_lastOf_3 rfl ?_
  refine r_istore C dX8_lastOf_4 (by decide) rfl ?_
  exact (L 0 (by omega) h (df.rf 60)).sub ⟨rfl, rfl, rfl, rfl, rfl, rfl, trivial⟩
set_option maxHeartbeats 4000000 in
theorem s8_nextOf {D : HDt} {u : Mom} {x y n r : Nat} (hM : MH h D) (hR : MomR (h 58) u) (ok : okW D u r) (hr : r ≤ 50) (hx : x < 6) (hy : y < 6) (hn3 : n ≤ 3) : Sp l E SHP 6 M8_nextOf [.ref (E.1 + 49), .ref (E.1 + 58), .int (nI x), .int (nI y), .int (nI n)] h (fun v g => v = some (.int (nI (nexK D u x y n 60))) ∧ df 59 h g) := by
  refine Sp.of (by decide) (Nat.le_of_ble_eq_true rfl) (fun X C F => ?_)
  have C : Ok X E RX8 cX8_nextOf 8 := C
  have F : Fn X l E SHP 6 (some FieldType.int) (fun v g => v = some (.int (nI (nexK D u x y n 60))) ∧ df 59 h g) := F
  show G X E SHP (0, 0) 0 [(0, .ref (E.1 + 49)), (1, .ref (E.1 + 58)), (2, .int (nI x)), (3, .int (nI y)), (4, .int (nI n))] [] h
  have okd := hM.1
  have L : ∀ k, k ≤ 60 → ∀ g, df 59 h g → G X E SHP (0, 0) 6 [(0, .ref (E.1 + 49)), (1, .ref (E.1 + 58)), (2, .int (nI x)), (3, .int (nI y)), (4, .int (nI n)), (5, .int (nI (nexK D u x y n k))), (6, .int (nI k))] [] g := by
    refine loopN 60 _ (fun k hk ih g hS => ?_)
    have hnk := nexK_le D u x y n k
    refine r_iload C dX8_nextOf_6 rfl ?_
    refine r_bipush (60) C dX8_nextOf_8 rfl ?_
    refine r_icmp_ge 98 C dX8_nextOf_10 (by decide) (fun c_10 => ?_) (fun c_10 => ?_)
    · rw [cLe (x := 60) (c := nI k) (i := 60) (n := k) (rfl) (rfl) (by omega) (by omega)] at c_10
      refine r_iload C dX8_nextOf_98 rfl ?_
      exact r_iret C F dX8_nextOf_100 ⟨by rw [show k = 60 by omega], hS⟩
    · rw [cLe (x := 60) (c := nI k) (i := 60) (n := k) (rfl) (rfl) (by omega) (by omega)] at c_10
      refine r_aload_n C dX8_nextOf_13 rfl ?_
      refine r_iconst (0) C dX8_nextOf_14 rfl ?_
      refine r_aload_n C dX8_nextOf_15 rfl ?_
      refine r_getR C dX8_nextOf_16 flX8_41 (rfl) rfl ?_
      refine r_iconst (0) C dX8_nextOf_19 rfl ?_
      refine r_cSv C F dX8_nextOf_20 (s8_copy (i := 58) (j := 59) (a := 0) (b := 0) rfl rfl (by decide) (by decide) (by decide) (by decide) (by decide)) tw_887 m8_copy (by decide) rfl (Nat.le_of_ble_eq_true rfl) ?_
      have hS1 : df 59 h (upr g 59 (va_cpy (g 58) (g 59) 0 0 16)) := hS.row _ (by decide)
      have hm1 : MomR ((upr g 59 (va_cpy (g 58) (g 59) 0 0 16)) 59) (u) := by rw [upr_self]; exact cpy_row (by rw [hS 58 (by decide)]; exact hR)
      generalize upr g 59 (va_cpy (g 58) (g 59) 0 0 16) = g1 at hS1 hm1 ⊢
      refine r_aload_n C dX8_nextOf_23 rfl ?_
      refine r_aload_n C dX8_nextOf_24 rfl ?_
      refine r_getR C dX8_nextOf_25 flX8_41 (rfl) rfl ?_
      refine r_iload_n C dX8_nextOf_28 rfl ?_
      refine r_iload C dX8_nextOf_29 rfl ?_
      refine r_callV C F dX8_nextOf_31 (s8_tells (c := k) (hS1.MH (by decide) hM) rfl hm1 ok (by omega) hy (by omega) (by decide)) tw_948 m8_tells (rfl) rfl (by decide) rfl (Nat.le_of_ble_eq_true rfl) (fun v h2 hq => ?_)
      obtain ⟨rfl, f, rfl, hf⟩ := hq
      have hS2 : df 59 h (upr g1 59 f) := hS1.row _ (by decide)
      have hm2 : canB D u y k = true → MomR (upr g1 59 f 59) (tl D u y k) := fun q => by rw [upr_self]; exact hf q
      generalize upr g1 59 f = g2 at hS2 hm2 ⊢
      refine r_if_eq 92 C dX8_nextOf_34 (by decide) (fun c_34 => ?_) (fun c_34 => ?_)
      · rw [bz_eq0] at c_34
        refine r_inc (1) C dX8_nextOf_92 rfl (by decide) rfl rfl ?_
        refine r_goto 6 C dX8_nextOf_95 (by decide) ?_
        exact (ih (by omega) g2 hS2).sub ⟨rfl, rfl, rfl, rfl, rfl, (by rw [show nexK D u x y n (k + 1) = nexK D u x y n k from if_neg c_34]; rfl), by rw [nI_succ]; rfl, trivial⟩
      · rw [bz_ne0] at c_34
        refine r_aload_n C dX8_nextOf_37 rfl ?_
        refine r_getR C dX8_nextOf_38 flX8_41 (rfl) rfl ?_
        refine r_iconst (0) C dX8_nextOf_41 rfl ?_
        refine r_iald (0) C dX8_nextOf_42 (rfl) (rfl) (by decide) (by decide) ?_
        refine r_iload_n C dX8_nextOf_43 rfl ?_
        refine r_cSi C F dX8_nextOf_44 (s8_has) tw_879 m8_has (by decide) rfl (Nat.le_of_ble_eq_true rfl) ?_
        refine r_if_ne 54 C dX8_nextOf_47 (by decide) (fun c_47 => ?_) (fun c_47 => ?_)
        · rw [bz_ne0, (hm2 c_34).1, hasP_nI (by have := okW_lt okd (okW_tl ok y k); omega) (by omega)] at c_47
          refine r_iload C dX8_nextOf_54 rfl ?_
          refine r_iconst (2) C dX8_nextOf_56 rfl ?_
          refine r_icmp_ne 64 C dX8_nextOf_57 (by decide) (fun c_57 => ?_) (fun c_57 => ?_)
          · rw [cEq (x := nI n) (c := 2) (i := n) (n := 2) (rfl) (rfl) (by omega) (by omega)] at c_57
            refine r_aload_n C dX8_nextOf_64 rfl ?_
            refine r_aload_n C dX8_nextOf_65 rfl ?_
            refine r_getR C dX8_nextOf_66 flX8_41 (rfl) rfl ?_
            refine r_iload_n C dX8_nextOf_69 rfl ?_
            refine r_iload_n C dX8_nextOf_70 rfl ?_
            refine r_callV C F dX8_nextOf_71 (s8_lastOf (hS2.MH (by decide) hM) (hm2 c_34) (okW_tl ok y k) (by omega) hx hy) tw_960 m8_lastOf (rfl) rfl (by decide) rfl (Nat.le_of_ble_eq_true rfl) (fun v g3 hq => ?_)
            obtain ⟨rfl, hd3⟩ := hq
            have hS3 := hS2.tr hd3 (by decide)
            have hll := lasK_le D (tl D u y k) x y 60
            refine r_istore C dX8_nextOf_74 (by decide) rfl ?_
            refine r_iload C dX8_nextOf_76 rfl ?_
            refine r_iload C dX8_nextOf_78 rfl ?_
            refine r_icmp_ge 88 C dX8_nextOf_80 (by decide) (fun c_80 => ?_) (fun c_80 => ?_)
            · refine r_iload C dX8_nextOf_88 rfl ?_
              refine r_istore C dX8_nextOf_90 (by decide) rfl ?_
              refine r_inc (1) C dX8_nextOf_92 rfl (by decide) rfl rfl ?_
              refine r_goto 6 C dX8_nextOf_95 (by decide) ?_
              have hby : nexB D u x y n k = lasK D (tl D u y k) x y 60 := by unfold nexB; rw [if_neg (by rw [c_47]; decide), if_neg c_57]
              have hvl := nexB_le D u x y n k
              rw [cLe (x := nI (nexK D u x y n k)) (c := (nI (lasK D (tl D u y k) x y 60) : Int32)) (i := nexK D u x y n k) (n := nexB D u x y n k) (rfl) (by rw [hby]) (by omega) (by omega)] at c_80
              exact (ih (by omega) g3 hS3).sub ⟨rfl, rfl, rfl, rfl, rfl, (by rw [show nexK D u x y n (k + 1) = nexK D u x y n k by show (if canB D u y k = true then (if nexB D u x y n k < nexK D u x y n k then nexB D u x y n k else nexK D u x y n k) else nexK D u x y n k) = _; rw [if_pos c_34, if_neg (by omega)]]; rfl), by rw [nI_succ]; rfl, trivial⟩
            · refine r_iload C dX8_nextOf_83 rfl ?_
              refine r_goto 90 C dX8_nextOf_85 (by decide) ?_
              refine r_istore C dX8_nextOf_90 (by decide) rfl ?_
              refine r_inc (1) C dX8_nextOf_92 rfl (by decide) rfl rfl ?_
              refine r_goto 6 C dX8_nextOf_95 (by decide) ?_
              have hby : nexB D u x y n k = lasK D (tl D u y k) x y 60 := by unfold nexB; rw [if_neg (by rw [c_47]; decide), if_neg c_57]
              have hvl := nexB_le D u x y n k
              rw [cLe (x := nI (nexK D u x y n k)) (c := (nI (lasK D (tl D u y k) x y 60) : Int32)) (i := nexK D u x y n k) (n := nexB D u x y n k) (rfl) (by rw [hby]) (by omega) (by omega)] at c_80
              exact (ih (by omega) g3 hS3).sub ⟨rfl, rfl, rfl, rfl, rfl, (by rw [show nexK D u x y n (k + 1) = nexB D u x y n k by show (if canB D u y k = true then (if nexB D u x y n k < nexK D u x y n k then nexB D u x y n k else nexK D u x y n k) else nexK D u x y n k) = _; rw [if_pos c_34, if_pos (by omega)], hby]; rfl), by rw [nI_succ]; rfl, trivial⟩
          · rw [cEq (x := nI n) (c := 2) (i := n) (n := 2) (rfl) (rfl) (by omega) (by omega)] at c_57
            refine r_iconst (1) C dX8_nextOf_60 rfl ?_
            refine r_goto 74 C dX8_nextOf_61 (by decide) ?_
            refine r_istore C dX8_nextOf_74 (by decide) rfl ?_
            refine r_iload C dX8_nextOf_76 rfl ?_
            refine r_iload C dX8_nextOf_78 rfl ?_
            refine r_icmp_ge 88 C dX8_nextOf_80 (by decide) (fun c_80 => ?_) (fun c_80 => ?_)
            · refine r_iload C dX8_nextOf_88 rfl ?_
              refine r_istore C dX8_nextOf_90 (by decide) rfl ?_
              refine r_inc (1) C dX8_nextOf_92 rfl (by decide) rfl rfl ?_
              refine r_goto 6 C dX8_nextOf_95 (by decide) ?_
              have hby : nexB D u x y n k = 1 := by unfold nexB; rw [if_neg (by rw [c_47]; decide), if_pos c_57]
              have hvl := nexB_le D u x y n k
              rw [cLe (x := nI (nexK D u x y n k)) (c := (1 : Int32)) (i := nexK D u x y n k) (n := nexB D u x y n k) (rfl) (by rw [hby]; rfl) (by omega) (by omega)] at c_80
              exact (ih (by omega) g2 hS2).sub ⟨rfl, rfl, rfl, rfl, rfl, (by rw [show nexK D u x y n (k + 1) = nexK D u x y n k by show (if canB D u y k = true then (if nexB D u x y n k < nexK D u x y n k then nexB D u x y n k else nexK D u x y n k) else nexK D u x y n k) = _; rw [if_pos c_34, if_neg (by omega)]]; rfl), by rw [nI_succ]; rfl, trivial⟩
            · refine r_iload C dX8_nextOf_83 rfl ?_
              refine r_goto 90 C dX8_nextOf_85 (by decide) ?_
              refine r_istore C dX8_nextOf_90 (by decide) rfl ?_
              refine r_inc (1) C dX8_nextOf_92 rfl (by decide) rfl rfl ?_
              refine r_goto 6 C dX8_nextOf_95 (by decide) ?_
              have hby : nexB D u x y n k = 1 := by unfold nexB; rw [if_neg (by rw [c_47]; decide), if_pos c_57]
              have hvl := nexB_le D u x y n k
              rw [cLe (x := nI (nexK D u x y n k)) (c := (1 : Int32)) (i := nexK D u x y n k) (n := nexB D u x y n k) (rfl) (by rw [hby]; rfl) (by omega) (by omega)] at c_80
              exact (ih (by omega) g2 hS2).sub ⟨rfl, rfl, rfl, rfl, rfl, (by rw [show nexK D u x y n (k + 1) = nexB D u x y n k by show (if canB D u y k = true then (if nexB D u x y n k < nexK D u x y n k then nexB D u x y n k else nexK D u x y n k) else nexK D u x y n k) = _; rw [if_pos c_34, if_pos (by omega)], hby]; rfl), by rw [nI_succ]; rfl, trivial⟩
        · rw [bz_eq0, (hm2 c_34).1, hasP_nI (by have := okW_lt okd (okW_tl ok y k); omega) (by omega), Bool.not_eq_true] at c_47
          refine r_iconst (0) C dX8_nextOf_50 rfl ?_
          refine r_goto 74 C dX8_nextOf_51 (by decide) ?_
          refine r_istore C dX8_nextOf_74 (by decide) rfl ?_
          refine r_iload C dX8_nextOf_76 rfl ?_
          refine r_iload C dX8_nextOf_78 rfl ?_
          refine r_icmp_ge 88 C dX8_nextOf_80 (by decide) (fun c_80 => ?_) (fun c_80 => ?_)
          · refine r_iload C dX8_nextOf_88 rfl ?_
            refine r_istore C dX8_nextOf_90 (by decide) rfl ?_
            refine r_inc (1) C dX8_nextOf_92 rfl (by decide) rfl rfl ?_
            refine r_goto 6 C dX8_nextOf_95 (by decide) ?_
            have hby : nexB D u x y n k = 0 := if_pos c_47
            have hvl := nexB_le D u x y n k
            rw [cLe (x := nI (nexK D u x y n k)) (c := (0 : Int32)) (i := nexK D u x y n k) (n := nexB D u x y n k) (rfl) (by rw [hby]; rfl) (by omega) (by omega)] at c_80
            exact (ih (by omega) g2 hS2).sub ⟨rfl, rfl, rfl, rfl, rfl, (by rw [show nexK D u x y n (k + 1) = nexK D u x y n k by show (if canB D u y k = true then (if nexB D u x y n k < nexK D u x y n k then nexB D u x y n k else nexK D u x y n k) else nexK D u x y n k) = _; rw [if_pos c_34, if_neg (by omega)]]; rfl), by rw [nI_succ]; rfl, trivial⟩
          · refine r_iload C dX8_nextOf_83 rfl ?_
            refine r_goto 90 C dX8_nextOf_85 (by decide) ?_
            refine r_istore C dX8_nextOf_90 (by decide) rfl ?_
            refine r_inc (1) C dX8_nextOf_92 rfl (by decide) rfl rfl ?_
            refine r_goto 6 C dX8_nextOf_95 (by decide) ?_
            have hby : nexB D u x y n k = 0 := if_pos c_47
            have hvl := nexB_le D u x y n k
            rw [cLe (x := nI (nexK D u x y n k)) (c := (0 : Int32)) (i := nexK D u x y n k) (n := nexB D u x y n k) (rfl) (by rw [hby]; rfl) (by omega) (by omega)] at c_80
            exact (ih (by omega) g2 hS2).sub ⟨rfl, rfl, rfl, rfl, rfl, (by rw [show nexK D u x y n (k + 1) = nexB D u x y n k by show (if canB D u y k = true then (if nexB D u x y n k < nexK D u x y n k then nexB D u x y n k else nexK D u x y n k) else nexK D u x y n k) = _; rw [if_pos c_34, if_pos (by omega)], hby]; rfl), by rw [nI_succ]; rfl, trivial⟩
  refine r_iconst (2) C dX8_nextOf_0 rfl ?_
  refine r_istore C dX8_nextOf_1 (by decide) rfl ?_
  refine r_iconst (0) C dX8_nextOf_3 rfl ?_
  refine r_istore C dX8_nextOf_4 (by decide) rfl ?_
  exact (L 0 (by omega) h (df.rf 59)).sub ⟨rfl, rfl, rfl, rfl, rfl, rfl, rfl, trivial⟩
def oB : Option (Nat × Nat) → Int32
  | none => -1
  | some q => nI q.1
def oW : Option (Nat × Nat) → Int32
  | none => -1
  | some q => nI q.2
abbrev duP (A : At) (x y : Int32) : Prop := lordP A x ∧ lordP A y ∧ ¬ x = y
noncomputable def vDuel (A : At) (x y n w : Int32) : Int32 := if ¬ duP A x y then -1000000001 else if ¬ (inP n 1 3 ∧ inP w 0 1) then -1000000002 else if ¬ (hasP (nI (mI (aU A))) x ∧ hasP (nI (mI (aU A))) y) then -1000000003 else if w = 1 then oW (dueK (aD A) (aU A) (cl x) (cl y) (cl n) 60) else match dueK (aD A) (aU A) (cl x) (cl y) (cl n) 60 with
  | none => 1
  | some q => nI q.1
set_option maxHeartbeats 4000000 in
theorem s8_duel {A : At} {x y z w : Int32} (hA : MA h A) : Sp l E SHP 7 M8_duel [.ref (E.1 + 49), .int x, .int y, .int z, .int w] h (QM h (vDuel A x y z w, A)) := by
  refine Sp.of (by decide) (Nat.le_of_ble_eq_true rfl) (fun X C F => ?_)
  have C : Ok X E RX8 cX8_duel 9 := C
  have F : Fn X l E SHP 7 (some FieldType.int) (QM h (vDuel A x y z w, A)) := F
  show G X E SHP (0, 0) 0 [(0, .ref (E.1 + 49)), (1, .int x), (2, .int y), (3, .int z), (4, .int w)] [] h
  obtain ⟨⟨a1, a2, a3, a4, a5, a6, a7, a8, a9, a10, a11, a12⟩, ⟨b1, b2⟩, b3, b4, b5, b6, b7, ⟨b8, b9⟩, b10, ⟨b11, b12⟩, b13, b14⟩ := id hA
  obtain ⟨okd, e16, e17, e540, e541, eL, eJ⟩ := id b5
  obtain ⟨o1, o2, o3, o4, o5, o6⟩ := id okd
  have p6 : 2 ^ dL (aD A) ≤ 64 := Nat.pow_le_pow_right (n := 2) (by decide) o1
  obtain ⟨k0, k1, k2, k3, k4, k5⟩ := id a5
  have L : ∀ i j n, i < 6 → j < 6 → n ≤ 3 → duP A x y → (inP z 1 3 ∧ inP w 0 1) → (hasP (nI (mI (aU A))) x ∧ hasP (nI (mI (aU A))) y) → x = nI i → y = nI j → z = nI n → ∀ k, k ≤ 60 → ∀ g, df 58 h g → G X E SHP (0, 0) 74 [(0, .ref (E.1 + 49)), (1, .int (nI i)), (2, .int (nI j)), (3, .int (nI n)), (4, .int w), (5, .int (oB (dueK (aD A) (aU A) i j n k))), (6, .int (oW (dueK (aD A) (aU A) i j n k))), (7, .int (nI k))] [] g := by
    intro i j n hi hj hn hdu hzw hin hxi hyj hzn
    refine loopN 60 _ (fun k hk ih g hS => ?_)
    have hbl := dueB_le (aD A) (aU A) i j n k
    refine r_iload C dX8_duel_74 rfl ?_
    refine r_bipush (60) C dX8_duel_76 rfl ?_
    refine r_icmp_ge 185 C dX8_duel_78 (by decide) (fun c_78 => ?_) (fun c_78 => ?_)
    · rw [cLe (x := 60) (c := nI k) (i := 60) (n := k) (rfl) (rfl) (by omega) (by omega)] at c_78
      refine r_iload C dX8_duel_185 rfl ?_
      refine r_iconst (1) C dX8_duel_187 rfl ?_
      refine r_icmp_ne 196 C dX8_duel_188 (by decide) (fun c_188 => ?_) (fun c_188 => ?_)
      · refine r_iload C dX8_duel_196 rfl ?_
        refine r_iconst (-1) C dX8_duel_198 rfl ?_
        refine r_icmp_ne 206 C dX8_duel_199 (by decide) (fun c_199 => ?_) (fun c_199 => ?_)
        · refine r_iload C dX8_duel_206 rfl ?_
          refine r_iret C F dX8_duel_208 ?_
          unfold vDuel
          rw [if_neg (not_not_intro hdu), if_neg (not_not_intro hzw), if_neg (not_not_intro hin), if_neg c_188, hxi, hyj, hzn, cl_nI (by omega), cl_nI (by omega), cl_nI (by omega), show 60 = k by omega]
          cases hq : dueK (aD A) (aU A) i j n k with
          | none => rw [hq] at c_199; exact absurd rfl c_199
          | some q => exact ⟨by first | rfl | (rw [hq]; rfl), (hS.Scr (by decide)).MA hA, (hS.Scr (by decide)).low⟩
        · refine r_iconst (1) C dX8_duel_202 rfl ?_
          refine r_goto 208 C dX8_duel_203 (by decide) ?_
          refine r_iret C F dX8_duel_208 ?_
          unfold vDuel
          rw [if_neg (not_not_intro hdu), if_neg (not_not_intro hzw), if_neg (not_not_intro hin), if_neg c_188, hxi, hyj, hzn, cl_nI (by omega), cl_nI (by omega), cl_nI (by omega), show 60 = k by omega]
          cases hq : dueK (aD A) (aU A) i j n k with
          | none => exact ⟨rfl, (hS.Scr (by decide)).MA hA, (hS.Scr (by decide)).low⟩
          | some q => rw [hq] at c_199; have := (dueK_le (aD A) (aU A) i j n k q hq).1; exact absurd c_199 (fun z => absurd (show (0 : Int32) ≤ nI q.1 from nI_pos' (by omega)) (by rw [show nI q.1 = -1 from z]; decide))
      · refine r_iload C dX8_duel_191 rfl ?_
        refine r_goto 208 C dX8_duel_193 (by decide) ?_
        refine r_iret C F dX8_duel_208 ?_
        unfold vDuel
        rw [if_neg (not_not_intro hdu), if_neg (not_not_intro hzw), if_neg (not_not_intro hin), if_pos c_188, hxi, hyj, hzn, cl_nI (by omega), cl_nI (by omega), cl_nI (by omega), show 60 = k by omega]
        exact ⟨rfl, (hS.Scr (by decide)).MA hA, (hS.Scr (by decide)).low⟩
    · rw [cLe (x := 60) (c := nI k) (i := 60) (n := k) (rfl) (rfl) (by omega) (by omega)] at c_78
      refine r_aload_n C dX8_duel_81 rfl ?_
      refine r_getR C dX8_duel_82 flX8_35 (rfl) rfl ?_
      refine r_iconst (0) C dX8_duel_85 rfl ?_
      refine r_aload_n C dX8_duel_86 rfl ?_
      refine r_getR C dX8_duel_87 flX8_38 (rfl) rfl ?_
      refine r_iconst (0) C dX8_duel_90 rfl ?_
      refine r_cSv C F dX8_duel_91 (s8_copy (i := 57) (j := 58) (a := 0) (b := 0) rfl rfl (by decide) (by decide) (by decide) (by decide) (by decide)) tw_887 m8_copy (by decide) rfl (Nat.le_of_ble_eq_true rfl) ?_
      have hS1 : df 58 h (upr g 58 (va_cpy (g 57) (g 58) 0 0 16)) := hS.row _ (by decide)
      have hm1 : MomR ((upr g 58 (va_cpy (g 57) (g 58) 0 0 16)) 58) (aU A) := by rw [upr_self]; exact cpy_row (by rw [hS 57 (by decide)]; exact b7)
      generalize upr g 58 (va_cpy (g 57) (g 58) 0 0 16) = g1 at hS1 hm1 ⊢
      refine r_aload_n C dX8_duel_94 rfl ?_
      refine r_aload_n C dX8_duel_95 rfl ?_
      refine r_getR C dX8_duel_96 flX8_38 (rfl) rfl ?_
      refine r_iload_n C dX8_duel_99 rfl ?_
      refine r_iload C dX8_duel_100 rfl ?_
      refine r_callV C F dX8_duel_102 (s8_tells (c := k) (hS1.MH (by decide) b5) rfl hm1 (okW_of a5) (by decide) hi (by omega) (by decide)) tw_948 m8_tells (rfl) rfl (by decide) rfl (Nat.le_of_ble_eq_true rfl) (fun v h2 hq => ?_)
      obtain ⟨rfl, f, rfl, hf⟩ := hq
      have hS2 : df 58 h (upr g1 58 f) := hS1.row _ (by decide)
      have hm2 : canB (aD A) (aU A) i k = true → MomR (upr g1 58 f 58) (tl (aD A) (aU A) i k) := fun q => by rw [upr_self]; exact hf q
      generalize upr g1 58 f = g2 at hS2 hm2 ⊢
      refine r_if_eq 179 C dX8_duel_105 (by decide) (fun c_105 => ?_) (fun c_105 => ?_)
      · rw [bz_eq0] at c_105
        refine r_inc (1) C dX8_duel_179 rfl (by decide) rfl rfl ?_
        refine r_goto 74 C dX8_duel_182 (by decide) ?_
        have hst : dueK (aD A) (aU A) i j n (k + 1) = dueK (aD A) (aU A) i j n k := if_neg c_105
        exact (ih (by omega) g2 hS2).sub ⟨rfl, rfl, rfl, rfl, rfl, (by rw [hst]; rfl), (by rw [hst]; rfl), by rw [nI_succ]; rfl, trivial⟩
      · rw [bz_ne0] at c_105
        refine r_aload_n C dX8_duel_108 rfl ?_
        refine r_getR C dX8_duel_109 flX8_38 (rfl) rfl ?_
        refine r_iconst (0) C dX8_duel_112 rfl ?_
        refine r_iald (0) C dX8_duel_113 (rfl) (rfl) (by decide) (by decide) ?_
        refine r_iload_n C dX8_duel_114 rfl ?_
        refine r_cSi C F dX8_duel_115 (s8_has) tw_879 m8_has (by decide) rfl (Nat.le_of_ble_eq_true rfl) ?_
        refine r_if_ne 125 C dX8_duel_118 (by decide) (fun c_118 => ?_) (fun c_118 => ?_)
        · rw [bz_ne0, (hm2 c_105).1, hasP_nI (by have := okW_lt okd (okW_tl (okW_of a5) i k); omega) (by omega)] at c_118
          refine r_iload_n C dX8_duel_125 rfl ?_
          refine r_iconst (1) C dX8_duel_126 rfl ?_
          refine r_icmp_ne 134 C dX8_duel_127 (by decide) (fun c_127 => ?_) (fun c_127 => ?_)
          · rw [cEq (x := nI n) (c := 1) (i := n) (n := 1) (rfl) (rfl) (by omega) (by omega)] at c_127
            refine r_aload_n C dX8_duel_134 rfl ?_
            refine r_aload_n C dX8_duel_135 rfl ?_
            refine r_getR C dX8_duel_136 flX8_38 (rfl) rfl ?_
            refine r_iload_n C dX8_duel_139 rfl ?_
            refine r_iload_n C dX8_duel_140 rfl ?_
            refine r_iload_n C dX8_duel_141 rfl ?_
            refine r_callV C F dX8_duel_142 (s8_nextOf (hS2.MH (by decide) b5) (hm2 c_105) (okW_tl (okW_of a5) i k) (by decide) hi hj hn) tw_956 m8_nextOf (rfl) rfl (by decide) rfl (Nat.le_of_ble_eq_true rfl) (fun v g3 hq => ?_)
            obtain ⟨rfl, hd3⟩ := hq
            have hS3 := hS2.tr hd3 (by decide)
            refine r_istore C dX8_duel_145 (by decide) rfl ?_
            refine r_iload C dX8_duel_147 rfl ?_
            refine r_iload C dX8_duel_149 rfl ?_
            refine r_icmp_le 159 C dX8_duel_151 (by decide) (fun c_151 => ?_) (fun c_151 => ?_)
            · refine r_iload C dX8_duel_159 rfl ?_
              refine r_istore C dX8_duel_161 (by decide) rfl ?_
              refine r_iload C dX8_duel_163 rfl ?_
              refine r_iload C dX8_duel_165 rfl ?_
              refine r_icmp_le 175 C dX8_duel_167 (by decide) (fun c_167 => ?_) (fun c_167 => ?_)
              · refine r_iload C dX8_duel_175 rfl ?_
                refine r_istore C dX8_duel_177 (by decide) rfl ?_
                refine r_inc (1) C dX8_duel_179 rfl (by decide) rfl rfl ?_
                refine r_goto 74 C dX8_duel_182 (by decide) ?_
                have hby : dueB (aD A) (aU A) i j n k = nexK (aD A) (tl (aD A) (aU A) i k) i j n 60 := by unfold dueB; rw [if_neg (by rw [c_118]; decide), if_neg c_127]
                have hbi : nI (nexK (aD A) (tl (aD A) (aU A) i k) i j n 60) = nI (dueB (aD A) (aU A) i j n k) := by rw [hby]
                have hst : dueK (aD A) (aU A) i j n (k + 1) = dueK (aD A) (aU A) i j n k := by
                  show (if canB (aD A) (aU A) i k = true then (match dueK (aD A) (aU A) i j n k with | none => some (dueB (aD A) (aU A) i j n k, k) | some q => if q.1 < dueB (aD A) (aU A) i j n k then some (dueB (aD A) (aU A) i j n k, k) else some q) else dueK (aD A) (aU A) i j n k) = _
                  rw [if_pos c_105]
                  rw [hbi] at c_151
                  cases hq : dueK (aD A) (aU A) i j n k with
                  | none => rw [hq] at c_151; exact absurd c_151 (Int32.not_le.mpr (Int32.lt_of_lt_of_le (show (-1 : Int32) < 0 by decide) (nI_pos' (by omega))))
                  | some q =>
                    rw [hq] at c_151
                    have := (dueK_le (aD A) (aU A) i j n k q hq).1
                    have c2 := (nI_leI (by omega) (by omega)).mp c_151
                    dsimp only
                    rw [if_neg (by omega)]
                exact (ih (by omega) g3 hS3).sub ⟨rfl, rfl, rfl, rfl, rfl, (by rw [hst]; rfl), (by rw [hst]; rfl), by rw [nI_succ]; rfl, trivial⟩
              · exact absurd c_151 c_167
            · refine r_iload C dX8_duel_154 rfl ?_
              refine r_goto 161 C dX8_duel_156 (by decide) ?_
              refine r_istore C dX8_duel_161 (by decide) rfl ?_
              refine r_iload C dX8_duel_163 rfl ?_
              refine r_iload C dX8_duel_165 rfl ?_
              refine r_icmp_le 175 C dX8_duel_167 (by decide) (fun c_167 => ?_) (fun c_167 => ?_)
              · exact absurd c_167 c_151
              · refine r_iload C dX8_duel_170 rfl ?_
                refine r_goto 177 C dX8_duel_172 (by decide) ?_
                refine r_istore C dX8_duel_177 (by decide) rfl ?_
                refine r_inc (1) C dX8_duel_179 rfl (by decide) rfl rfl ?_
                refine r_goto 74 C dX8_duel_182 (by decide) ?_
                have hby : dueB (aD A) (aU A) i j n k = nexK (aD A) (tl (aD A) (aU A) i k) i j n 60 := by unfold dueB; rw [if_neg (by rw [c_118]; decide), if_neg c_127]
                have hbi : nI (nexK (aD A) (tl (aD A) (aU A) i k) i j n 60) = nI (dueB (aD A) (aU A) i j n k) := by rw [hby]
                have hst : dueK (aD A) (aU A) i j n (k + 1) = some (dueB (aD A) (aU A) i j n k, k) := by
                  show (if canB (aD A) (aU A) i k = true then (match dueK (aD A) (aU A) i j n k with | none => some (dueB (aD A) (aU A) i j n k, k) | some q => if q.1 < dueB (aD A) (aU A) i j n k then some (dueB (aD A) (aU A) i j n k, k) else some q) else dueK (aD A) (aU A) i j n k) = _
                  rw [if_pos c_105]
                  rw [hbi] at c_151
                  cases hq : dueK (aD A) (aU A) i j n k with
                  | none => rfl
                  | some q =>
                    rw [hq] at c_151
                    have := (dueK_le (aD A) (aU A) i j n k q hq).1
                    have c2 : ¬ dueB (aD A) (aU A) i j n k ≤ q.1 := fun z => c_151 ((nI_leI (by omega) (by omega)).mpr z)
                    dsimp only
                    rw [if_pos (by omega)]
                exact (ih (by omega) g3 hS3).sub ⟨rfl, rfl, rfl, rfl, rfl, (by rw [hst]; show _ = some (Value.int (nI (dueB (aD A) (aU A) i j n k))); rw [← hbi]; rfl), (by rw [hst]; rfl), by rw [nI_succ]; rfl, trivial⟩
          · rw [cEq (x := nI n) (c := 1) (i := n) (n := 1) (rfl) (rfl) (by omega) (by omega)] at c_127
            refine r_iconst (1) C dX8_duel_130 rfl ?_
            refine r_goto 145 C dX8_duel_131 (by decide) ?_
            refine r_istore C dX8_duel_145 (by decide) rfl ?_
            refine r_iload C dX8_duel_147 rfl ?_
            refine r_iload C dX8_duel_149 rfl ?_
            refine r_icmp_le 159 C dX8_duel_151 (by decide) (fun c_151 => ?_) (fun c_151 => ?_)
            · refine r_iload C dX8_duel_159 rfl ?_
              refine r_istore C dX8_duel_161 (by decide) rfl ?_
              refine r_iload C dX8_duel_163 rfl ?_
              refine r_iload C dX8_duel_165 rfl ?_
              refine r_icmp_le 175 C dX8_duel_167 (by decide) (fun c_167 => ?_) (fun c_167 => ?_)
              · refine r_iload C dX8_duel_175 rfl ?_
                refine r_istore C dX8_duel_177 (by decide) rfl ?_
                refine r_inc (1) C dX8_duel_179 rfl (by decide) rfl rfl ?_
                refine r_goto 74 C dX8_duel_182 (by decide) ?_
                have hby : dueB (aD A) (aU A) i j n k = 1 := by unfold dueB; rw [if_neg (by rw [c_118]; decide), if_pos c_127]
                have hbi : (1 : Int32) = nI (dueB (aD A) (aU A) i j n k) := by rw [hby]; rfl
                have hst : dueK (aD A) (aU A) i j n (k + 1) = dueK (aD A) (aU A) i j n k := by
                  show (if canB (aD A) (aU A) i k = true then (match dueK (aD A) (aU A) i j n k with | none => some (dueB (aD A) (aU A) i j n k, k) | some q => if q.1 < dueB (aD A) (aU A) i j n k then some (dueB (aD A) (aU A) i j n k, k) else some q) else dueK (aD A) (aU A) i j n k) = _
                  rw [if_pos c_105]
                  rw [hbi] at c_151
                  cases hq : dueK (aD A) (aU A) i j n k with
                  | none => rw [hq] at c_151; exact absurd c_151 (Int32.not_le.mpr (Int32.lt_of_lt_of_le (show (-1 : Int32) < 0 by decide) (nI_pos' (by omega))))
                  | some q =>
                    rw [hq] at c_151
                    have := (dueK_le (aD A) (aU A) i j n k q hq).1
                    have c2 := (nI_leI (by omega) (by omega)).mp c_151
                    dsimp only
                    rw [if_neg (by omega)]
                exact (ih (by omega) g2 hS2).sub ⟨rfl, rfl, rfl, rfl, rfl, (by rw [hst]; rfl), (by rw [hst]; rfl), by rw [nI_succ]; rfl, trivial⟩
              · exact absurd c_151 c_167
            · refine r_iload C dX8_duel_154 rfl ?_
              refine r_goto 161 C dX8_duel_156 (by decide) ?_
              refine r_istore C dX8_duel_161 (by decide) rfl ?_
              refine r_iload C dX8_duel_163 rfl ?_
              refine r_iload C dX8_duel_165 rfl ?_
              refine r_icmp_le 175 C dX8_duel_167 (by decide) (fun c_167 => ?_) (fun c_167 => ?_)
              · exact absurd c_167 c_151
              · refine r_iload C dX8_duel_170 rfl ?_
                refine r_goto 177 C dX8_duel_172 (by decide) ?_
                refine r_istore C dX8_duel_177 (by decide) rfl ?_
                refine r_inc (1) C dX8_duel_179 rfl (by decide) rfl rfl ?_
                refine r_goto 74 C dX8_duel_182 (by decide) ?_
                have hby : dueB (aD A) (aU A) i j n k = 1 := by unfold dueB; rw [if_neg (by rw [c_118]; decide), if_pos c_127]
                have hbi : (1 : Int32) = nI (dueB (aD A) (aU A) i j n k) := by rw [hby]; rfl
                have hst : dueK (aD A) (aU A) i j n (k + 1) = some (dueB (aD A) (aU A) i j n k, k) := by
                  show (if canB (aD A) (aU A) i k = true then (match dueK (aD A) (aU A) i j n k with | none => some (dueB (aD A) (aU A) i j n k, k) | some q => if q.1 < dueB (aD A) (aU A) i j n k then some (dueB (aD A) (aU A) i j n k, k) else some q) else dueK (aD A) (aU A) i j n k) = _
                  rw [if_pos c_105]
                  rw [hbi] at c_151
                  cases hq : dueK (aD A) (aU A) i j n k with
                  | none => rfl
                  | some q =>
                    rw [hq] at c_151
                    have := (dueK_le (aD A) (aU A) i j n k q hq).1
                    have c2 : ¬ dueB (aD A) (aU A) i j n k ≤ q.1 := fun z => c_151 ((nI_leI (by omega) (by omega)).mpr z)
                    dsimp only
                    rw [if_pos (by omega)]
                exact (ih (by omega) g2 hS2).sub ⟨rfl, rfl, rfl, rfl, rfl, (by rw [hst]; show _ = some (Value.int (nI (dueB (aD A) (aU A) i j n k))); rw [← hbi]; rfl), (by rw [hst]; rfl), by rw [nI_succ]; rfl, trivial⟩
        · rw [bz_eq0, (hm2 c_105).1, hasP_nI (by have := okW_lt okd (okW_tl (okW_of a5) i k); omega) (by omega), Bool.not_eq_true] at c_118
          refine r_iconst (2) C dX8_duel_121 rfl ?_
          refine r_goto 145 C dX8_duel_122 (by decide) ?_
          refine r_istore C dX8_duel_145 (by decide) rfl ?_
          refine r_iload C dX8_duel_147 rfl ?_
          refine r_iload C dX8_duel_149 rfl ?_
          refine r_icmp_le 159 C dX8_duel_151 (by decide) (fun c_151 => ?_) (fun c_151 => ?_)
          · refine r_iload C dX8_duel_159 rfl ?_
            refine r_istore C dX8_duel_161 (by decide) rfl ?_
            refine r_iload C dX8_duel_163 rfl ?_
            refine r_iload C dX8_duel_165 rfl ?_
            refine r_icmp_le 175 C dX8_duel_167 (by decide) (fun c_167 => ?_) (fun c_167 => ?_)
            · refine r_iload C dX8_duel_175 rfl ?_
              refine r_istore C dX8_duel_177 (by decide) rfl ?_
              refine r_inc (1) C dX8_duel_179 rfl (by decide) rfl rfl ?_
              refine r_goto 74 C dX8_duel_182 (by decide) ?_
              have hby : dueB (aD A) (aU A) i j n k = 2 := if_pos c_118
              have hbi : (2 : Int32) = nI (dueB (aD A) (aU A) i j n k) := by rw [hby]; rfl
              have hst : dueK (aD A) (aU A) i j n (k + 1) = dueK (aD A) (aU A) i j n k := by
                show (if canB (aD A) (aU A) i k = true then (match dueK (aD A) (aU A) i j n k with | none => some (dueB (aD A) (aU A) i j n k, k) | some q => if q.1 < dueB (aD A) (aU A) i j n k then some (dueB (aD A) (aU A) i j n k, k) else some q) else dueK (aD A) (aU A) i j n k) = _
                rw [if_pos c_105]
                rw [hbi] at c_151
                cases hq : dueK (aD A) (aU A) i j n k with
                | none => rw [hq] at c_151; exact absurd c_151 (Int32.not_le.mpr (Int32.lt_of_lt_of_le (show (-1 : Int32) < 0 by decide) (nI_pos' (by omega))))
                | some q =>
                  rw [hq] at c_151
                  have := (dueK_le (aD A) (aU A) i j n k q hq).1
                  have c2 := (nI_leI (by omega) (by omega)).mp c_151
                  dsimp only
                  rw [if_neg (by omega)]
              exact (ih (by omega) g2 hS2).sub ⟨rfl, rfl, rfl, rfl, rfl, (by rw [hst]; rfl), (by rw [hst]; rfl), by rw [nI_succ]; rfl, trivial⟩
            · exact absurd c_151 c_167
          · refine r_iload C dX8_duel_154 rfl ?_
            refine r_goto 161 C dX8_duel_156 (by decide) ?_
            refine r_istore C dX8_duel_161 (by decide) rfl ?_
            refine r_iload C dX8_duel_163 rfl ?_
            refine r_iload C dX8_duel_165 rfl ?_
            refine r_icmp_le 175 C dX8_duel_167 (by decide) (fun c_167 => ?_) (fun c_167 => ?_)
            · exact absurd c_167 c_151
            · refine r_iload C dX8_duel_170 rfl ?_
              refine r_goto 177 C dX8_duel_172 (by decide) ?_
              refine r_istore C dX8_duel_177 (by decide) rfl ?_
              refine r_inc (1) C dX8_duel_179 rfl (by decide) rfl rfl ?_
              refine r_goto 74 C dX8_duel_182 (by decide) ?_
              have hby : dueB (aD A) (aU A) i j n k = 2 := if_pos c_118
              have hbi : (2 : Int32) = nI (dueB (aD A) (aU A) i j n k) := by rw [hby]; rfl
              have hst : dueK (aD A) (aU A) i j n (k + 1) = some (dueB (aD A) (aU A) i j n k, k) := by
                show (if canB (aD A) (aU A) i k = true then (match dueK (aD A) (aU A) i j n k with | none => some (dueB (aD A) (aU A) i j n k, k) | some q => if q.1 < dueB (aD A) (aU A) i j n k then some (dueB (aD A) (aU A) i j n k, k) else some q) else dueK (aD A) (aU A) i j n k) = _
                rw [if_pos c_105]
                rw [hbi] at c_151
                cases hq : dueK (aD A) (aU A) i j n k with
                | none => rfl
                | some q =>
                  rw [hq] at c_151
                  have := (dueK_le (aD A) (aU A) i j n k q hq).1
                  have c2 : ¬ dueB (aD A) (aU A) i j n k ≤ q.1 := fun z => c_151 ((nI_leI (by omega) (by omega)).mpr z)
                  dsimp only
                  rw [if_pos (by omega)]
              exact (ih (by omega) g2 hS2).sub ⟨rfl, rfl, rfl, rfl, rfl, (by rw [hst]; show _ = some (Value.int (nI (dueB (aD A) (aU A) i j n k))); rw [← hbi]; rfl), (by rw [hst]; rfl), by rw [nI_succ]; rfl, trivial⟩
  refine r_aload_n C dX8_duel_0 rfl ?_
  refine r_iload_n C dX8_duel_1 rfl ?_
  refine r_cVi C F dX8_duel_2 (s8_isLord) tw_850 m8_isLord (rfl) rfl (by decide) rfl (Nat.le_of_ble_eq_true rfl) ?_
  refine r_if_eq 21 C dX8_duel_5 (by decide) (fun c_5 => ?_) (fun c_5 => ?_)
  · rw [bz_eq0, e16] at c_5
    refine r_ldc C dX8_duel_21 tw_854 ?_
    exact r_iret C F dX8_duel_23 (by unfold vDuel; rw [if_pos (fun q => c_5 q.1)]; exact QM_same hA)
  · rw [bz_ne0, e16] at c_5
    refine r_aload_n C dX8_duel_8 rfl ?_
    refine r_iload_n C dX8_duel_9 rfl ?_
    refine r_cVi C F dX8_duel_10 (s8_isLord) tw_850 m8_isLord (rfl) rfl (by decide) rfl (Nat.le_of_ble_eq_true rfl) ?_
    refine r_if_eq 21 C dX8_duel_13 (by decide) (fun c_13 => ?_) (fun c_13 => ?_)
    · rw [bz_eq0, e16] at c_13
      refine r_ldc C dX8_duel_21 tw_854 ?_
      exact r_iret C F dX8_duel_23 (by unfold vDuel; rw [if_pos (fun q => c_13 q.2.1)]; exact QM_same hA)
    · rw [bz_ne0, e16] at c_13
      refine r_iload_n C dX8_duel_16 rfl ?_
      refine r_iload_n C dX8_duel_17 rfl ?_
      refine r_icmp_ne 24 C dX8_duel_18 (by decide) (fun c_18 => ?_) (fun c_18 => ?_)
      · have hdu : duP A x y := ⟨c_5, c_13, c_18⟩
        refine r_iload_n C dX8_duel_24 rfl ?_
        refine r_iconst (1) C dX8_duel_25 rfl ?_
        refine r_iconst (3) C dX8_duel_26 rfl ?_
        refine r_cSi C F dX8_duel_27 (s8_in) tw_790 m8_in (by decide) rfl (Nat.le_of_ble_eq_true rfl) ?_
        refine r_if_eq 43 C dX8_duel_30 (by decide) (fun c_30 => ?_) (fun c_30 => ?_)
        · rw [bz_eq0] at c_30
          refine r_ldc C dX8_duel_43 tw_793 ?_
          exact r_iret C F dX8_duel_45 (by unfold vDuel; rw [if_neg (not_not_intro hdu), if_pos (fun q => c_30 q.1)]; exact QM_same hA)
        · rw [bz_ne0] at c_30
          refine r_iload C dX8_duel_33 rfl ?_
          refine r_iconst (0) C dX8_duel_35 rfl ?_
          refine r_iconst (1) C dX8_duel_36 rfl ?_
          refine r_cSi C F dX8_duel_37 (s8_in) tw_790 m8_in (by decide) rfl (Nat.le_of_ble_eq_true rfl) ?_
          refine r_if_ne 46 C dX8_duel_40 (by decide) (fun c_40 => ?_) (fun c_40 => ?_)
          · rw [bz_ne0] at c_40
            refine r_aload_n C dX8_duel_46 rfl ?_
            refine r_iload_n C dX8_duel_47 rfl ?_
            refine r_cVi C F dX8_duel_48 (s8_isIn) tw_875 m8_isIn (rfl) rfl (by decide) rfl (Nat.le_of_ble_eq_true rfl) ?_
            refine r_if_eq 62 C dX8_duel_51 (by decide) (fun c_51 => ?_) (fun c_51 => ?_)
            · rw [bz_eq0, b7.1] at c_51
              refine r_ldc C dX8_duel_62 tw_882 ?_
              exact r_iret C F dX8_duel_64 (by unfold vDuel; rw [if_neg (not_not_intro hdu), if_neg (not_not_intro ⟨c_30, c_40⟩), if_pos (fun q => c_51 q.1)]; exact QM_same hA)
            · rw [bz_ne0, b7.1] at c_51
              refine r_aload_n C dX8_duel_54 rfl ?_
              refine r_iload_n C dX8_duel_55 rfl ?_
              refine r_cVi C F dX8_duel_56 (s8_isIn) tw_875 m8_isIn (rfl) rfl (by decide) rfl (Nat.le_of_ble_eq_true rfl) ?_
              refine r_if_ne 65 C dX8_duel_59 (by decide) (fun c_59 => ?_) (fun c_59 => ?_)
              · rw [bz_ne0, b7.1] at c_59
                refine r_iconst (-1) C dX8_duel_65 rfl ?_
                refine r_istore C dX8_duel_66 (by decide) rfl ?_
                refine r_iconst (-1) C dX8_duel_68 rfl ?_
                refine r_istore C dX8_duel_69 (by decide) rfl ?_
                refine r_iconst (0) C dX8_duel_71 rfl ?_
                refine r_istore C dX8_duel_72 (by decide) rfl ?_
                obtain ⟨i, hi, hxi⟩ := (inP_lord rfl o1).mp c_5
                obtain ⟨j, hj, hyj⟩ := (inP_lord rfl o1).mp c_13
                obtain ⟨n, hn, hzn⟩ := inP_of (n := 3) rfl (by decide) ⟨Int32.le_trans (by decide) c_30.1, c_30.2⟩
                exact (L i j n (by omega) (by omega) hn hdu ⟨c_30, c_40⟩ ⟨c_51, c_59⟩ hxi hyj hzn 0 (by omega) h (df.rf 58)).sub ⟨rfl, by rw [← hxi]; rfl, by rw [← hyj]; rfl, by rw [← hzn]; rfl, rfl, rfl, rfl, rfl, trivial⟩
              · rw [bz_eq0, b7.1] at c_59
                refine r_ldc C dX8_duel_62 tw_882 ?_
                exact r_iret C F dX8_duel_64 (by unfold vDuel; rw [if_neg (not_not_intro hdu), if_neg (not_not_intro ⟨c_30, c_40⟩), if_pos (fun q => c_59 q.2)]; exact QM_same hA)
          · rw [bz_eq0] at c_40
            refine r_ldc C dX8_duel_43 tw_793 ?_
            exact r_iret C F dX8_duel_45 (by unfold vDuel; rw [if_neg (not_not_intro hdu), if_pos (fun q => c_40 q.2)]; exact QM_same hA)
      · refine r_ldc C dX8_duel_21 tw_854 ?_
        exact r_iret C F dX8_duel_23 (by unfold vDuel; rw [if_pos (fun q => q.2.2 c_18)]; exact QM_same hA)
