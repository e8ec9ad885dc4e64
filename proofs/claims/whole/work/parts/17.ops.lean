variable {l : Launch} {E : Ev} {h : Hp}
/-! the calls in the abstract -/
abbrev withU (A : At) (u : Mom) (B : List Mom) : At := (aX A, aF A, aH A, aD A, aS A, u, B, aI A, aG A, aE A)
abbrev thingA (D : HDt) (x y z : Int32) : Prop := inP x 0 (nI (dL D) - 1) ∧ inP y 0 (nI (dJ D) - 1) ∧ inP z 0 (nI (dL D) - 1) ∧ ¬ x = z
abbrev cl (x : Int32) : Nat := x.toNatClampNeg
theorem cl_nI {n : Nat} (q : n < 2147483648) : cl (nI n) = n := nI_clamp q
noncomputable def opTell (A : At) (x y z : Int32) : Int32 × At := if ¬ thingA (aD A) x y z then (-1000000001, A) else if ¬ (hasP (nI (mI (aU A))) x ∧ hasP (nI (mI (aU A))) z) then (-1000000003, A) else if 9000 < mT (aU A) then (-1000000004, A) else (nI (falF (aD A) (mI (aU A)) (mN (aU A)) (mM (aU A)) (cl x) (cl y) (cl z)), withU A (tellA (aD A) (aU A) (cl x) (cl y) (cl z)) (pushA (aB A) (aU A)))
def nightOp (A : At) : At := withU A (nightA (aU A)) (pushA (aB A) (aU A))
def nightsA (A : At) : Nat → At
  | 0 => A
  | k + 1 => nightOp (nightsA A k)
def opNight (A : At) (x : Int32) : Int32 × At := if ¬ inP x 1 20 then (-1000000002, A) else if aH A = false then (-1000000003, A) else if 900 < mN (aU A) then (-1000000004, A) else (nI (mN (aU A) + cl x), nightsA A (cl x))
theorem noteM_row (h : Hp) (b : Nat) {a : Nat} (e1 : a ≠ 61) (e2 : a ≠ 49) : noteM h b a = h a := by
  unfold noteM
  split
  · rw [up_row _ _ _ _ e2, upr_row _ _ _ e1]
  · rw [up_row _ _ _ _ e2, upr_row _ _ _ e1]
theorem noteM_49 (h : Hp) (b : Nat) {k : Nat} (e : k ≠ 26) : noteM h b 49 k = h 49 k := by
  unfold noteM
  split
  · rw [up_off _ _ _ _ e, upr_row _ _ _ (by decide)]
  · rw [up_off _ _ _ _ e, upr_row _ _ _ (by decide)]
theorem noteM_26 (h : Hp) (b : Nat) : noteM h b 49 26 = nI (if b = 30 then 30 else b + 1) := by
  unfold noteM
  split
  · rw [up_self]
  · rw [up_self]
theorem note_rows {B : List Mom} {u : Mom} (hB : B.length ≤ 30) (hu : MomR (h 57) u) (hr : ∀ r v, B[r]? = some v → MomR (fun k => h 61 (16 * r + k)) v) : ∀ r v, (pushA B u)[r]? = some v → MomR (fun k => noteM h B.length 61 (16 * r + k)) v := by
  intro r v q
  have hu0 : MomR (fun k => h 57 (0 + k)) u := MomR_congr hu (fun k _ => by rw [Nat.zero_add])
  rcases push_get hB u q with ⟨hl, c⟩ | ⟨hl, c⟩
  · have e : noteM h B.length 61 = va_cpy (h 57) (shf (h 61) 464) 0 464 16 := by
      unfold noteM
      rw [if_pos hl, up_row _ _ _ _ (by decide), upr_self]
    rw [e]
    rcases c with ⟨c1, c2⟩ | ⟨rfl, rfl⟩
    · refine MomR_congr (hr (r + 1) v c2) (fun k hk => ?_)
      unfold va_cpy shf
      rw [if_neg (by omega), if_pos (by omega), show 16 * r + k + 16 = 16 * (r + 1) + k by omega]
    · exact MomR_cpy (b := 464) hu0
  · have e : noteM h B.length 61 = va_cpy (h 57) (h 61) 0 (16 * B.length) 16 := by
      unfold noteM
      rw [if_neg (by omega), up_row _ _ _ _ (by decide), upr_self]
    rw [e]
    rcases c with ⟨c1, c2⟩ | ⟨rfl, rfl⟩
    · refine MomR_congr (hr r v c2) (fun k hk => ?_)
      unfold va_cpy
      rw [if_neg (by omega)]
    · exact MomR_cpy (b := 16 * B.length) hu0
/-- what the other parts of A rest on -/
def agr (h g : Hp) : Prop := g 50 = h 50 ∧ g 54 = h 54 ∧ g 55 = h 55 ∧ g 56 = h 56 ∧ g 62 = h 62 ∧ g 63 = h 63 ∧ g 64 = h 64 ∧ g 65 = h 65 ∧ g 66 = h 66 ∧ g 49 0 = h 49 0 ∧ g 49 7 = h 49 7 ∧ g 49 15 = h 49 15 ∧ g 49 16 = h 49 16 ∧ g 49 17 = h 49 17 ∧ g 49 30 = h 49 30 ∧ g 49 31 = h 49 31 ∧ g 49 33 = h 49 33
theorem MA_mom {g : Hp} {A : At} {u : Mom} {B : List Mom} (hA : MA h A) (e : agr h g) (ok : okM (aD A) u) (hu : MomR (g 57) u) (hl : B.length ≤ 30) (hok : ∀ v ∈ B, okM (aD A) v) (h26 : g 49 26 = nI B.length) (hr : ∀ r v, B[r]? = some v → MomR (fun k => g 61 (16 * r + k)) v) : MA g (withU A u B) := by
  obtain ⟨⟨a1, a2, a3, a4, a5, a6, a7, a8, a9, a10, a11, a12⟩, ⟨b1, b2⟩, b3, b4, b5, b6, b7, ⟨b8, b9⟩, b10, ⟨b11, b12⟩, b13, b14⟩ := hA
  obtain ⟨e1, e2, e3, e4, e5, e6, e7, e8, e9, f1, f2, f3, f4, f5, f6, f7, f8⟩ := e
  refine ⟨⟨a1, a2, a3, a4, ok, hl, hok, a8, a9, a10, a11, a12⟩, ⟨by rw [f1]; exact b1, by rw [e1]; exact b2⟩, by rw [f2]; exact b3, by rw [f3]; exact b4, ?_, by rw [f6]; exact b6, hu, ⟨h26, hr⟩, ?_, ⟨by rw [f7]; exact b11, by rw [e8]; exact b12⟩, ⟨by rw [f8]; exact b13, by rw [e9]; exact b14⟩⟩
  · unfold MH
    rw [f4, f5, e2, e3, e4]
    exact b5
  · rw [e5, e6, e7]
    exact b10
theorem MA_note {A : At} {u : Mom} {f : Nat → Int32} (hA : MA h A) (ok : okM (aD A) u) (hu : MomR f u) : MA (upr (noteM h (aB A).length) 57 f) (withU A u (pushA (aB A) (aU A))) := by
  obtain ⟨⟨a1, a2, a3, a4, a5, a6, a7, a8, a9, a10, a11, a12⟩, b1, b3, b4, b5, b6, b7, ⟨b8, b9⟩, b10⟩ := id hA
  refine MA_mom hA ?_ ok ?_ ?_ ?_ ?_ ?_
  · have r : ∀ a, a ≠ 57 → a ≠ 61 → a ≠ 49 → upr (noteM h (aB A).length) 57 f a = h a := fun a c1 c2 c3 => by rw [upr_row _ _ _ c1, noteM_row h _ c2 c3]
    have s : ∀ k, k ≠ 26 → upr (noteM h (aB A).length) 57 f 49 k = h 49 k := fun k c => by rw [upr_row _ _ _ (by decide), noteM_49 h _ c]
    exact ⟨r 50 (by decide) (by decide) (by decide), r 54 (by decide) (by decide) (by decide), r 55 (by decide) (by decide) (by decide), r 56 (by decide) (by decide) (by decide), r 62 (by decide) (by decide) (by decide), r 63 (by decide) (by decide) (by decide), r 64 (by decide) (by decide) (by decide), r 65 (by decide) (by decide) (by decide), r 66 (by decide) (by decide) (by decide), s 0 (by decide), s 7 (by decide), s 15 (by decide), s 16 (by decide), s 17 (by decide), s 30 (by decide), s 31 (by decide), s 33 (by decide)⟩
  · rw [upr_self]; exact hu
  · rw [push_len a6]; split <;> omega
  · intro v q
    rcases push_mem q with c | rfl
    · exact a7 v c
    · exact a5
  · rw [upr_row _ _ _ (by decide), noteM_26, push_len a6]
  · rw [upr_row _ _ _ (by decide)]
    exact note_rows a6 b7 b9
theorem note_low (h : Hp) (b : Nat) (f : Nat → Int32) : ∀ a, a < 49 → upr (noteM h b) 57 f a = h a := fun a c => by rw [upr_row _ _ _ (by omega), noteM_row h _ (by omega) (by omega)]
theorem MH_note {D : HDt} (q : MH h D) (b : Nat) : MH (noteM h b) D := by
  unfold MH
  rw [noteM_49 h b (by decide), noteM_49 h b (by decide), noteM_row h b (by decide) (by decide), noteM_row h b (by decide) (by decide), noteM_row h b (by decide) (by decide)]
  exact q
set_option maxHeartbeats 4000000 in
theorem s8_tell {A : At} {x y z : Int32} (hA : MA h A) : Sp l E SHP 4 M8_tell [.ref (E.1 + 49), .int x, .int y, .int z] h (QM h (opTell A x y z)) := by
  refine Sp.of (by decide) (Nat.le_of_ble_eq_true rfl) (fun X C F => ?_)
  have C : Ok X E RX8 cX8_tell 4 := C
  have F : Fn X l E SHP 4 (some FieldType.int) (QM h (opTell A x y z)) := F
  show G X E SHP (0, 0) 0 [(0, .ref (E.1 + 49)), (1, .int x), (2, .int y), (3, .int z)] [] h
  obtain ⟨⟨a1, a2, a3, a4, a5, a6, a7, a8, a9, a10, a11, a12⟩, ⟨b1, b2⟩, b3, b4, b5, b6, b7, ⟨b8, b9⟩, b10, ⟨b11, b12⟩, b13, b14⟩ := id hA
  obtain ⟨okd, e16, e17, e540, e541, eL, eJ⟩ := id b5
  obtain ⟨o1, o2, o3, o4, o5, o6⟩ := id okd
  have p6 : 2 ^ dL (aD A) ≤ 64 := Nat.pow_le_pow_right (n := 2) (by decide) o1
  obtain ⟨k0, k1, k2, k3, k4, k5⟩ := id a5
  refine r_aload_n C dX8_tell_0 rfl ?_
  refine r_iload_n C dX8_tell_1 rfl ?_
  refine r_cVi C F dX8_tell_2 (s8_isLord) tw_850 m8_isLord (rfl) rfl (by decide) rfl (Nat.le_of_ble_eq_true rfl) ?_
  refine r_if_eq 29 C dX8_tell_5 (by decide) (fun c_5 => ?_) (fun c_5 => ?_)
  · rw [bz_eq0, e16] at c_5
    refine r_ldc C dX8_tell_29 tw_854 ?_
    exact r_iret C F dX8_tell_31 (by unfold opTell; rw [if_pos (fun q => c_5 q.1)]; exact ⟨rfl, hA, fun _ _ => rfl⟩)
  · rw [bz_ne0, e16] at c_5
    refine r_aload_n C dX8_tell_8 rfl ?_
    refine r_iload_n C dX8_tell_9 rfl ?_
    refine r_cVi C F dX8_tell_10 (s8_isJoke) tw_863 m8_isJoke (rfl) rfl (by decide) rfl (Nat.le_of_ble_eq_true rfl) ?_
    refine r_if_eq 29 C dX8_tell_13 (by decide) (fun c_13 => ?_) (fun c_13 => ?_)
    · rw [bz_eq0, e17] at c_13
      refine r_ldc C dX8_tell_29 tw_854 ?_
      exact r_iret C F dX8_tell_31 (by unfold opTell; rw [if_pos (fun q => c_13 q.2.1)]; exact ⟨rfl, hA, fun _ _ => rfl⟩)
    · rw [bz_ne0, e17] at c_13
      refine r_aload_n C dX8_tell_16 rfl ?_
      refine r_iload_n C dX8_tell_17 rfl ?_
      refine r_cVi C F dX8_tell_18 (s8_isLord) tw_850 m8_isLord (rfl) rfl (by decide) rfl (Nat.le_of_ble_eq_true rfl) ?_
      refine r_if_eq 29 C dX8_tell_21 (by decide) (fun c_21 => ?_) (fun c_21 => ?_)
      · rw [bz_eq0, e16] at c_21
        refine r_ldc C dX8_tell_29 tw_854 ?_
        exact r_iret C F dX8_tell_31 (by unfold opTell; rw [if_pos (fun q => c_21 q.2.2.1)]; exact ⟨rfl, hA, fun _ _ => rfl⟩)
      · rw [bz_ne0, e16] at c_21
        refine r_iload_n C dX8_tell_24 rfl ?_
        refine r_iload_n C dX8_tell_25 rfl ?_
        refine r_icmp_ne 32 C dX8_tell_26 (by decide) (fun c_26 => ?_) (fun c_26 => ?_)
        · have ht : thingA (aD A) x y z := ⟨c_5, c_13, c_21, c_26⟩
          have ht0 := ht
          obtain ⟨i, hi, rfl⟩ := (inP_lord rfl o1).mp c_5
          obtain ⟨j, hj, rfl⟩ := (inP_lord rfl o2).mp c_13
          obtain ⟨k, hk, rfl⟩ := (inP_lord rfl o1).mp c_21
          refine r_aload_n C dX8_tell_32 rfl ?_
          refine r_iload_n C dX8_tell_33 rfl ?_
          refine r_cVi C F dX8_tell_34 (s8_isIn) tw_875 m8_isIn (rfl) rfl (by decide) rfl (Nat.le_of_ble_eq_true rfl) ?_
          refine r_if_eq 48 C dX8_tell_37 (by decide) (fun c_37 => ?_) (fun c_37 => ?_)
          · rw [bz_eq0, b7.1] at c_37
            refine r_ldc C dX8_tell_48 tw_882 ?_
            exact r_iret C F dX8_tell_50 (by unfold opTell; rw [if_neg (not_not_intro ht0), if_pos (fun q => c_37 q.1)]; exact ⟨rfl, hA, fun _ _ => rfl⟩)
          · rw [bz_ne0, b7.1] at c_37
            refine r_aload_n C dX8_tell_40 rfl ?_
            refine r_iload_n C dX8_tell_41 rfl ?_
            refine r_cVi C F dX8_tell_42 (s8_isIn) tw_875 m8_isIn (rfl) rfl (by decide) rfl (Nat.le_of_ble_eq_true rfl) ?_
            refine r_if_ne 51 C dX8_tell_45 (by decide) (fun c_45 => ?_) (fun c_45 => ?_)
            · rw [bz_ne0, b7.1] at c_45
              refine r_aload_n C dX8_tell_51 rfl ?_
              refine r_getR C dX8_tell_52 flX8_35 (rfl) rfl ?_
              refine r_bipush (9) C dX8_tell_55 rfl ?_
              refine r_iald (9) C dX8_tell_57 (rfl) (rfl) (by decide) (by decide) ?_
              refine r_sipush (9000) C dX8_tell_58 rfl ?_
              refine r_icmp_le 67 C dX8_tell_61 (by decide) (fun c_61 => ?_) (fun c_61 => ?_)
              · rw [cLe (x := h 57 9) (c := 9000) (i := mT (aU A)) (n := 9000) (b7.2.2.2.1) (rfl) (by omega) (by omega)] at c_61
                have hin : hasP (nI (mI (aU A))) (nI i) ∧ hasP (nI (mI (aU A))) (nI k) := ⟨c_37, c_45⟩
                have hR := RW_of (h := noteM h (aB A).length) (u := aU A) (a := 57) rfl (by rw [noteM_row h _ (by decide) (by decide)]; exact b7) a5 okd
                refine r_aload_n C dX8_tell_67 rfl ?_
                refine r_cVv C F dX8_tell_68 (s8_note b8 a6) tw_883 m8_note (rfl) rfl (by decide) rfl (Nat.le_of_ble_eq_true rfl) ?_
                refine r_aload_n C dX8_tell_71 rfl ?_
                refine r_aload_n C dX8_tell_72 rfl ?_
                refine r_getR C dX8_tell_73 flX8_35 (rfl) rfl ?_
                refine r_iload_n C dX8_tell_76 rfl ?_
                refine r_iload_n C dX8_tell_77 rfl ?_
                refine r_iload_n C dX8_tell_78 rfl ?_
                refine r_cVv C F dX8_tell_79 (s8_tellOn (i := i) (j := j) (b := k) (MH_note b5 _) hR (by omega) hj (by omega) (by decide)) tw_890 m8_tellOn (rfl) rfl (by decide) rfl (Nat.le_of_ble_eq_true rfl) ?_
                refine r_aload_n C dX8_tell_82 rfl ?_
                refine r_getR C dX8_tell_83 flX8_35 (rfl) rfl ?_
                refine r_bipush (7) C dX8_tell_86 rfl ?_
                refine r_iald (7) C dX8_tell_88 (rfl) (rfl) (by decide) (by decide) ?_
                refine r_iret C F dX8_tell_89 ?_
                unfold opTell
                rw [if_neg (not_not_intro ht0), if_neg (not_not_intro hin), if_neg (by omega), cl_nI (by omega), cl_nI (by omega), cl_nI (by omega)]
                refine ⟨?_, ?_, note_low h _ _⟩
                · rw [upr_self]
                  show some (Value.int (telK _ _ _ j _ 7)) = _
                  unfold telK
                  rw [if_neg (by omega), if_neg (by omega), if_neg (by omega), if_pos rfl]
                · have e57 : noteM h (aB A).length 57 = h 57 := noteM_row h _ (by decide) (by decide)
                  rw [e57]
                  exact MA_note hA (okM_tell okd a5 (by omega) i j k hj) (MomR_tell okd b7 i j k hj)
              · rw [cLe (x := h 57 9) (c := 9000) (i := mT (aU A)) (n := 9000) (b7.2.2.2.1) (rfl) (by omega) (by omega)] at c_61
                refine r_ldc C dX8_tell_64 tw_794 ?_
                exact r_iret C F dX8_tell_66 (by unfold opTell; rw [if_neg (not_not_intro ht0), if_neg (not_not_intro ⟨c_37, c_45⟩), if_pos (by omega)]; exact ⟨rfl, hA, fun _ _ => rfl⟩)
            · rw [bz_eq0, b7.1] at c_45
              refine r_ldc C dX8_tell_48 tw_882 ?_
              exact r_iret C F dX8_tell_50 (by unfold opTell; rw [if_neg (not_not_intro ht0), if_pos (fun q => c_45 q.2)]; exact ⟨rfl, hA, fun _ _ => rfl⟩)
        · refine r_ldc C dX8_tell_29 tw_854 ?_
          exact r_iret C F dX8_tell_31 (by unfold opTell; rw [if_pos (fun q => q.2.2.2 c_26)]; exact ⟨rfl, hA, fun _ _ => rfl⟩)
