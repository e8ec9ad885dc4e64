variable {l : Launch} {E : Ev} {h : Hp}
def lordV (h : Hp) (D : HDt) (t : Nat) (x w : Int32) : Int32 := if ¬ inP x 0 (h 49 16 - 1) then -1000000001 else if ¬ inP w 0 4 then -1000000002 else if w < 3 then h 55 (3 * x.toNatClampNeg + w.toNatClampNeg) else if w = 3 then nI (hdF D t x.toNatClampNeg) else h 57 (1 + x.toNatClampNeg)
def jokeV (h : Hp) (D : HDt) (tm : Nat → Nat) (x w : Int32) : Int32 := if ¬ inP x 0 (h 49 17 - 1) then -1000000001 else if ¬ inP w 0 3 then -1000000002 else if w < 2 then h 56 (2 * x.toNatClampNeg + w.toNatClampNeg) else if w = 2 then nI (dF D x.toNatClampNeg / 2 ^ tm x.toNatClampNeg) else h 57 (10 + x.toNatClampNeg)
set_option maxHeartbeats 4000000 in
theorem s8_lord {D : HDt} {t : Nat} {x w : Int32} (hM : MH h D) (ht : h 57 8 = nI t) (hb : t ≤ 100000) : Sp l E SHP 2 M8_lord [.ref (E.1 + 49), .int x, .int w] h (PD (some (.int (lordV h D t x w))) h) := by
  refine Sp.of (by decide) (Nat.le_of_ble_eq_true rfl) (fun X C F => ?_)
  have C : Ok X E RX8 cX8_lord 3 := C
  have F : Fn X l E SHP 2 (some FieldType.int) (PD (some (.int (lordV h D t x w))) h) := F
  show G X E SHP (0, 0) 0 [(0, .ref (E.1 + 49)), (1, .int x), (2, .int w)] [] h
  have hM0 := hM
  obtain ⟨okd, e16, e17, e540, e541, eL, eJ⟩ := hM
  obtain ⟨o1, o2, o3, o4, o5, o6⟩ := okd
  refine r_aload_n C dX8_lord_0 rfl ?_
  refine r_iload_n C dX8_lord_1 rfl ?_
  refine r_cVi C F dX8_lord_2 (s8_isLord) tw_850 m8_isLord (rfl) rfl (by decide) rfl (Nat.le_of_ble_eq_true rfl) ?_
  refine r_if_ne 11 C dX8_lord_5 (by decide) (fun c_5 => ?_) (fun c_5 => ?_)
  · rw [bz_ne0] at c_5
    have c_5b := c_5
    obtain ⟨i, hi, rfl⟩ := (inP_lord e16 o1).mp c_5
    refine r_iload_n C dX8_lord_11 rfl ?_
    refine r_iconst (0) C dX8_lord_12 rfl ?_
    refine r_iconst (4) C dX8_lord_13 rfl ?_
    refine r_cSi C F dX8_lord_14 (s8_in) tw_790 m8_in (by decide) rfl (Nat.le_of_ble_eq_true rfl) ?_
    refine r_if_ne 23 C dX8_lord_17 (by decide) (fun c_17 => ?_) (fun c_17 => ?_)
    · rw [bz_ne0] at c_17
      have c_17b := c_17
      obtain ⟨k, hk, rfl⟩ := inP_of (n := 4) rfl (by decide) c_17
      refine r_iload_n C dX8_lord_23 rfl ?_
      refine r_iconst (3) C dX8_lord_24 rfl ?_
      refine r_icmp_ge 41 C dX8_lord_25 (by decide) (fun c_25 => ?_) (fun c_25 => ?_)
      · have c_25b := Int32.not_lt.mpr c_25
        refine r_iload_n C dX8_lord_41 rfl ?_
        refine r_iconst (3) C dX8_lord_42 rfl ?_
        refine r_icmp_ne 58 C dX8_lord_43 (by decide) (fun c_43 => ?_) (fun c_43 => ?_)
        · refine r_aload_n C dX8_lord_58 rfl ?_
          refine r_getR C dX8_lord_59 flX8_35 (rfl) rfl ?_
          refine r_iconst (1) C dX8_lord_62 rfl ?_
          refine r_iload_n C dX8_lord_63 rfl ?_
          refine r_iadd C dX8_lord_64 ?_
          refine r_iald (1 + i) C dX8_lord_65 (rfl) (ix1 i) (by omega) (by decide) ?_
          exact r_iret C F dX8_lord_66 (pd_i (by unfold lordV; rw [if_neg (not_not_intro c_5b), if_neg (not_not_intro c_17b), if_neg c_25b, if_neg c_43, nI_clamp (by omega)]) rfl)
        · refine r_aload_n C dX8_lord_46 rfl ?_
          refine r_aload_n C dX8_lord_47 rfl ?_
          refine r_getR C dX8_lord_48 flX8_35 (rfl) rfl ?_
          refine r_iload_n C dX8_lord_51 rfl ?_
          refine r_cVi C F dX8_lord_52 (s8_holdOf hM0 rfl ht hb hi) tw_855 m8_holdOf (rfl) rfl (by decide) rfl (Nat.le_of_ble_eq_true rfl) ?_
          refine r_goto 66 C dX8_lord_55 (by decide) ?_
          exact r_iret C F dX8_lord_66 (pd_i (by unfold lordV; rw [if_neg (not_not_intro c_5b), if_neg (not_not_intro c_17b), if_neg c_25b, if_pos c_43, nI_clamp (by omega)]) rfl)
      · have c_25b := Int32.not_le.mp c_25
        rw [cLe (x := 3) (c := nI k) (i := 3) (n := k) (rfl) (rfl) (by omega) (by omega)] at c_25
        refine r_aload_n C dX8_lord_28 rfl ?_
        refine r_getR C dX8_lord_29 flX8_29 (rfl) rfl ?_
        refine r_iconst (3) C dX8_lord_32 rfl ?_
        refine r_iload_n C dX8_lord_33 rfl ?_
        refine r_imul C dX8_lord_34 ?_
        refine r_iload_n C dX8_lord_35 rfl ?_
        refine r_iadd C dX8_lord_36 ?_
        refine r_iald (3 * i + k) C dX8_lord_37 (rfl) (ix3k i k) (by omega) (by decide) ?_
        refine r_goto 66 C dX8_lord_38 (by decide) ?_
        exact r_iret C F dX8_lord_66 (pd_i (by unfold lordV; rw [if_neg (not_not_intro c_5b), if_neg (not_not_intro c_17b), if_pos c_25b, nI_clamp (by omega), nI_clamp (by omega)]) rfl)
    · rw [bz_eq0] at c_17
      refine r_ldc C dX8_lord_20 tw_793 ?_
      exact r_iret C F dX8_lord_22 (pd_i (by unfold lordV; rw [if_neg (not_not_intro c_5b), if_pos c_17]) rfl)
  · rw [bz_eq0] at c_5
    refine r_ldc C dX8_lord_8 tw_854 ?_
    exact r_iret C F dX8_lord_10 (pd_i (by unfold lordV; rw [if_pos c_5]) rfl)
set_option maxHeartbeats 4000000 in
theorem s8_joke {D : HDt} {tm : Nat → Nat} {x w : Int32} (hM : MH h D) (htm : ∀ j, j < 6 → h 57 (10 + j) = nI (tm j) ∧ tm j ≤ 100000) : Sp l E SHP 2 M8_joke [.ref (E.1 + 49), .int x, .int w] h (PD (some (.int (jokeV h D tm x w))) h) := by
  refine Sp.of (by decide) (Nat.le_of_ble_eq_true rfl) (fun X C F => ?_)
  have C : Ok X E RX8 cX8_joke 3 := C
  have F : Fn X l E SHP 2 (some FieldType.int) (PD (some (.int (jokeV h D tm x w))) h) := F
  show G X E SHP (0, 0) 0 [(0, .ref (E.1 + 49)), (1, .int x), (2, .int w)] [] h
  have hM0 := hM
  obtain ⟨okd, e16, e17, e540, e541, eL, eJ⟩ := hM
  obtain ⟨o1, o2, o3, o4, o5, o6⟩ := okd
  refine r_aload_n C dX8_joke_0 rfl ?_
  refine r_iload_n C dX8_joke_1 rfl ?_
  refine r_cVi C F dX8_joke_2 (s8_isJoke) tw_863 m8_isJoke (rfl) rfl (by decide) rfl (Nat.le_of_ble_eq_true rfl) ?_
  refine r_if_ne 11 C dX8_joke_5 (by decide) (fun c_5 => ?_) (fun c_5 => ?_)
  · rw [bz_ne0] at c_5
    have c_5b := c_5
    obtain ⟨i, hi, rfl⟩ := (inP_lord e17 o2).mp c_5
    refine r_iload_n C dX8_joke_11 rfl ?_
    refine r_iconst (0) C dX8_joke_12 rfl ?_
    refine r_iconst (3) C dX8_joke_13 rfl ?_
    refine r_cSi C F dX8_joke_14 (s8_in) tw_790 m8_in (by decide) rfl (Nat.le_of_ble_eq_true rfl) ?_
    refine r_if_ne 23 C dX8_joke_17 (by decide) (fun c_17 => ?_) (fun c_17 => ?_)
    · rw [bz_ne0] at c_17
      have c_17b := c_17
      obtain ⟨k, hk, rfl⟩ := inP_of (n := 3) rfl (by decide) c_17
      refine r_iload_n C dX8_joke_23 rfl ?_
      refine r_iconst (2) C dX8_joke_24 rfl ?_
      refine r_icmp_ge 41 C dX8_joke_25 (by decide) (fun c_25 => ?_) (fun c_25 => ?_)
      · have c_25b := Int32.not_lt.mpr c_25
        refine r_iload_n C dX8_joke_41 rfl ?_
        refine r_iconst (2) C dX8_joke_42 rfl ?_
        refine r_icmp_ne 58 C dX8_joke_43 (by decide) (fun c_43 => ?_) (fun c_43 => ?_)
        · refine r_aload_n C dX8_joke_58 rfl ?_
          refine r_getR C dX8_joke_59 flX8_35 (rfl) rfl ?_
          refine r_bipush (10) C dX8_joke_62 rfl ?_
          refine r_iload_n C dX8_joke_64 rfl ?_
          refine r_iadd C dX8_joke_65 ?_
          refine r_iald (10 + i) C dX8_joke_66 (rfl) (ix10 i) (by omega) (by decide) ?_
          exact r_iret C F dX8_joke_67 (pd_i (by unfold jokeV; rw [if_neg (not_not_intro c_5b), if_neg (not_not_intro c_17b), if_neg c_25b, if_neg c_43, nI_clamp (by omega)]) rfl)
        · refine r_aload_n C dX8_joke_46 rfl ?_
          refine r_aload_n C dX8_joke_47 rfl ?_
          refine r_getR C dX8_joke_48 flX8_35 (rfl) rfl ?_
          refine r_iload_n C dX8_joke_51 rfl ?_
          refine r_cVi C F dX8_joke_52 (s8_funOf hM0 rfl hi (htm i (by omega)).1 (htm i (by omega)).2) tw_867 m8_funOf (rfl) rfl (by decide) rfl (Nat.le_of_ble_eq_true rfl) ?_
          refine r_goto 67 C dX8_joke_55 (by decide) ?_
          exact r_iret C F dX8_joke_67 (pd_i (by unfold jokeV; rw [if_neg (not_not_intro c_5b), if_neg (not_not_intro c_17b), if_neg c_25b, if_pos c_43, nI_clamp (by omega)]) rfl)
      · have c_25b := Int32.not_le.mp c_25
        rw [cLe (x := 2) (c := nI k) (i := 2) (n := k) (rfl) (rfl) (by omega) (by omega)] at c_25
        refine r_aload_n C dX8_joke_28 rfl ?_
        refine r_getR C dX8_joke_29 flX8_32 (rfl) rfl ?_
        refine r_iconst (2) C dX8_joke_32 rfl ?_
        refine r_iload_n C dX8_joke_33 rfl ?_
        refine r_imul C dX8_joke_34 ?_
        refine r_iload_n C dX8_joke_35 rfl ?_
        refine r_iadd C dX8_joke_36 ?_
        refine r_iald (2 * i + k) C dX8_joke_37 (rfl) (ix2k i k) (by omega) (by decide) ?_
        refine r_goto 67 C dX8_joke_38 (by decide) ?_
        exact r_iret C F dX8_joke_67 (pd_i (by unfold jokeV; rw [if_neg (not_not_intro c_5b), if_neg (not_not_intro c_17b), if_pos c_25b, nI_clamp (by omega), nI_clamp (by omega)]) rfl)
    · rw [bz_eq0] at c_17
      refine r_ldc C dX8_joke_20 tw_793 ?_
      exact r_iret C F dX8_joke_22 (pd_i (by unfold jokeV; rw [if_neg (not_not_intro c_5b), if_pos c_17]) rfl)
  · rw [bz_eq0] at c_5
    refine r_ldc C dX8_joke_8 tw_854 ?_
    exact r_iret C F dX8_joke_10 (pd_i (by unfold jokeV; rw [if_pos c_5]) rfl)
def begK (L : Int32) (f : Nat → Int32) (i : Nat) : Nat → Int32 := fun k => if k < i then (if 1 ≤ k ∧ k < 7 then -1 else 0) else f k
def begR (L : Int32) (f : Nat → Int32) : Nat → Int32 := fun k => if k = 0 then 1 <<< (L &&& 31) - 1 else begK L f 16 k
theorem begK_s (L : Int32) (f : Nat → Int32) (i : Nat) (v : Int32) (hv : v = if 1 ≤ i ∧ i < 7 then -1 else 0) : upd (begK L f i) i v = begK L f (i + 1) := funext fun k => by
  subst hv
  unfold upd begK
  by_cases c : k = i
  · subst c
    rw [if_pos rfl, if_pos (show k < k + 1 by omega)]
  · rw [if_neg c]
    by_cases z : k < i
    · rw [if_pos z, if_pos (show k < i + 1 by omega)]
    · rw [if_neg z, if_neg (show ¬ k < i + 1 by omega)]
set_option maxHeartbeats 4000000 in
theorem s8_begin  : Sp l E SHP 0 M8_begin [.ref (E.1 + 49)] h (PD none (upr h 57 (begR (h 49 16) (h 57)))) := by
  refine Sp.of (by decide) (Nat.le_of_ble_eq_true rfl) (fun X C F => ?_)
  have C : Ok X E RX8 cX8_begin 2 := C
  have F : Fn X l E SHP 0 none (PD none (upr h 57 (begR (h 49 16) (h 57)))) := F
  show G X E SHP (0, 0) 0 [(0, .ref (E.1 + 49))] [] h
  have L : ∀ k, k ≤ 16 → G X E SHP (0, 0) 2 [(0, .ref (E.1 + 49)), (1, .int (nI k))] [] (upr h 57 (begK (h 49 16) (h 57) k)) := by
    refine loopN 16 _ (fun k hk ih => ?_)
    refine r_iload_n C dX8_begin_2 rfl ?_
    refine r_bipush (16) C dX8_begin_3 rfl ?_
    refine r_icmp_ge 36 C dX8_begin_5 (by decide) (fun c_5 => ?_) (fun c_5 => ?_)
    · rw [cLe (x := 16) (c := nI k) (i := 16) (n := k) (rfl) (rfl) (by omega) (by omega)] at c_5
      have hk2 : k = 16 := by omega
      subst hk2
      refine r_aload_n C dX8_begin_36 rfl ?_
      refine r_getR C dX8_begin_37 flX8_35 (rfl) rfl ?_
      refine r_iconst (0) C dX8_begin_40 rfl ?_
      refine r_iconst (1) C dX8_begin_41 rfl ?_
      refine r_aload_n C dX8_begin_42 rfl ?_
      refine r_getI C dX8_begin_43 flX8_72 (rfl) rfl ?_
      refine r_ishl C dX8_begin_46 ?_
      refine r_iconst (1) C dX8_begin_47 rfl ?_
      refine r_isub C dX8_begin_48 ?_
      refine r_iast (0) C dX8_begin_49 (rfl) (rfl) (by decide) (by decide) ?_
      exact r_vret C F dX8_begin_50 (pd_v (by rw [up_upr, upr_row _ _ _ (by decide)]; rfl))
    · rw [cLe (x := 16) (c := nI k) (i := 16) (n := k) (rfl) (rfl) (by omega) (by omega)] at c_5
      refine r_aload_n C dX8_begin_8 rfl ?_
      refine r_getR C dX8_begin_9 flX8_35 (rfl) rfl ?_
      refine r_iload_n C dX8_begin_12 rfl ?_
      refine r_iload_n C dX8_begin_13 rfl ?_
      refine r_iconst (1) C dX8_begin_14 rfl ?_
      refine r_icmp_lt 28 C dX8_begin_15 (by decide) (fun c_15 => ?_) (fun c_15 => ?_)
      · rw [cLt (x := nI k) (c := 1) (i := k) (n := 1) (rfl) (rfl) (by omega) (by omega)] at c_15
        refine r_iconst (0) C dX8_begin_28 rfl ?_
        refine r_iast (k) C dX8_begin_29 (rfl) (rfl) (by omega) (by decide) ?_
        refine r_inc (1) C dX8_begin_30 rfl (by decide) rfl rfl ?_
        refine r_goto 2 C dX8_begin_33 (by decide) ?_
        exact (G.eq (ih (by omega)) rfl rfl (by rw [up_upr, begK_s _ _ _ _ (if_neg (fun q => absurd q.1 (by omega))).symm])).sub ⟨rfl, by rw [nI_succ]; rfl, trivial⟩
      · rw [cLt (x := nI k) (c := 1) (i := k) (n := 1) (rfl) (rfl) (by omega) (by omega)] at c_15
        refine r_iload_n C dX8_begin_18 rfl ?_
        refine r_bipush (7) C dX8_begin_19 rfl ?_
        refine r_icmp_ge 28 C dX8_begin_21 (by decide) (fun c_21 => ?_) (fun c_21 => ?_)
        · rw [cLe (x := 7) (c := nI k) (i := 7) (n := k) (rfl) (rfl) (by omega) (by omega)] at c_21
          refine r_iconst (0) C dX8_begin_28 rfl ?_
          refine r_iast (k) C dX8_begin_29 (rfl) (rfl) (by omega) (by decide) ?_
          refine r_inc (1) C dX8_begin_30 rfl (by decide) rfl rfl ?_
          refine r_goto 2 C dX8_begin_33 (by decide) ?_
          exact (G.eq (ih (by omega)) rfl rfl (by rw [up_upr, begK_s _ _ _ _ (if_neg (fun q => absurd q.2 (by omega))).symm])).sub ⟨rfl, by rw [nI_succ]; rfl, trivial⟩
        · rw [cLe (x := 7) (c := nI k) (i := 7) (n := k) (rfl) (rfl) (by omega) (by omega)] at c_21
          refine r_iconst (-1) C dX8_begin_24 rfl ?_
          refine r_goto 29 C dX8_begin_25 (by decide) ?_
          refine r_iast (k) C dX8_begin_29 (rfl) (rfl) (by omega) (by decide) ?_
          refine r_inc (1) C dX8_begin_30 rfl (by decide) rfl rfl ?_
          refine r_goto 2 C dX8_begin_33 (by decide) ?_
          exact (G.eq (ih (by omega)) rfl rfl (by rw [up_upr, begK_s _ _ _ _ (if_pos ⟨by omega, by omega⟩).symm])).sub ⟨rfl, by rw [nI_succ]; rfl, trivial⟩
  refine r_iconst (0) C dX8_begin_0 rfl ?_
  refine r_istore_n C dX8_begin_1 (by decide) rfl ?_
  exact (G.eq (L 0 (by omega)) rfl rfl (by rw [show begK (h 49 16) (h 57) 0 = h 57 from funext fun k => if_neg (by omega), upr_id rfl])).sub ⟨rfl, rfl, trivial⟩
def shf (f : Nat → Int32) (n : Nat) : Nat → Int32 := fun k => if k < n then f (k + 16) else f k
def noteM (h : Hp) (b : Nat) : Hp := if b = 30 then up (upr h 61 (va_cpy (h 57) (shf (h 61) 464) 0 464 16)) 49 26 (nI 30) else up (upr h 61 (va_cpy (h 57) (h 61) 0 (16 * b) 16)) 49 26 (nI (b + 1))
theorem shf_s (f : Nat → Int32) (n : Nat) : upd (shf f n) n (shf f n (n + 16)) = shf f (n + 1) := funext fun k => by
  unfold upd shf
  by_cases c : k = n
  · subst c
    rw [if_pos rfl, if_neg (by omega), if_pos (by omega)]
  · rw [if_neg c]
    by_cases z : k < n
    · rw [if_pos z, if_pos (by omega)]
    · rw [if_neg z, if_neg (by omega)]
set_option maxHeartbeats 4000000 in
theorem s8_note {b : Nat} (hb : h 49 26 = nI b) (hb30 : b ≤ 30) : Sp l E SHP 1 M8_note [.ref (E.1 + 49)] h (PD none (noteM h b)) := by
  refine Sp.of (by decide) (Nat.le_of_ble_eq_true rfl) (fun X C F => ?_)
  have C : Ok X E RX8 cX8_note 2 := C
  have F : Fn X l E SHP 1 none (PD none (noteM h b)) := F
  show G X E SHP (0, 0) 0 [(0, .ref (E.1 + 49))] [] h
  have L : b = 30 → ∀ k, k ≤ 464 → G X E SHP (0, 0) 11 [(0, .ref (E.1 + 49)), (1, .int (nI k))] [] (upr h 61 (shf (h 61) k)) := by
    intro hb30
    refine loopN 464 _ (fun k hk ih => ?_)
    refine r_iload_n C dX8_note_11 rfl ?_
    refine r_sipush (464) C dX8_note_12 rfl ?_
    refine r_icmp_ge 39 C dX8_note_15 (by decide) (fun c_15 => ?_) (fun c_15 => ?_)
    · rw [cLe (x := 464) (c := nI k) (i := 464) (n := k) (rfl) (rfl) (by omega) (by omega)] at c_15
      have hk2 : k = 464 := by omega
      subst hk2
      have e26 : upr h 61 (shf (h 61) 464) 49 26 = nI 30 := by rw [upr_row _ _ _ (by decide), hb, hb30]
      refine r_aload_n C dX8_note_39 rfl ?_
      refine r_dup C dX8_note_40 rfl ?_
      refine r_getI C dX8_note_41 flX8_157 (rfl) rfl ?_
      refine r_iconst (1) C dX8_note_44 rfl ?_
      refine r_isub C dX8_note_45 ?_
      refine r_putI C dX8_note_46 fwX8_157 (rfl) rfl ?_
      rw [e26, show nI 30 - 1 = nI 29 from rfl]
      refine r_aload_n C dX8_note_49 rfl ?_
      refine r_getR C dX8_note_50 flX8_35 (rfl) rfl ?_
      refine r_iconst (0) C dX8_note_53 rfl ?_
      refine r_aload_n C dX8_note_54 rfl ?_
      refine r_getR C dX8_note_55 flX8_47 (rfl) rfl ?_
      refine r_bipush (16) C dX8_note_58 rfl ?_
      refine r_aload_n C dX8_note_60 rfl ?_
      refine r_getI C dX8_note_61 flX8_157 (rfl) rfl ?_
      refine r_imul C dX8_note_64 ?_
      rw [up_self, show (16 : Int32) * nI 29 = nI 464 from rfl]
      refine r_cSv C F dX8_note_65 (s8_copy (i := 57) (j := 61) (a := 0) (b := 464) rfl rfl (by decide) (by decide) (by decide) (by decide) (by decide)) tw_887 m8_copy (by decide) rfl (Nat.le_of_ble_eq_true rfl) ?_
      refine r_aload_n C dX8_note_68 rfl ?_
      refine r_dup C dX8_note_69 rfl ?_
      refine r_getI C dX8_note_70 flX8_157 (rfl) rfl ?_
      refine r_iconst (1) C dX8_note_73 rfl ?_
      rw [upr_row _ _ _ (by decide), up_self]
      refine r_iadd C dX8_note_74 ?_
      refine r_putI C dX8_note_75 fwX8_157 (rfl) rfl ?_
      exact r_vret C F dX8_note_78 (pd_v (by
        unfold noteM
        rw [if_pos hb30, show nI 29 + 1 = nI 30 from rfl]
        refine hp_ext fun x k => ?_
        rw [show up (upr h 61 (shf (h 61) 464)) 49 26 (nI 29) 57 = h 57 from rfl, show up (upr h 61 (shf (h 61) 464)) 49 26 (nI 29) 61 = shf (h 61) 464 from rfl]
        simp only [up_at, upr_at]
        by_cases c1 : x = 49 ∧ k = 26
        · simp only [if_pos c1]
        · by_cases c2 : x = 61
          · simp only [if_neg c1, if_pos c2]
          · simp only [if_neg c1, if_neg c2]))
    · rw [cLe (x := 464) (c := nI k) (i := 464) (n := k) (rfl) (rfl) (by omega) (by omega)] at c_15
      refine r_aload_n C dX8_note_18 rfl ?_
      refine r_getR C dX8_note_19 flX8_47 (rfl) rfl ?_
      refine r_iload_n C dX8_note_22 rfl ?_
      refine r_aload_n C dX8_note_23 rfl ?_
      refine r_getR C dX8_note_24 flX8_47 (rfl) rfl ?_
      refine r_iload_n C dX8_note_27 rfl ?_
      refine r_bipush (16) C dX8_note_28 rfl ?_
      refine r_iadd C dX8_note_30 ?_
      refine r_iald (k + 16) C dX8_note_31 (rfl) (nI_add k 16) (by omega) (by decide) ?_
      rw [upr_self]
      refine r_iast (k) C dX8_note_32 (rfl) (rfl) (by omega) (by decide) ?_
      refine r_inc (1) C dX8_note_33 rfl (by decide) rfl rfl ?_
      refine r_goto 11 C dX8_note_36 (by decide) ?_
      exact (G.eq (ih (by omega)) rfl rfl (by rw [up_upr, shf_s])).sub ⟨rfl, by rw [nI_succ]; rfl, trivial⟩
  refine r_aload_n C dX8_note_0 rfl ?_
  refine r_getI C dX8_note_1 flX8_157 (rfl) rfl ?_
  refine r_bipush (30) C dX8_note_4 rfl ?_
  refine r_icmp_ne 49 C dX8_note_6 (by decide) (fun c_6 => ?_) (fun c_6 => ?_)
  · rw [cEq (x := h 49 26) (c := 30) (i := b) (n := 30) (hb) (rfl) (by omega) (by omega)] at c_6
    refine r_aload_n C dX8_note_49 rfl ?_
    refine r_getR C dX8_note_50 flX8_35 (rfl) rfl ?_
    refine r_iconst (0) C dX8_note_53 rfl ?_
    refine r_aload_n C dX8_note_54 rfl ?_
    refine r_getR C dX8_note_55 flX8_47 (rfl) rfl ?_
    refine r_bipush (16) C dX8_note_58 rfl ?_
    refine r_aload_n C dX8_note_60 rfl ?_
    refine r_getI C dX8_note_61 flX8_157 (rfl) rfl ?_
    refine r_imul C dX8_note_64 ?_
    rw [hb, nI_lit16]
    refine r_cSv C F dX8_note_65 (s8_copy (i := 57) (j := 61) (a := 0) (b := 16 * b) rfl rfl (by decide) (by decide) (by omega) (by decide) (by decide)) tw_887 m8_copy (by decide) rfl (Nat.le_of_ble_eq_true rfl) ?_
    refine r_aload_n C dX8_note_68 rfl ?_
    refine r_dup C dX8_note_69 rfl ?_
    refine r_getI C dX8_note_70 flX8_157 (rfl) rfl ?_
    refine r_iconst (1) C dX8_note_73 rfl ?_
    rw [upr_row _ _ _ (by decide), hb]
    refine r_iadd C dX8_note_74 ?_
    refine r_putI C dX8_note_75 fwX8_157 (rfl) rfl ?_
    exact r_vret C F dX8_note_78 (pd_v (by unfold noteM; rw [if_neg c_6, nI_1]))
  · rw [cEq (x := h 49 26) (c := 30) (i := b) (n := 30) (hb) (rfl) (by omega) (by omega)] at c_6
    refine r_iconst (0) C dX8_note_9 rfl ?_
    refine r_istore_n C dX8_note_10 (by decide) rfl ?_
    exact (G.eq (L (by omega) 0 (by omega)) rfl rfl (by rw [show shf (h 61) 0 = h 61 from funext fun k => if_neg (by omega), upr_id rfl])).sub ⟨rfl, rfl, trivial⟩
