variable {l : Launch} {E : Ev} {h : Hp}
def opUndo (A : At) (x : Int32) : Int32 × At := if ¬ inP x 1 30 then (-1000000002, A) else match (aB A)[(aB A).length - cl x]? with
  | none => (-1000000003, A)
  | some u => if (aB A).length < cl x then (-1000000003, A) else (nI (mT u), withU A u ((aB A).take ((aB A).length - cl x)))
def opKeep (A : At) (x : Int32) : Int32 × At := if ¬ inP x 0 1 then (-1000000001, A) else (1, (aX A, aF A, aH A, aD A, aS A, aU A, [], (fun i => if i = cl x then some (aU A, aS A) else aI A i), aG A, aE A))
def opBack (A : At) (x : Int32) : Int32 × At := if ¬ inP x 0 1 then (-1000000001, A) else match aI A (cl x) with
  | none => (-1000000003, A)
  | some q => (1, (aX A, aF A, aH A, aD A, q.2, q.1, [], aI A, aG A, aE A))
def opSeed (A : At) (v : Int32) : Int32 × At := if v < 0 then (-1000000002, A) else (nI (aS A), (aX A, aF A, aH A, aD A, cl v, aU A, aB A, aI A, aG A, aE A))
def opTear (A : At) : Int32 × At := (nI ((aG A).length + (aE A).length), (aX A, aF A, aH A, aD A, aS A, aU A, aB A, aI A, [], []))
def opSee (A : At) (x y z : Int32) : Int32 × At := if ¬ (inP x 0 (nI (dL (aD A)) - 1) ∧ inP y 0 (nI (dJ (aD A)) - 1)) then (-1000000001, A) else if (aG A).length = 6 then (-1000000004, A) else (nI ((aG A).length + 1), (aX A, aF A, aH A, aD A, aS A, aU A, aB A, aI A, aG A ++ [(cl x, cl y, decide (¬ z = 0))], aE A))
abbrev setA (D : HDt) (y : Int32) : Prop := inP y 0 (nI (2 ^ dL D - 1))
def opWrite (A : At) (x y : Int32) : Int32 × At := if ¬ setA (aD A) y then (-1000000001, A) else if ¬ inP x 0 999 then (-1000000002, A) else if (aE A).length = 20 then (-1000000004, A) else (nI ((aE A).length + 1), (aX A, aF A, aH A, aD A, aS A, aU A, aB A, aI A, aG A, aE A ++ [(cl x, cl y)]))
def opFeed (A : At) (x : Int32) : Int32 × At := if ¬ inP x 0 255 then (-1000000002, A) else if (aX A).length = 200 then (-1000000004, A) else (nI ((aX A).length + 1), (aX A ++ [x], aF A, aH A, aD A, aS A, aU A, aB A, aI A, aG A, aE A))
theorem every_nI {D : HDt} (o1 : dL D ≤ 6) {c : Int32} (e : c = nI (dL D)) : (1 : Int32) <<< (c &&& 31) - 1 = nI (2 ^ dL D - 1) := by
  rw [e, shl1_nI (by omega)]
  exact pk_sub (b := 1) (Nat.two_pow_pos _)
theorem no_nil {α : Type} {r : Nat} {u : α} (q : ([] : List α)[r]? = some u) : False := by simp at q
theorem get_snoc {α : Type} {L : List α} {a b : α} {r : Nat} (q : (L ++ [a])[r]? = some b) : (r < L.length ∧ L[r]? = some b) ∨ (r = L.length ∧ b = a) := by
  rcases Nat.lt_or_ge r L.length with z | z
  · rw [List.getElem?_append_left z] at q
    exact Or.inl ⟨z, q⟩
  · rw [List.getElem?_append_right z] at q
    have : r - L.length < 1 := (List.getElem?_eq_some_iff.mp q).1
    have e : r = L.length := by omega
    subst e
    rw [Nat.sub_self] at q
    exact Or.inr ⟨rfl, (Option.some.inj q).symm⟩
set_option maxHeartbeats 4000000 in
theorem s8_undo {A : At} {x : Int32} (hA : MA h A) : Sp l E SHP 1 M8_undo [.ref (E.1 + 49), .int x] h (QM h (opUndo A x)) := by
  refine Sp.of (by decide) (Nat.le_of_ble_eq_true rfl) (fun X C F => ?_)
  have C : Ok X E RX8 cX8_undo 2 := C
  have F : Fn X l E SHP 1 (some FieldType.int) (QM h (opUndo A x)) := F
  show G X E SHP (0, 0) 0 [(0, .ref (E.1 + 49)), (1, .int x)] [] h
  obtain ⟨⟨a1, a2, a3, a4, a5, a6, a7, a8, a9, a10, a11, a12⟩, ⟨b1, b2⟩, b3, b4, b5, b6, b7, ⟨b8, b9⟩, b10, ⟨b11, b12⟩, b13, b14⟩ := id hA
  obtain ⟨okd, e16, e17, e540, e541, eL, eJ⟩ := id b5
  obtain ⟨o1, o2, o3, o4, o5, o6⟩ := id okd
  have p6 : 2 ^ dL (aD A) ≤ 64 := Nat.pow_le_pow_right (n := 2) (by decide) o1
  obtain ⟨k0, k1, k2, k3, k4, k5⟩ := id a5
  refine r_iload_n C dX8_undo_0 rfl ?_
  refine r_iconst (1) C dX8_undo_1 rfl ?_
  refine r_bipush (30) C dX8_undo_2 rfl ?_
  refine r_cSi C F dX8_undo_4 (s8_in) tw_790 m8_in (by decide) rfl (Nat.le_of_ble_eq_true rfl) ?_
  refine r_if_ne 13 C dX8_undo_7 (by decide) (fun c_7 => ?_) (fun c_7 => ?_)
  · rw [bz_ne0] at c_7
    have c_7b := c_7
    obtain ⟨n, hn, rfl⟩ := inP_of (n := 30) rfl (by decide) ⟨Int32.le_trans (by decide) c_7.1, c_7.2⟩
    have hn1 : 1 ≤ n := (cLe (x := 1) (i := 1) rfl rfl (by omega) (by omega)).mp c_7.1
    refine r_iload_n C dX8_undo_13 rfl ?_
    refine r_aload_n C dX8_undo_14 rfl ?_
    refine r_getI C dX8_undo_15 flX8_157 (rfl) rfl ?_
    refine r_icmp_le 24 C dX8_undo_18 (by decide) (fun c_18 => ?_) (fun c_18 => ?_)
    · rw [cLe (x := nI n) (c := h 49 26) (i := n) (n := (aB A).length) (rfl) (b8) (by omega) (by omega)] at c_18
      obtain ⟨u, hu⟩ : ∃ u, (aB A)[(aB A).length - n]? = some u := ⟨_, List.getElem?_eq_getElem (by omega)⟩
      have hmem := List.mem_of_getElem? hu
      refine r_aload_n C dX8_undo_24 rfl ?_
      refine r_dup C dX8_undo_25 rfl ?_
      refine r_getI C dX8_undo_26 flX8_157 (rfl) rfl ?_
      refine r_iload_n C dX8_undo_29 rfl ?_
      refine r_isub C dX8_undo_30 ?_
      rw [b8, pk_sub c_18]
      refine r_putI C dX8_undo_31 fwX8_157 (rfl) rfl ?_
      refine r_aload_n C dX8_undo_34 rfl ?_
      refine r_getR C dX8_undo_35 flX8_47 (rfl) rfl ?_
      refine r_bipush (16) C dX8_undo_38 rfl ?_
      refine r_aload_n C dX8_undo_40 rfl ?_
      refine r_getI C dX8_undo_41 flX8_157 (rfl) rfl ?_
      refine r_imul C dX8_undo_44 ?_
      refine r_aload_n C dX8_undo_45 rfl ?_
      refine r_getR C dX8_undo_46 flX8_35 (rfl) rfl ?_
      refine r_iconst (0) C dX8_undo_49 rfl ?_
      rw [up_self, nI_lit16]
      refine r_cSv C F dX8_undo_50 (s8_copy (i := 61) (j := 57) (a := 16 * ((aB A).length - n)) (b := 0) rfl rfl (by decide) (by omega) (by decide) (by decide) (by decide)) tw_887 m8_copy (by decide) rfl (Nat.le_of_ble_eq_true rfl) ?_
      refine r_aload_n C dX8_undo_53 rfl ?_
      refine r_getR C dX8_undo_54 flX8_35 (rfl) rfl ?_
      refine r_bipush (9) C dX8_undo_57 rfl ?_
      refine r_iald (9) C dX8_undo_59 (rfl) (rfl) (by decide) (by decide) ?_
      refine r_iret C F dX8_undo_60 ?_
      unfold opUndo
      rw [if_neg (not_not_intro c_7b), cl_nI (by omega), hu]
      dsimp only
      rw [if_neg (by omega)]
      have hrow : MomR (va_cpy (h 61) (h 57) (16 * ((aB A).length - n)) 0 16) u := MomR_congr (MomR_cpy (f := h 61) (g := h 57) (b := 0) (b9 _ _ hu)) (fun k _ => by rw [Nat.zero_add])
      refine ⟨?_, MA_mom hA ?_ (a7 u hmem) ?_ ?_ ?_ ?_ ?_, fun a ha => ?_⟩
      · rw [upr_self]
        exact congrArg (fun z => some (Value.int z)) hrow.2.2.2.1
      · exact ⟨rfl, rfl, rfl, rfl, rfl, rfl, rfl, rfl, rfl, rfl, rfl, rfl, rfl, rfl, rfl, rfl, rfl⟩
      · rw [upr_self]
        exact hrow
      · rw [List.length_take]; omega
      · intro v q
        exact a7 v (List.mem_of_mem_take q)
      · rw [List.length_take, upr_row _ _ _ (by decide), up_self, Nat.min_eq_left (by omega)]
      · intro r v q
        have hr : r < (aB A).length - n := by have := (List.getElem?_eq_some_iff.mp q).1; rw [List.length_take] at this; omega
        rw [List.getElem?_take_of_lt hr] at q
        rw [upr_row _ _ _ (by decide)]
        exact b9 r v q
      · rw [upr_row _ _ _ (by omega), up_row _ _ _ _ (by omega)]
    · rw [cLe (x := nI n) (c := h 49 26) (i := n) (n := (aB A).length) (rfl) (b8) (by omega) (by omega)] at c_18
      refine r_ldc C dX8_undo_21 tw_882 ?_
      refine r_iret C F dX8_undo_23 ?_
      unfold opUndo
      rw [if_neg (not_not_intro c_7b), cl_nI (by omega)]
      split
      · exact ⟨rfl, hA, fun _ _ => rfl⟩
      · rw [if_pos (by omega)]; exact ⟨rfl, hA, fun _ _ => rfl⟩
  · rw [bz_eq0] at c_7
    refine r_ldc C dX8_undo_10 tw_793 ?_
    exact r_iret C F dX8_undo_12 (by unfold opUndo; rw [if_pos c_7]; exact ⟨rfl, hA, fun _ _ => rfl⟩)
set_option maxHeartbeats 4000000 in
theorem s8_keep {A : At} {x : Int32} (hA : MA h A) : Sp l E SHP 1 M8_keep [.ref (E.1 + 49), .int x] h (QM h (opKeep A x)) := by
  refine Sp.of (by decide) (Nat.le_of_ble_eq_true rfl) (fun X C F => ?_)
  have C : Ok X E RX8 cX8_keep 2 := C
  have F : Fn X l E SHP 1 (some FieldType.int) (QM h (opKeep A x)) := F
  show G X E SHP (0, 0) 0 [(0, .ref (E.1 + 49)), (1, .int x)] [] h
  obtain ⟨⟨a1, a2, a3, a4, a5, a6, a7, a8, a9, a10, a11, a12⟩, ⟨b1, b2⟩, b3, b4, b5, b6, b7, ⟨b8, b9⟩, b10, ⟨b11, b12⟩, b13, b14⟩ := id hA
  obtain ⟨okd, e16, e17, e540, e541, eL, eJ⟩ := id b5
  obtain ⟨o1, o2, o3, o4, o5, o6⟩ := id okd
  have p6 : 2 ^ dL (aD A) ≤ 64 := Nat.pow_le_pow_right (n := 2) (by decide) o1
  obtain ⟨k0, k1, k2, k3, k4, k5⟩ := id a5
  refine r_iload_n C dX8_keep_0 rfl ?_
  refine r_iconst (0) C dX8_keep_1 rfl ?_
  refine r_iconst (1) C dX8_keep_2 rfl ?_
  refine r_cSi C F dX8_keep_3 (s8_in) tw_790 m8_in (by decide) rfl (Nat.le_of_ble_eq_true rfl) ?_
  refine r_if_ne 12 C dX8_keep_6 (by decide) (fun c_6 => ?_) (fun c_6 => ?_)
  · rw [bz_ne0] at c_6
    have c_6b := c_6
    obtain ⟨n, hn, rfl⟩ := inP_of (n := 1) rfl (by decide) c_6
    refine r_aload_n C dX8_keep_12 rfl ?_
    refine r_getR C dX8_keep_13 flX8_35 (rfl) rfl ?_
    refine r_iconst (0) C dX8_keep_16 rfl ?_
    refine r_aload_n C dX8_keep_17 rfl ?_
    refine r_getR C dX8_keep_18 flX8_50 (rfl) rfl ?_
    refine r_bipush (16) C dX8_keep_21 rfl ?_
    refine r_iload_n C dX8_keep_23 rfl ?_
    refine r_imul C dX8_keep_24 ?_
    rw [nI_lit16]
    refine r_cSv C F dX8_keep_25 (s8_copy (i := 57) (j := 62) (a := 0) (b := 16 * n) rfl rfl (by decide) (by decide) (by omega) (by decide) (by decide)) tw_887 m8_copy (by decide) rfl (Nat.le_of_ble_eq_true rfl) ?_
    refine r_aload_n C dX8_keep_28 rfl ?_
    refine r_getR C dX8_keep_29 flX8_53 (rfl) rfl ?_
    refine r_iload_n C dX8_keep_32 rfl ?_
    refine r_aload_n C dX8_keep_33 rfl ?_
    refine r_getI C dX8_keep_34 flX8_207 (rfl) rfl ?_
    refine r_iast (n) C dX8_keep_37 (rfl) (rfl) (by omega) (by decide) ?_
    refine r_aload_n C dX8_keep_38 rfl ?_
    refine r_getR C dX8_keep_39 flX8_56 (rfl) rfl ?_
    refine r_iload_n C dX8_keep_42 rfl ?_
    refine r_iconst (1) C dX8_keep_43 rfl ?_
    refine r_zast (n) C dX8_keep_44 (rfl) (rfl) (by omega) (by decide) (by first | exact Or.inl rfl | exact Or.inr rfl) ?_
    refine r_aload_n C dX8_keep_45 rfl ?_
    refine r_iconst (0) C dX8_keep_46 rfl ?_
    refine r_putI C dX8_keep_47 fwX8_157 (rfl) rfl ?_
    refine r_iconst (1) C dX8_keep_50 rfl ?_
    refine r_iret C F dX8_keep_51 ?_
    unfold opKeep
    rw [if_neg (not_not_intro c_6b), cl_nI (by omega)]
    have hu0 : MomR (fun k => h 57 (0 + k)) (aU A) := MomR_congr b7 (fun k _ => by rw [Nat.zero_add])
    refine ⟨rfl, ⟨⟨a1, a2, a3, a4, a5, Nat.zero_le _, (fun _ q => absurd q List.not_mem_nil), (fun i u s q => ?_), a9, a10, a11, a12⟩, ⟨b1, b2⟩, b3, b4, b5, b6, b7, ⟨rfl, (fun r u q => (no_nil q).elim)⟩, (fun i hi => ?_), ⟨b11, b12⟩, b13, b14⟩, fun a ha => ?_⟩
    · have q : (if i = n then some (aU A, aS A) else aI A i) = some (u, s) := q
      by_cases c : i = n
      · rw [if_pos c] at q
        cases q
        exact ⟨a5, a4⟩
      · rw [if_neg c] at q
        exact a8 i u s q
    · show up _ _ _ _ 64 i = b01 (if i = n then some (aU A, aS A) else aI A i).isSome ∧ ∀ u s, (if i = n then some (aU A, aS A) else aI A i) = some (u, s) → MomR (fun k => up _ _ _ _ 62 (16 * i + k)) u ∧ up _ _ _ _ 63 i = nI s
      rw [show up (up (up (upr h 62 (va_cpy (h 57) (h 62) 0 (16 * n) 16)) 63 n (upr h 62 (va_cpy (h 57) (h 62) 0 (16 * n) 16) 49 30)) 64 n 1) 49 26 0 62 = va_cpy (h 57) (h 62) 0 (16 * n) 16 from rfl]
      by_cases c : i = n
      · subst c
        rw [if_pos rfl]
        refine ⟨by rw [up_at, if_neg (by simp), up_self]; rfl, fun u s q => ?_⟩
        cases q
        refine ⟨MomR_cpy (b := 16 * i) hu0, ?_⟩
        rw [up_at, if_neg (by simp), up_at, if_neg (by simp), up_self]
        exact b6
      · rw [if_neg c]
        obtain ⟨d1, d2⟩ := b10 i hi
        refine ⟨by rw [up_at, if_neg (by simp), up_at, if_neg (by simp [c]), up_at, if_neg (by simp)]; exact d1, fun u s q => ?_⟩
        obtain ⟨d3, d4⟩ := d2 u s q
        refine ⟨MomR_congr d3 (fun k hk => ?_), ?_⟩
        · unfold va_cpy
          rw [if_neg (by omega)]
        · rw [up_at, if_neg (by simp), up_at, if_neg (by simp), up_at, if_neg (by simp [c]), upr_row _ _ _ (by decide)]
          exact d4
    · rw [up_row _ _ _ _ (by omega), up_row _ _ _ _ (by omega), up_row _ _ _ _ (by omega), upr_row _ _ _ (by omega)]
  · rw [bz_eq0] at c_6
    refine r_ldc C dX8_keep_9 tw_854 ?_
    exact r_iret C F dX8_keep_11 (by unfold opKeep; rw [if_pos c_6]; exact ⟨rfl, hA, fun _ _ => rfl⟩)
set_option maxHeartbeats 4000000 in
theorem s8_goBack {A : At} {x : Int32} (hA : MA h A) : Sp l E SHP 1 M8_goBack [.ref (E.1 + 49), .int x] h (QM h (opBack A x)) := by
  refine Sp.of (by decide) (Nat.le_of_ble_eq_true rfl) (fun X C F => ?_)
  have C : Ok X E RX8 cX8_goBack 2 := C
  have F : Fn X l E SHP 1 (some FieldType.int) (QM h (opBack A x)) := F
  show G X E SHP (0, 0) 0 [(0, .ref (E.1 + 49)), (1, .int x)] [] h
  obtain ⟨⟨a1, a2, a3, a4, a5, a6, a7, a8, a9, a10, a11, a12⟩, ⟨b1, b2⟩, b3, b4, b5, b6, b7, ⟨b8, b9⟩, b10, ⟨b11, b12⟩, b13, b14⟩ := id hA
  obtain ⟨okd, e16, e17, e540, e541, eL, eJ⟩ := id b5
  obtain ⟨o1, o2, o3, o4, o5, o6⟩ := id okd
  have p6 : 2 ^ dL (aD A) ≤ 64 := Nat.pow_le_pow_right (n := 2) (by decide) o1
  obtain ⟨k0, k1, k2, k3, k4, k5⟩ := id a5
  refine r_iload_n C dX8_goBack_0 rfl ?_
  refine r_iconst (0) C dX8_goBack_1 rfl ?_
  refine r_iconst (1) C dX8_goBack_2 rfl ?_
  refine r_cSi C F dX8_goBack_3 (s8_in) tw_790 m8_in (by decide) rfl (Nat.le_of_ble_eq_true rfl) ?_
  refine r_if_ne 12 C dX8_goBack_6 (by decide) (fun c_6 => ?_) (fun c_6 => ?_)
  · rw [bz_ne0] at c_6
    have c_6b := c_6
    obtain ⟨n, hn, rfl⟩ := inP_of (n := 1) rfl (by decide) c_6
    obtain ⟨d1, d2⟩ := b10 n (by omega)
    refine r_aload_n C dX8_goBack_12 rfl ?_
    refine r_getR C dX8_goBack_13 flX8_56 (rfl) rfl ?_
    refine r_iload_n C dX8_goBack_16 rfl ?_
    refine r_zald (n) C dX8_goBack_17 (rfl) (rfl) (by omega) (by decide) ?_
    refine r_if_ne 24 C dX8_goBack_18 (by decide) (fun c_18 => ?_) (fun c_18 => ?_)
    · rw [d1] at c_18
      obtain ⟨⟨u, s⟩, hus⟩ : ∃ q, aI A n = some q := by
        cases hq : aI A n with
        | none => rw [hq] at c_18; exact absurd rfl c_18
        | some q => exact ⟨q, rfl⟩
      obtain ⟨d3, d4⟩ := d2 u s hus
      refine r_aload_n C dX8_goBack_24 rfl ?_
      refine r_getR C dX8_goBack_25 flX8_50 (rfl) rfl ?_
      refine r_bipush (16) C dX8_goBack_28 rfl ?_
      refine r_iload_n C dX8_goBack_30 rfl ?_
      refine r_imul C dX8_goBack_31 ?_
      refine r_aload_n C dX8_goBack_32 rfl ?_
      refine r_getR C dX8_goBack_33 flX8_35 (rfl) rfl ?_
      refine r_iconst (0) C dX8_goBack_36 rfl ?_
      rw [nI_lit16]
      refine r_cSv C F dX8_goBack_37 (s8_copy (i := 62) (j := 57) (a := 16 * n) (b := 0) rfl rfl (by decide) (by omega) (by decide) (by decide) (by decide)) tw_887 m8_copy (by decide) rfl (Nat.le_of_ble_eq_true rfl) ?_
      refine r_aload_n C dX8_goBack_40 rfl ?_
      refine r_aload_n C dX8_goBack_41 rfl ?_
      refine r_getR C dX8_goBack_42 flX8_53 (rfl) rfl ?_
      refine r_iload_n C dX8_goBack_45 rfl ?_
      refine r_iald (n) C dX8_goBack_46 (rfl) (rfl) (by omega) (by decide) ?_
      refine r_putI C dX8_goBack_47 fwX8_207 (rfl) rfl ?_
      refine r_aload_n C dX8_goBack_50 rfl ?_
      refine r_iconst (0) C dX8_goBack_51 rfl ?_
      refine r_putI C dX8_goBack_52 fwX8_157 (rfl) rfl ?_
      refine r_iconst (1) C dX8_goBack_55 rfl ?_
      refine r_iret C F dX8_goBack_56 ?_
      unfold opBack
      rw [if_neg (not_not_intro c_6b), cl_nI (by omega), hus]
      have hrow : MomR (va_cpy (h 62) (h 57) (16 * n) 0 16) u := MomR_congr (MomR_cpy (f := h 62) (g := h 57) (b := 0) d3) (fun k _ => by rw [Nat.zero_add])
      obtain ⟨f1, f2⟩ := a8 n u s hus
      refine ⟨rfl, ⟨⟨a1, a2, a3, f2, f1, Nat.zero_le _, (fun _ q => absurd q List.not_mem_nil), a8, a9, a10, a11, a12⟩, ⟨b1, b2⟩, b3, b4, b5, ?_, ?_, ⟨rfl, (fun r u q => (no_nil q).elim)⟩, b10, ⟨b11, b12⟩, b13, b14⟩, fun a ha => ?_⟩
      · rw [up_off _ _ _ _ (by decide), up_self, upr_row _ _ _ (by decide)]
        exact d4
      · exact hrow
      · rw [up_row _ _ _ _ (by omega), up_row _ _ _ _ (by omega), upr_row _ _ _ (by omega)]
    · rw [d1] at c_18
      have hnone : aI A n = none := by
        cases hq : aI A n with
        | none => rfl
        | some q => rw [hq] at c_18; exact absurd c_18 (show ¬ (1 : Int32) = 0 by decide)
      refine r_ldc C dX8_goBack_21 tw_882 ?_
      refine r_iret C F dX8_goBack_23 ?_
      unfold opBack
      rw [if_neg (not_not_intro c_6b), cl_nI (by omega), hnone]
      exact ⟨rfl, hA, fun _ _ => rfl⟩
  · rw [bz_eq0] at c_6
    refine r_ldc C dX8_goBack_9 tw_854 ?_
    exact r_iret C F dX8_goBack_11 (by unfold opBack; rw [if_pos c_6]; exact ⟨rfl, hA, fun _ _ => rfl⟩)
theorem s8_seedA {A : At} {v : Int32} (hA : MA h A) : Sp l E SHP 0 M8_seed [.ref (E.1 + 49), .int v] h (QM h (opSeed A v)) := by
  obtain ⟨⟨a1, a2, a3, a4, a5, a6, a7, a8, a9, a10, a11, a12⟩, ⟨b1, b2⟩, b3, b4, b5, b6, b7, ⟨b8, b9⟩, b10, ⟨b11, b12⟩, b13, b14⟩ := id hA
  refine s8_seed.weaken (fun w h' q => ?_)
  obtain ⟨rfl, rfl⟩ := q
  unfold seedM opSeed
  by_cases c : v < 0
  · rw [if_pos c, if_pos c]
    exact ⟨rfl, hA, fun _ _ => rfl⟩
  · rw [if_neg c, if_neg c]
    obtain ⟨j, hj, rfl⟩ := nI_of c
    rw [cl_nI hj]
    exact ⟨congrArg (fun z => some (Value.int z)) b6, ⟨⟨a1, a2, a3, hj, a5, a6, a7, a8, a9, a10, a11, a12⟩, ⟨b1, b2⟩, b3, b4, b5, (show up h 49 30 (nI j) 49 30 = nI j from up_self _ _ _ _), b7, ⟨b8, b9⟩, b10, ⟨b11, b12⟩, b13, b14⟩, fun a ha => up_row _ _ _ _ (by omega)⟩
theorem s8_tearA {A : At} (hA : MA h A) : Sp l E SHP 0 M8_tear [.ref (E.1 + 49)] h (QM h (opTear A)) := by
  obtain ⟨⟨a1, a2, a3, a4, a5, a6, a7, a8, a9, a10, a11, a12⟩, ⟨b1, b2⟩, b3, b4, b5, b6, b7, ⟨b8, b9⟩, b10, ⟨b11, b12⟩, b13, b14⟩ := id hA
  refine s8_tear.weaken (fun w h' q => ?_)
  obtain ⟨rfl, rfl⟩ := q
  unfold opTear
  refine ⟨?_, ⟨⟨a1, a2, a3, a4, a5, a6, a7, a8, Nat.zero_le _, (fun _ q => absurd q List.not_mem_nil), Nat.zero_le _, (fun _ q => absurd q List.not_mem_nil)⟩, ⟨b1, b2⟩, b3, b4, b5, b6, b7, ⟨b8, b9⟩, b10, ⟨rfl, (fun r u q => (no_nil q).elim)⟩, rfl, (fun r u q => (no_nil q).elim)⟩, fun a ha => ?_⟩
  · rw [b11, b13, nI_add]
  · dsimp only
    rw [up_row _ _ _ _ (by omega), up_row _ _ _ _ (by omega)]
theorem s8_feedA {A : At} {x : Int32} (hA : MA h A) : Sp l E SHP 1 M8_feed [.ref (E.1 + 49), .int x] h (QM h (opFeed A x)) := by
  obtain ⟨⟨a1, a2, a3, a4, a5, a6, a7, a8, a9, a10, a11, a12⟩, ⟨b1, b2⟩, b3, b4, b5, b6, b7, ⟨b8, b9⟩, b10, ⟨b11, b12⟩, b13, b14⟩ := id hA
  refine (s8_feed b1 a1).weaken (fun w h' q => ?_)
  obtain ⟨rfl, rfl⟩ := q
  unfold feedM opFeed
  by_cases c : ¬ inP x 0 255
  · rw [if_pos c, if_pos c]
    exact ⟨rfl, hA, fun _ _ => rfl⟩
  · rw [if_neg c, if_neg c]
    by_cases d : (aX A).length = 200
    · rw [if_pos d, if_pos d]
      exact ⟨rfl, hA, fun _ _ => rfl⟩
    · rw [if_neg d, if_neg d]
      refine ⟨rfl, ⟨⟨by rw [List.length_append]; simp; omega, a2, a3, a4, a5, a6, a7, a8, a9, a10, a11, a12⟩, ⟨?_, fun k y q => ?_⟩, b3, b4, b5, b6, b7, ⟨b8, b9⟩, b10, ⟨b11, b12⟩, b13, b14⟩, fun a ha => ?_⟩
      · dsimp only
        rw [up_self, List.length_append]; rfl
      · dsimp only
        rw [up_row _ _ _ _ (by decide)]
        rcases get_snoc q with ⟨z, q⟩ | ⟨z, rfl⟩
        · rw [up_off _ _ _ _ (by omega)]
          exact b2 k y q
        · exact ⟨by rw [z, up_self], Decidable.not_not.mp c⟩
      · dsimp only
        rw [up_row _ _ _ _ (by omega), up_row _ _ _ _ (by omega)]
set_option maxHeartbeats 4000000 in
theorem s8_see {A : At} {x y z : Int32} (hA : MA h A) : Sp l E SHP 2 M8_see [.ref (E.1 + 49), .int x, .int y, .int z] h (QM h (opSee A x y z)) := by
  refine Sp.of (by decide) (Nat.le_of_ble_eq_true rfl) (fun X C F => ?_)
  have C : Ok X E RX8 cX8_see 4 := C
  have F : Fn X l E SHP 2 (some FieldType.int) (QM h (opSee A x y z)) := F
  show G X E SHP (0, 0) 0 [(0, .ref (E.1 + 49)), (1, .int x), (2, .int y), (3, .int z)] [] h
  obtain ⟨⟨a1, a2, a3, a4, a5, a6, a7, a8, a9, a10, a11, a12⟩, ⟨b1, b2⟩, b3, b4, b5, b6, b7, ⟨b8, b9⟩, b10, ⟨b11, b12⟩, b13, b14⟩ := id hA
  obtain ⟨okd, e16, e17, e540, e541, eL, eJ⟩ := id b5
  obtain ⟨o1, o2, o3, o4, o5, o6⟩ := id okd
  have p6 : 2 ^ dL (aD A) ≤ 64 := Nat.pow_le_pow_right (n := 2) (by decide) o1
  obtain ⟨k0, k1, k2, k3, k4, k5⟩ := id a5
  refine r_aload_n C dX8_see_0 rfl ?_
  refine r_iload_n C dX8_see_1 rfl ?_
  refine r_cVi C F dX8_see_2 (s8_isLord) tw_850 m8_isLord (rfl) rfl (by decide) rfl (Nat.le_of_ble_eq_true rfl) ?_
  refine r_if_eq 16 C dX8_see_5 (by decide) (fun c_5 => ?_) (fun c_5 => ?_)
  · rw [bz_eq0, e16] at c_5
    refine r_ldc C dX8_see_16 tw_854 ?_
    exact r_iret C F dX8_see_18 (by unfold opSee; rw [if_pos (fun q => c_5 q.1)]; exact ⟨rfl, hA, fun _ _ => rfl⟩)
  · rw [bz_ne0, e16] at c_5
    refine r_aload_n C dX8_see_8 rfl ?_
    refine r_iload_n C dX8_see_9 rfl ?_
    refine r_cVi C F dX8_see_10 (s8_isJoke) tw_863 m8_isJoke (rfl) rfl (by decide) rfl (Nat.le_of_ble_eq_true rfl) ?_
    refine r_if_ne 19 C dX8_see_13 (by decide) (fun c_13 => ?_) (fun c_13 => ?_)
    · rw [bz_ne0, e17] at c_13
      have hxy : inP x 0 (nI (dL (aD A)) - 1) ∧ inP y 0 (nI (dJ (aD A)) - 1) := ⟨c_5, c_13⟩
      have hxy0 := hxy
      obtain ⟨i, hi, rfl⟩ := (inP_lord rfl o1).mp c_5
      obtain ⟨j, hj, rfl⟩ := (inP_lord rfl o2).mp c_13
      refine r_aload_n C dX8_see_19 rfl ?_
      refine r_getI C dX8_see_20 flX8_151 (rfl) rfl ?_
      refine r_bipush (6) C dX8_see_23 rfl ?_
      refine r_icmp_ne 31 C dX8_see_25 (by decide) (fun c_25 => ?_) (fun c_25 => ?_)
      · rw [cEq (x := h 49 31) (c := 6) (i := (aG A).length) (n := 6) (b11) (rfl) (by omega) (by omega)] at c_25
        refine r_aload_n C dX8_see_31 rfl ?_
        refine r_getR C dX8_see_32 flX8_60 (rfl) rfl ?_
        refine r_iconst (3) C dX8_see_35 rfl ?_
        refine r_aload_n C dX8_see_36 rfl ?_
        refine r_getI C dX8_see_37 flX8_151 (rfl) rfl ?_
        refine r_imul C dX8_see_40 ?_
        refine r_iload_n C dX8_see_41 rfl ?_
        refine r_iast (3 * (aG A).length) C dX8_see_42 (rfl) (by rw [b11]; exact nI_lit3 _) (by omega) (by decide) ?_
        refine r_aload_n C dX8_see_43 rfl ?_
        refine r_getR C dX8_see_44 flX8_60 (rfl) rfl ?_
        refine r_iconst (3) C dX8_see_47 rfl ?_
        refine r_aload_n C dX8_see_48 rfl ?_
        refine r_getI C dX8_see_49 flX8_151 (rfl) rfl ?_
        refine r_imul C dX8_see_52 ?_
        refine r_iconst (1) C dX8_see_53 rfl ?_
        refine r_iadd C dX8_see_54 ?_
        refine r_iload_n C dX8_see_55 rfl ?_
        refine r_iast (3 * (aG A).length + 1) C dX8_see_56 (rfl) (by rw [up_row _ _ _ _ (by decide), b11]; exact ix31 _) (by omega) (by decide) ?_
        refine r_aload_n C dX8_see_57 rfl ?_
        refine r_getR C dX8_see_58 flX8_60 (rfl) rfl ?_
        refine r_iconst (3) C dX8_see_61 rfl ?_
        refine r_aload_n C dX8_see_62 rfl ?_
        refine r_getI C dX8_see_63 flX8_151 (rfl) rfl ?_
        refine r_imul C dX8_see_66 ?_
        refine r_iconst (2) C dX8_see_67 rfl ?_
        refine r_iadd C dX8_see_68 ?_
        refine r_iload_n C dX8_see_69 rfl ?_
        refine r_if_eq 77 C dX8_see_70 (by decide) (fun c_70 => ?_) (fun c_70 => ?_)
        · refine r_iconst (0) C dX8_see_77 rfl ?_
          refine r_iast (3 * (aG A).length + 2) C dX8_see_78 (rfl) (by rw [up_row _ _ _ _ (by decide), up_row _ _ _ _ (by decide), b11]; exact ix32 _) (by omega) (by decide) ?_
          refine r_aload_n C dX8_see_79 rfl ?_
          refine r_dup C dX8_see_80 rfl ?_
          refine r_getI C dX8_see_81 flX8_151 (rfl) rfl ?_
          refine r_iconst (1) C dX8_see_84 rfl ?_
          refine r_iadd C dX8_see_85 ?_
          refine r_putI C dX8_see_86 fwX8_151 (rfl) rfl ?_
          refine r_aload_n C dX8_see_89 rfl ?_
          refine r_getI C dX8_see_90 flX8_151 (rfl) rfl ?_
          refine r_iret C F dX8_see_93 ?_
          unfold opSee
          rw [if_neg (not_not_intro hxy0), if_neg c_25, cl_nI (by omega), cl_nI (by omega)]
          refine ⟨?_, ⟨⟨a1, a2, a3, a4, a5, a6, a7, a8, by rw [List.length_append]; simp; omega, (fun q hq => ?_), a11, a12⟩, ⟨b1, b2⟩, b3, b4, b5, b6, b7, ⟨b8, b9⟩, b10, ⟨?_, fun r q hq => ?_⟩, b13, b14⟩, fun a ha => ?_⟩
          · rw [up_self, up_row _ _ _ _ (by decide), up_row _ _ _ _ (by decide), up_row _ _ _ _ (by decide), b11, nI_1]
          · rcases List.mem_append.mp hq with c | c
            · exact a10 q c
            · rw [List.mem_singleton.mp c]; exact ⟨hi, hj⟩
          · rw [up_self, up_row _ _ _ _ (by decide), up_row _ _ _ _ (by decide), up_row _ _ _ _ (by decide), b11, nI_1, List.length_append]; rfl
          · rw [up_row _ _ _ _ (by decide)]
            rcases get_snoc hq with ⟨c, hq⟩ | ⟨rfl, rfl⟩
            · obtain ⟨d1, d2, d3⟩ := b12 r q hq
              refine ⟨?_, ?_, ?_⟩
              · rw [up_off _ _ _ _ (by omega), up_off _ _ _ _ (by omega), up_off _ _ _ _ (by omega)]; exact d1
              · rw [up_off _ _ _ _ (by omega), up_off _ _ _ _ (by omega), up_off _ _ _ _ (by omega)]; exact d2
              · rw [up_off _ _ _ _ (by omega), up_off _ _ _ _ (by omega), up_off _ _ _ _ (by omega)]; exact d3
            · refine ⟨?_, ?_, ?_⟩
              · rw [up_off _ _ _ _ (by omega), up_off _ _ _ _ (by omega), up_self]
              · rw [up_off _ _ _ _ (by omega), up_self]
              · rw [up_self]; simp [b01, c_70]
          · rw [up_row _ _ _ _ (by omega), up_row _ _ _ _ (by omega), up_row _ _ _ _ (by omega), up_row _ _ _ _ (by omega)]
        · refine r_iconst (1) C dX8_see_73 rfl ?_
          refine r_goto 78 C dX8_see_74 (by decide) ?_
          refine r_iast (3 * (aG A).length + 2) C dX8_see_78 (rfl) (by rw [up_row _ _ _ _ (by decide), up_row _ _ _ _ (by decide), b11]; exact ix32 _) (by omega) (by decide) ?_
          refine r_aload_n C dX8_see_79 rfl ?_
          refine r_dup C dX8_see_80 rfl ?_
          refine r_getI C dX8_see_81 flX8_151 (rfl) rfl ?_
          refine r_iconst (1) C dX8_see_84 rfl ?_
          refine r_iadd C dX8_see_85 ?_
          refine r_putI C dX8_see_86 fwX8_151 (rfl) rfl ?_
          refine r_aload_n C dX8_see_89 rfl ?_
          refine r_getI C dX8_see_90 flX8_151 (rfl) rfl ?_
          refine r_iret C F dX8_see_93 ?_
          unfold opSee
          rw [if_neg (not_not_intro hxy0), if_neg c_25, cl_nI (by omega), cl_nI (by omega)]
          refine ⟨?_, ⟨⟨a1, a2, a3, a4, a5, a6, a7, a8, by rw [List.length_append]; simp; omega, (fun q hq => ?_), a11, a12⟩, ⟨b1, b2⟩, b3, b4, b5, b6, b7, ⟨b8, b9⟩, b10, ⟨?_, fun r q hq => ?_⟩, b13, b14⟩, fun a ha => ?_⟩
          · rw [up_self, up_row _ _ _ _ (by decide), up_row _ _ _ _ (by decide), up_row _ _ _ _ (by decide), b11, nI_1]
          · rcases List.mem_append.mp hq with c | c
            · exact a10 q c
            · rw [List.mem_singleton.mp c]; exact ⟨hi, hj⟩
          · rw [up_self, up_row _ _ _ _ (by decide), up_row _ _ _ _ (by decide), up_row _ _ _ _ (by decide), b11, nI_1, List.length_append]; rfl
          · rw [up_row _ _ _ _ (by decide)]
            rcases get_snoc hq with ⟨c, hq⟩ | ⟨rfl, rfl⟩
            · obtain ⟨d1, d2, d3⟩ := b12 r q hq
              refine ⟨?_, ?_, ?_⟩
              · rw [up_off _ _ _ _ (by omega), up_off _ _ _ _ (by omega), up_off _ _ _ _ (by omega)]; exact d1
              · rw [up_off _ _ _ _ (by omega), up_off _ _ _ _ (by omega), up_off _ _ _ _ (by omega)]; exact d2
              · rw [up_off _ _ _ _ (by omega), up_off _ _ _ _ (by omega), up_off _ _ _ _ (by omega)]; exact d3
            · refine ⟨?_, ?_, ?_⟩
              · rw [up_off _ _ _ _ (by omega), up_off _ _ _ _ (by omega), up_self]
              · rw [up_off _ _ _ _ (by omega), up_self]
              · rw [up_self]; simp [b01, c_70]
          · rw [up_row _ _ _ _ (by omega), up_row _ _ _ _ (by omega), up_row _ _ _ _ (by omega), up_row _ _ _ _ (by omega)]
      · rw [cEq (x := h 49 31) (c := 6) (i := (aG A).length) (n := 6) (b11) (rfl) (by omega) (by omega)] at c_25
        refine r_ldc C dX8_see_28 tw_794 ?_
        exact r_iret C F dX8_see_30 (by unfold opSee; rw [if_neg (not_not_intro hxy0), if_pos c_25]; exact ⟨rfl, hA, fun _ _ => rfl⟩)
    · rw [bz_eq0, e17] at c_13
      refine r_ldc C dX8_see_16 tw_854 ?_
      exact r_iret C F dX8_see_18 (by unfold opSee; rw [if_pos (fun q => c_13 q.2)]; exact ⟨rfl, hA, fun _ _ => rfl⟩)
set_option maxHeartbeats 4000000 in
theorem s8_write {A : At} {x y : Int32} (hA : MA h A) : Sp l E SHP 2 M8_write [.ref (E.1 + 49), .int x, .int y] h (QM h (opWrite A x y)) := by
  refine Sp.of (by decide) (Nat.le_of_ble_eq_true rfl) (fun X C F => ?_)
  have C : Ok X E RX8 cX8_write 3 := C
  have F : Fn X l E SHP 2 (some FieldType.int) (QM h (opWrite A x y)) := F
  show G X E SHP (0, 0) 0 [(0, .ref (E.1 + 49)), (1, .int x), (2, .int y)] [] h
  obtain ⟨⟨a1, a2, a3, a4, a5, a6, a7, a8, a9, a10, a11, a12⟩, ⟨b1, b2⟩, b3, b4, b5, b6, b7, ⟨b8, b9⟩, b10, ⟨b11, b12⟩, b13, b14⟩ := id hA
  obtain ⟨okd, e16, e17, e540, e541, eL, eJ⟩ := id b5
  obtain ⟨o1, o2, o3, o4, o5, o6⟩ := id okd
  have p6 : 2 ^ dL (aD A) ≤ 64 := Nat.pow_le_pow_right (n := 2) (by decide) o1
  obtain ⟨k0, k1, k2, k3, k4, k5⟩ := id a5
  refine r_aload_n C dX8_write_0 rfl ?_
  refine r_iload_n C dX8_write_1 rfl ?_
  refine r_cVi C F dX8_write_2 (s8_isSet) tw_980 m8_isSet (rfl) rfl (by decide) rfl (Nat.le_of_ble_eq_true rfl) ?_
  refine r_if_ne 11 C dX8_write_5 (by decide) (fun c_5 => ?_) (fun c_5 => ?_)
  · rw [bz_ne0, every_nI o1 e16] at c_5
    have c_5b := c_5
    obtain ⟨j, hj, rfl⟩ := inP_of rfl (by omega) c_5
    refine r_iload_n C dX8_write_11 rfl ?_
    refine r_iconst (0) C dX8_write_12 rfl ?_
    refine r_sipush (999) C dX8_write_13 rfl ?_
    refine r_cSi C F dX8_write_16 (s8_in) tw_790 m8_in (by decide) rfl (Nat.le_of_ble_eq_true rfl) ?_
    refine r_if_ne 25 C dX8_write_19 (by decide) (fun c_19 => ?_) (fun c_19 => ?_)
    · rw [bz_ne0] at c_19
      have c_19b := c_19
      obtain ⟨i, hi, rfl⟩ := inP_of (n := 999) rfl (by omega) c_19
      refine r_aload_n C dX8_write_25 rfl ?_
      refine r_getI C dX8_write_26 flX8_154 (rfl) rfl ?_
      refine r_bipush (20) C dX8_write_29 rfl ?_
      refine r_icmp_ne 37 C dX8_write_31 (by decide) (fun c_31 => ?_) (fun c_31 => ?_)
      · rw [cEq (x := h 49 33) (c := 20) (i := (aE A).length) (n := 20) (b13) (rfl) (by omega) (by omega)] at c_31
        refine r_aload_n C dX8_write_37 rfl ?_
        refine r_getR C dX8_write_38 flX8_63 (rfl) rfl ?_
        refine r_iconst (2) C dX8_write_41 rfl ?_
        refine r_aload_n C dX8_write_42 rfl ?_
        refine r_getI C dX8_write_43 flX8_154 (rfl) rfl ?_
        refine r_imul C dX8_write_46 ?_
        refine r_iload_n C dX8_write_47 rfl ?_
        refine r_iast (2 * (aE A).length) C dX8_write_48 (rfl) (by rw [b13]; exact nI_lit2 _) (by omega) (by decide) ?_
        refine r_aload_n C dX8_write_49 rfl ?_
        refine r_getR C dX8_write_50 flX8_63 (rfl) rfl ?_
        refine r_iconst (2) C dX8_write_53 rfl ?_
        refine r_aload_n C dX8_write_54 rfl ?_
        refine r_getI C dX8_write_55 flX8_154 (rfl) rfl ?_
        refine r_imul C dX8_write_58 ?_
        refine r_iconst (1) C dX8_write_59 rfl ?_
        refine r_iadd C dX8_write_60 ?_
        refine r_iload_n C dX8_write_61 rfl ?_
        refine r_iast (2 * (aE A).length + 1) C dX8_write_62 (rfl) (by rw [up_row _ _ _ _ (by decide), b13]; exact ix21 _) (by omega) (by decide) ?_
        refine r_aload_n C dX8_write_63 rfl ?_
        refine r_dup C dX8_write_64 rfl ?_
        refine r_getI C dX8_write_65 flX8_154 (rfl) rfl ?_
        refine r_iconst (1) C dX8_write_68 rfl ?_
        refine r_iadd C dX8_write_69 ?_
        refine r_putI C dX8_write_70 fwX8_154 (rfl) rfl ?_
        refine r_aload_n C dX8_write_73 rfl ?_
        refine r_getI C dX8_write_74 flX8_154 (rfl) rfl ?_
        refine r_iret C F dX8_write_77 ?_
        unfold opWrite
        rw [if_neg (not_not_intro c_5b), if_neg (not_not_intro c_19b), if_neg c_31, cl_nI (by omega), cl_nI (by omega)]
        refine ⟨?_, ⟨⟨a1, a2, a3, a4, a5, a6, a7, a8, a9, a10, by rw [List.length_append]; simp; omega, (fun q hq => ?_)⟩, ⟨b1, b2⟩, b3, b4, b5, b6, b7, ⟨b8, b9⟩, b10, ⟨b11, b12⟩, ?_, fun r q hq => ?_⟩, fun a ha => ?_⟩
        · rw [up_self, up_row _ _ _ _ (by decide), up_row _ _ _ _ (by decide), b13, nI_1]
        · rcases List.mem_append.mp hq with c | c
          · exact a12 q c
          · rw [List.mem_singleton.mp c]; exact ⟨hi, by show j < 64; omega⟩
        · rw [up_self, up_row _ _ _ _ (by decide), up_row _ _ _ _ (by decide), b13, nI_1, List.length_append]; rfl
        · rw [up_row _ _ _ _ (by decide)]
          rcases get_snoc hq with ⟨c, hq⟩ | ⟨rfl, rfl⟩
          · obtain ⟨d1, d2⟩ := b14 r q hq
            refine ⟨?_, ?_⟩
            · rw [up_off _ _ _ _ (by omega), up_off _ _ _ _ (by omega)]; exact d1
            · rw [up_off _ _ _ _ (by omega), up_off _ _ _ _ (by omega)]; exact d2
          · refine ⟨?_, ?_⟩
            · rw [up_off _ _ _ _ (by omega), up_self]
            · rw [up_self]
        · rw [up_row _ _ _ _ (by omega), up_row _ _ _ _ (by omega), up_row _ _ _ _ (by omega)]
      · rw [cEq (x := h 49 33) (c := 20) (i := (aE A).length) (n := 20) (b13) (rfl) (by omega) (by omega)] at c_31
        refine r_ldc C dX8_write_34 tw_794 ?_
        exact r_iret C F dX8_write_36 (by unfold opWrite; rw [if_neg (not_not_intro c_5b), if_neg (not_not_intro c_19b), if_pos c_31]; exact ⟨rfl, hA, fun _ _ => rfl⟩)
    · rw [bz_eq0] at c_19
      refine r_ldc C dX8_write_22 tw_793 ?_
      exact r_iret C F dX8_write_24 (by unfold opWrite; rw [if_neg (not_not_intro c_5b), if_pos c_19]; exact ⟨rfl, hA, fun _ _ => rfl⟩)
  · rw [bz_eq0, every_nI o1 e16] at c_5
    refine r_ldc C dX8_write_8 tw_854 ?_
    exact r_iret C F dX8_write_10 (by unfold opWrite; rw [if_pos c_5]; exact ⟨rfl, hA, fun _ _ => rfl⟩)
