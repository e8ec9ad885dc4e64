variable {l : Launch} {E : Ev} {h : Hp}
/-- the class's book, what it has seen -/
def CE (h : Hp) (L : List (Nat × Nat)) : Prop := h 30 6 = nI L.length ∧ ∀ r q, L[r]? = some q → h 34 r = nI q.1 ∧ h 35 r = nI q.2
def CG (h : Hp) (L : List (Nat × Nat × Bool)) : Prop := h 30 5 = nI L.length ∧ ∀ r q, L[r]? = some q → h 31 r = nI q.1 ∧ h 32 r = nI q.2.1 ∧ h 33 r = b01 q.2.2
set_option maxHeartbeats 4000000 in
theorem s6_forget  : Sp l E SHP 0 M6_forget [.ref (E.1 + 30)] h (PD none (up (up h 30 5 0) 30 6 0)) := by
  refine Sp.of (by decide) (Nat.le_of_ble_eq_true rfl) (fun X C F => ?_)
  have C : Ok X E RX6 cX6_forget 1 := C
  have F : Fn X l E SHP 0 none (PD none (up (up h 30 5 0) 30 6 0)) := F
  show G X E SHP (0, 0) 0 [(0, .ref (E.1 + 30))] [] h
  refine r_aload_n C dX6_forget_0 rfl ?_
  refine r_iconst (0) C dX6_forget_1 rfl ?_
  refine r_putI C dX6_forget_2 fwX6_28 (rfl) rfl ?_
  refine r_aload_n C dX6_forget_5 rfl ?_
  refine r_iconst (0) C dX6_forget_6 rfl ?_
  refine r_putI C dX6_forget_7 fwX6_32 (rfl) rfl ?_
  exact r_vret C F dX6_forget_10 (pd_v (rfl))
set_option maxHeartbeats 4000000 in
theorem s6_addEntry {n : Nat} {x y : Int32} (hn : h 30 6 = nI n) (hl : n < 20) : Sp l E SHP 0 M6_addEntry [.ref (E.1 + 30), .int x, .int y] h (PD none (up (up (up h 34 n x) 35 n y) 30 6 (nI (n + 1)))) := by
  refine Sp.of (by decide) (Nat.le_of_ble_eq_true rfl) (fun X C F => ?_)
  have C : Ok X E RX6 cX6_addEntry 3 := C
  have F : Fn X l E SHP 0 none (PD none (up (up (up h 34 n x) 35 n y) 30 6 (nI (n + 1)))) := F
  show G X E SHP (0, 0) 0 [(0, .ref (E.1 + 30)), (1, .int x), (2, .int y)] [] h
  refine r_aload_n C dX6_addEntry_0 rfl ?_
  refine r_getI C dX6_addEntry_1 flX6_32 (rfl) rfl ?_
  refine r_bipush (20) C dX6_addEntry_4 rfl ?_
  refine r_icmp_lt 10 C dX6_addEntry_6 (by decide) (fun c_6 => ?_) (fun c_6 => ?_)
  · rw [cLt (x := h 30 6) (c := 20) (i := n) (n := 20) (hn) (rfl) (by omega) (by omega)] at c_6
    refine r_aload_n C dX6_addEntry_10 rfl ?_
    refine r_getR C dX6_addEntry_11 flX6_22 (rfl) rfl ?_
    refine r_aload_n C dX6_addEntry_14 rfl ?_
    refine r_getI C dX6_addEntry_15 flX6_32 (rfl) rfl ?_
    refine r_iload_n C dX6_addEntry_18 rfl ?_
    refine r_iast (n) C dX6_addEntry_19 (rfl) (hn) (by omega) (by decide) ?_
    refine r_aload_n C dX6_addEntry_20 rfl ?_
    refine r_getR C dX6_addEntry_21 flX6_25 (rfl) rfl ?_
    refine r_aload_n C dX6_addEntry_24 rfl ?_
    refine r_getI C dX6_addEntry_25 flX6_32 (rfl) rfl ?_
    refine r_iload_n C dX6_addEntry_28 rfl ?_
    refine r_iast (n) C dX6_addEntry_29 (rfl) (hn) (by omega) (by decide) ?_
    refine r_aload_n C dX6_addEntry_30 rfl ?_
    refine r_dup C dX6_addEntry_31 rfl ?_
    refine r_getI C dX6_addEntry_32 flX6_32 (rfl) rfl ?_
    refine r_iconst (1) C dX6_addEntry_35 rfl ?_
    refine r_iadd C dX6_addEntry_36 ?_
    refine r_putI C dX6_addEntry_37 fwX6_32 (rfl) rfl ?_
    exact r_vret C F dX6_addEntry_40 (pd_v (by rw [nI_succ, ← hn]; rfl))
  · rw [cLt (x := h 30 6) (c := 20) (i := n) (n := 20) (hn) (rfl) (by omega) (by omega)] at c_6
    omega
set_option maxHeartbeats 4000000 in
theorem s6_addSeen {n : Nat} {x y : Int32} {z : Bool} (hn : h 30 5 = nI n) (hl : n < 6) : Sp l E SHP 0 M6_addSeen [.ref (E.1 + 30), .int x, .int y, .int (b01 z)] h (PD none (up (up (up (up h 31 n x) 32 n y) 33 n (b01 z)) 30 5 (nI (n + 1)))) := by
  refine Sp.of (by decide) (Nat.le_of_ble_eq_true rfl) (fun X C F => ?_)
  have C : Ok X E RX6 cX6_addSeen 4 := C
  have F : Fn X l E SHP 0 none (PD none (up (up (up (up h 31 n x) 32 n y) 33 n (b01 z)) 30 5 (nI (n + 1)))) := F
  show G X E SHP (0, 0) 0 [(0, .ref (E.1 + 30)), (1, .int x), (2, .int y), (3, .int (b01 z))] [] h
  refine r_aload_n C dX6_addSeen_0 rfl ?_
  refine r_getI C dX6_addSeen_1 flX6_28 (rfl) rfl ?_
  refine r_bipush (6) C dX6_addSeen_4 rfl ?_
  refine r_icmp_lt 10 C dX6_addSeen_6 (by decide) (fun c_6 => ?_) (fun c_6 => ?_)
  · rw [cLt (x := h 30 5) (c := 6) (i := n) (n := 6) (hn) (rfl) (by omega) (by omega)] at c_6
    refine r_aload_n C dX6_addSeen_10 rfl ?_
    refine r_getR C dX6_addSeen_11 flX6_9 (rfl) rfl ?_
    refine r_aload_n C dX6_addSeen_14 rfl ?_
    refine r_getI C dX6_addSeen_15 flX6_28 (rfl) rfl ?_
    refine r_iload_n C dX6_addSeen_18 rfl ?_
    refine r_iast (n) C dX6_addSeen_19 (rfl) (hn) (by omega) (by decide) ?_
    refine r_aload_n C dX6_addSeen_20 rfl ?_
    refine r_getR C dX6_addSeen_21 flX6_15 (rfl) rfl ?_
    refine r_aload_n C dX6_addSeen_24 rfl ?_
    refine r_getI C dX6_addSeen_25 flX6_28 (rfl) rfl ?_
    refine r_iload_n C dX6_addSeen_28 rfl ?_
    refine r_iast (n) C dX6_addSeen_29 (rfl) (hn) (by omega) (by decide) ?_
    refine r_aload_n C dX6_addSeen_30 rfl ?_
    refine r_getR C dX6_addSeen_31 flX6_18 (rfl) rfl ?_
    refine r_aload_n C dX6_addSeen_34 rfl ?_
    refine r_getI C dX6_addSeen_35 flX6_28 (rfl) rfl ?_
    refine r_iload_n C dX6_addSeen_38 rfl ?_
    refine r_zast (n) C dX6_addSeen_39 (rfl) (hn) (by omega) (by decide) (b01_01 _) ?_
    refine r_aload_n C dX6_addSeen_40 rfl ?_
    refine r_dup C dX6_addSeen_41 rfl ?_
    refine r_getI C dX6_addSeen_42 flX6_28 (rfl) rfl ?_
    refine r_iconst (1) C dX6_addSeen_45 rfl ?_
    refine r_iadd C dX6_addSeen_46 ?_
    refine r_putI C dX6_addSeen_47 fwX6_28 (rfl) rfl ?_
    exact r_vret C F dX6_addSeen_50 (pd_v (by rw [nI_succ, ← hn]; rfl))
  · rw [cLt (x := h 30 5) (c := 6) (i := n) (n := 6) (hn) (rfl) (by omega) (by omega)] at c_6
    omega
set_option maxHeartbeats 4000000 in
theorem s6_firstWrong {L : List (Nat × Nat)} {T I : Nat} (hC : CE h L) (hl : L.length ≤ 20) (hb : ∀ q ∈ L, q.1 ≤ 999 ∧ q.2 < 64) (hT : T < 100000) (hI : I < 64) : Sp l E SHP 0 M6_firstWrong [.ref (E.1 + 30), .int (nI T), .int (nI I)] h (PD (some (.int (judA T I L 0))) h) := by
  refine Sp.of (by decide) (Nat.le_of_ble_eq_true rfl) (fun X C F => ?_)
  have C : Ok X E RX6 cX6_firstWrong 4 := C
  have F : Fn X l E SHP 0 (some FieldType.int) (PD (some (.int (judA T I L 0))) h) := F
  show G X E SHP (0, 0) 0 [(0, .ref (E.1 + 30)), (1, .int (nI T)), (2, .int (nI I))] [] h
  have Lp : ∀ k, k ≤ L.length → judA T I (L.drop k) k = judA T I L 0 → G X E SHP (0, 0) 2 [(0, .ref (E.1 + 30)), (1, .int (nI T)), (2, .int (nI I)), (3, .int (nI k))] [] h := by
    refine loopN L.length _ (fun k hk ih hj => ?_)
    refine r_iload_n C dX6_firstWrong_2 rfl ?_
    refine r_aload_n C dX6_firstWrong_3 rfl ?_
    refine r_getI C dX6_firstWrong_4 flX6_32 (rfl) rfl ?_
    refine r_icmp_ge 38 C dX6_firstWrong_7 (by decide) (fun c_7 => ?_) (fun c_7 => ?_)
    · rw [cLe (x := h 30 6) (c := nI k) (i := L.length) (n := k) (hC.1) (rfl) (by omega) (by omega)] at c_7
      refine r_iconst (-1) C dX6_firstWrong_38 rfl ?_
      exact r_iret C F dX6_firstWrong_39 (pd_i (by rw [← hj, List.drop_eq_nil_of_le (by omega)]; rfl) rfl)
    · rw [cLe (x := h 30 6) (c := nI k) (i := L.length) (n := k) (hC.1) (rfl) (by omega) (by omega)] at c_7
      obtain ⟨q, hq⟩ : ∃ q, L[k]? = some q := ⟨_, List.getElem?_eq_getElem (by omega)⟩
      obtain ⟨m1, m2⟩ := hb q (List.mem_of_getElem? hq)
      obtain ⟨r1, r2⟩ := hC.2 k q hq
      have e : L.drop k = q :: L.drop (k + 1) := by
        rw [List.drop_eq_getElem_cons (by omega)]
        have := (List.getElem?_eq_some_iff.mp hq).2
        rw [this]
      rw [e] at hj
      have hj : (if q.1 = T ∧ ¬ q.2 = I then nI k else judA T I (L.drop (k + 1)) (k + 1)) = judA T I L 0 := hj
      refine r_aload_n C dX6_firstWrong_10 rfl ?_
      refine r_getR C dX6_firstWrong_11 flX6_22 (rfl) rfl ?_
      refine r_iload_n C dX6_firstWrong_14 rfl ?_
      refine r_iald (k) C dX6_firstWrong_15 (rfl) (rfl) (by omega) (by decide) ?_
      rw [r1]
      refine r_iload_n C dX6_firstWrong_16 rfl ?_
      refine r_icmp_ne 32 C dX6_firstWrong_17 (by decide) (fun c_17 => ?_) (fun c_17 => ?_)
      · rw [cEq (x := nI q.1) (c := nI T) (i := q.1) (n := T) (rfl) (rfl) (by omega) (by omega)] at c_17
        refine r_inc (1) C dX6_firstWrong_32 rfl (by decide) rfl rfl ?_
        refine r_goto 2 C dX6_firstWrong_35 (by decide) ?_
        rw [if_neg (fun z => c_17 z.1)] at hj
        exact (ih (by omega) hj).sub ⟨rfl, rfl, rfl, by rw [nI_succ]; rfl, trivial⟩
      · rw [cEq (x := nI q.1) (c := nI T) (i := q.1) (n := T) (rfl) (rfl) (by omega) (by omega)] at c_17
        refine r_aload_n C dX6_firstWrong_20 rfl ?_
        refine r_getR C dX6_firstWrong_21 flX6_25 (rfl) rfl ?_
        refine r_iload_n C dX6_firstWrong_24 rfl ?_
        refine r_iald (k) C dX6_firstWrong_25 (rfl) (rfl) (by omega) (by decide) ?_
        rw [r2]
        refine r_iload_n C dX6_firstWrong_26 rfl ?_
        refine r_icmp_eq 32 C dX6_firstWrong_27 (by decide) (fun c_27 => ?_) (fun c_27 => ?_)
        · rw [cEq (x := nI q.2) (c := nI I) (i := q.2) (n := I) (rfl) (rfl) (by omega) (by omega)] at c_27
          refine r_inc (1) C dX6_firstWrong_32 rfl (by decide) rfl rfl ?_
          refine r_goto 2 C dX6_firstWrong_35 (by decide) ?_
          rw [if_neg (fun z => z.2 c_27)] at hj
          exact (ih (by omega) hj).sub ⟨rfl, rfl, rfl, by rw [nI_succ]; rfl, trivial⟩
        · rw [cEq (x := nI q.2) (c := nI I) (i := q.2) (n := I) (rfl) (rfl) (by omega) (by omega)] at c_27
          refine r_iload_n C dX6_firstWrong_30 rfl ?_
          exact r_iret C F dX6_firstWrong_31 (pd_i (by rw [← hj, if_pos ⟨c_17, c_27⟩]) rfl)
  refine r_iconst (0) C dX6_firstWrong_0 rfl ?_
  refine r_istore_n C dX6_firstWrong_1 (by decide) rfl ?_
  exact (Lp 0 (Nat.zero_le _) rfl).sub ⟨rfl, rfl, rfl, rfl, trivial⟩
