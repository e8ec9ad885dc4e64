variable {l : Launch} {E : Ev} {h : Hp}
abbrev Rd (α : Type) : Type := (Nat × Nat) ⊕ α
def rdN (t : Nat → Int32) (n lo hi p : Nat) : Rd (Nat × Nat) := if sk t n p < n ∧ isDg (t (sk t n p)) then (if dg t n (sk t n p) < 4 ∧ lo ≤ vl t (sk t n p) (dg t n (sk t n p)) ∧ vl t (sk t n p) (dg t n (sk t n p)) ≤ hi then .inr (vl t (sk t n p) (dg t n (sk t n p)), sk t n p + dg t n (sk t n p)) else .inl (sk t n p, 2)) else .inl (sk t n p, 1)
def rdE (t : Nat → Int32) (n p : Nat) : Rd Nat := if sk t n p < n ∧ t (sk t n p) = 59 then .inr (sk t n p + 1) else .inl (sk t n p, 1)
def s49 (m : Nat) (h g : Hp) : Prop := (∀ a, a ≠ 49 → g a = h a) ∧ ∀ k, ¬ (2 ≤ k ∧ k ≤ m) → g 49 k = h 49 k
theorem s49.mono {m m2 : Nat} {g : Hp} (q : s49 m h g) (hm : m ≤ m2) : s49 m2 h g := ⟨q.1, fun k hk => q.2 k (by omega)⟩
theorem s49.tr {m m2 : Nat} {g k : Hp} (p : s49 m h g) (q : s49 m2 g k) (hm : m ≤ m2) : s49 m2 h k := ⟨fun a ha => (q.1 a ha).trans (p.1 a ha), fun j hj => (q.2 j hj).trans (p.2 j (by omega))⟩
def failM (h : Hp) (k : Int32) : Hp := up (up h 49 7 (h 49 3)) 49 8 k
def pP (h g : Hp) : Prop := (∀ a, a ≠ 49 → a ≠ 51 → a ≠ 52 → a ≠ 53 → g a = h a) ∧ ∀ k, ¬ (2 ≤ k ∧ k ≤ 11) → g 49 k = h 49 k
theorem pP.rf : pP h h := ⟨fun _ _ _ _ _ => rfl, fun _ _ => rfl⟩
theorem pP.tr {g k : Hp} (p : pP h g) (q : pP g k) : pP h k := ⟨fun a h1 h2 h3 h4 => (q.1 a h1 h2 h3 h4).trans (p.1 a h1 h2 h3 h4), fun j hj => (q.2 j hj).trans (p.2 j hj)⟩
theorem s49.P {m : Nat} {g : Hp} (q : s49 m h g) (hm : m ≤ 11) : pP h g := ⟨fun a h1 _ _ _ => q.1 a h1, fun k hk => q.2 k (by omega)⟩
theorem pP.up49 {g : Hp} (q : pP h g) {k : Nat} (x : Int32) (hk : 2 ≤ k ∧ k ≤ 11) : pP h (up g 49 k x) := ⟨fun a h1 h2 h3 h4 => by rw [up_row _ _ _ _ h1]; exact q.1 a h1 h2 h3 h4, fun j hj => by rw [up_off _ _ _ _ (by omega)]; exact q.2 j hj⟩
theorem pP.upx {g : Hp} (q : pP h g) {b k : Nat} (x : Int32) (hb : b = 51 ∨ b = 52 ∨ b = 53) : pP h (up g b k x) := ⟨fun a h1 h2 h3 h4 => by rw [up_row _ _ _ _ (by omega)]; exact q.1 a h1 h2 h3 h4, fun j hj => by rw [up_row _ _ _ _ (by omega)]; exact q.2 j hj⟩
def rdB {α : Type} (r : Rd α) : Int32 := match r with
  | .inr _ => 1
  | .inl _ => 0
theorem rdB_t {α : Type} {r : Rd α} (q : ¬ rdB r = 0) : ∃ x, r = .inr x := by
  cases r with
  | inl e => exact absurd rfl q
  | inr x => exact ⟨x, rfl⟩
theorem rdB_f {α : Type} {r : Rd α} (q : rdB r = 0) : ∃ e, r = .inl e := by
  cases r with
  | inl e => exact ⟨e, rfl⟩
  | inr x => exact absurd q (show ¬ (1 : Int32) = 0 by decide)
theorem narrow_rdB {α : Type} (r : Rd α) : narrow .boolean (.int (rdB r)) = .int (rdB r) := by
  cases r with
  | inl e => show narrow .boolean (.int 0) = .int 0; rfl
  | inr x => show narrow .boolean (.int 1) = .int 1; rfl
/-- what a reading leaves: it went on, or its fault is noted -/
def QR {α : Type} (h : Hp) (r : Rd α) (ok : α → Hp → Prop) : Pst := fun v g => v = some (.int (rdB r)) ∧ match r with
  | .inr x => ok x g
  | .inl e => pP h g ∧ g 49 7 = nI e.1 ∧ g 49 8 = nI e.2
/-- the text that is read -/
def TX (h : Hp) (t : Nat → Int32) (n : Nat) : Prop := h 50 = t ∧ h 49 0 = nI n ∧ n ≤ 200 ∧ ∀ k, k < n → inP (t k) 0 255
theorem TX.s {g : Hp} {t : Nat → Int32} {n : Nat} (q : TX h t n) (s : pP h g) : TX g t n := ⟨(s.1 50 (by decide) (by decide) (by decide) (by decide)).trans q.1, (s.2 0 (by decide)).trans q.2.1, q.2.2⟩
theorem dg_all {t : Nat → Int32} {n : Nat} : ∀ f q j, j < dgN t n f q → isDg (t (q + j))
  | 0, q, j, hj => absurd hj (Nat.not_lt_zero _)
  | f + 1, q, j, hj => by
    have hj : j < (if q < n ∧ isDg (t q) then dgN t n f (q + 1) + 1 else 0) := hj
    by_cases c : q < n ∧ isDg (t q)
    · rw [if_pos c] at hj
      match j, hj with
      | 0, _ => exact c.2
      | j + 1, hj =>
        have := dg_all (t := t) (n := n) f (q + 1) j (by omega)
        rw [show q + (j + 1) = q + 1 + j by omega]
        exact this
    · rw [if_neg c] at hj
      omega
set_option maxHeartbeats 4000000 in
theorem s8_fails {k : Int32} : Sp l E SHP 0 M8_fails [.ref (E.1 + 49), .int k] h (PD (some (.int 0)) (failM h k)) := by
  refine Sp.of (by decide) (Nat.le_of_ble_eq_true rfl) (fun X C F => ?_)
  have C : Ok X E RX8 cX8_fails 2 := C
  have F : Fn X l E SHP 0 (some FieldType.boolean) (PD (some (.int 0)) (failM h k)) := F
  show G X E SHP (0, 0) 0 [(0, .ref (E.1 + 49)), (1, .int k)] [] h
  refine r_aload_n C dX8_fails_0 rfl ?_
  refine r_aload_n C dX8_fails_1 rfl ?_
  refine r_getI C dX8_fails_2 flX8_94 (rfl) rfl ?_
  refine r_putI C dX8_fails_5 fwX8_13 (rfl) rfl ?_
  refine r_aload_n C dX8_fails_8 rfl ?_
  refine r_iload_n C dX8_fails_9 rfl ?_
  refine r_putI C dX8_fails_10 fwX8_106 (rfl) rfl ?_
  refine r_iconst (0) C dX8_fails_13 rfl ?_
  exact r_zret C F dX8_fails_14 (by first | rfl | exact narrow_bz _) (pd_i (rfl) (rfl))
set_option maxHeartbeats 4000000 in
theorem s8_isNumber {t : Nat → Int32} {n lo hi p : Nat} (hT : TX h t n) (hp0 : h 49 2 = nI p) (hp : p ≤ n) (hlo : lo ≤ 100) (hhi : hi ≤ 100) : Sp l E SHP 2 M8_isNumber [.ref (E.1 + 49), .int (nI lo), .int (nI hi)] h (QR h (rdN t n lo hi p) (fun x g => s49 6 h g ∧ g 49 5 = nI x.1 ∧ g 49 2 = nI x.2 ∧ x.2 ≤ n)) := by
  refine Sp.of (by decide) (Nat.le_of_ble_eq_true rfl) (fun X C F => ?_)
  have C : Ok X E RX8 cX8_isNumber 3 := C
  have F : Fn X l E SHP 2 (some FieldType.boolean) (QR h (rdN t n lo hi p) (fun x g => s49 6 h g ∧ g 49 5 = nI x.1 ∧ g 49 2 = nI x.2 ∧ x.2 ≤ n)) := F
  show G X E SHP (0, 0) 0 [(0, .ref (E.1 + 49)), (1, .int (nI lo)), (2, .int (nI hi))] [] h
  obtain ⟨e50, e0, hn2, hin⟩ := id hT
  refine r_aload_n C dX8_isNumber_0 rfl ?_
  refine r_callV C F dX8_isNumber_1 (s8_nextToken (n := n) (p := p) e0 hn2 hp0 hp) tw_803 m8_nextToken (rfl) rfl (by decide) rfl (Nat.le_of_ble_eq_true rfl) (fun v g hq => ?_)
  obtain ⟨rfl, hq⟩ := hq
  rw [e50] at hq
  have hsk := sk_le (t := t) hp
  generalize hQ : sk t n p = q at hq hsk
  obtain ⟨t1, t2, t3, t4, t5, t6, t7⟩ := hq
  refine r_aload_n C dX8_isNumber_4 rfl ?_
  refine r_getI C dX8_isNumber_5 flX8_103 (rfl) rfl ?_
  refine r_iconst (-1) C dX8_isNumber_8 rfl ?_
  refine r_icmp_eq 18 C dX8_isNumber_9 (by decide) (fun c_9 => ?_) (fun c_9 => ?_)
  · rw [t5] at c_9
    have hdd : q < n ∧ isDg (t q) := by
      unfold tkT at c_9
      by_cases c1 : q = n
      · rw [if_pos c1] at c_9; exact absurd c_9 (show ¬ (-2 : Int32) = -1 by decide)
      · rw [if_neg c1] at c_9
        refine ⟨by omega, ?_⟩
        by_cases c2 : isDg (t q)
        · exact c2
        · rw [if_neg c2] at c_9
          have := (hin q (by omega)).1
          rw [show t q = -1 from c_9] at this
          exact absurd this (by decide)
    have htk : tkT t n q = (-1, vl t q (dg t n q), dg t n q, q + dg t n q) := by unfold tkT; rw [if_neg (by omega), if_pos hdd.2]
    rw [htk] at t3 t6 t7
    have hdl := dg_le (t := t) (n := n) (q := q) (by omega)
    have hvl := (vl_lt (t := t) (q := q) (dg t n q) (fun j hj => dg_all _ _ j hj)).1
    refine r_aload_n C dX8_isNumber_18 rfl ?_
    refine r_getI C dX8_isNumber_19 flX8_100 (rfl) rfl ?_
    refine r_iconst (4) C dX8_isNumber_22 rfl ?_
    refine r_icmp_ge 38 C dX8_isNumber_23 (by decide) (fun c_23 => ?_) (fun c_23 => ?_)
    · rw [cLe (x := 4) (c := g 49 6) (i := 4) (n := dg t n q) (rfl) (t7) (by omega) (by omega)] at c_23
      refine r_aload_n C dX8_isNumber_38 rfl ?_
      refine r_iconst (2) C dX8_isNumber_39 rfl ?_
      refine r_cVi C F dX8_isNumber_40 (s8_fails) tw_811 m8_fails (rfl) rfl (by decide) rfl (Nat.le_of_ble_eq_true rfl) ?_
      refine r_if_eq 50 C dX8_isNumber_43 (by decide) (fun c_43 => ?_) (fun c_43 => ?_)
      · refine r_iconst (0) C dX8_isNumber_50 rfl ?_
        refine r_zret C F dX8_isNumber_51 rfl ?_
        have hr : rdN t n lo hi p = .inl (q, 2) := by unfold rdN; rw [hQ, if_pos hdd, if_neg (fun z => absurd z.1 (by omega))]
        rw [hr]
        exact ⟨rfl, ⟨fun a ha _ _ _ => by show failM g 2 a = h a; unfold failM; rw [up_row _ _ _ _ ha, up_row _ _ _ _ ha]; exact t1 a ha, fun j hj => by show failM g 2 49 j = h 49 j; unfold failM; rw [up_off _ _ _ _ (by omega), up_off _ _ _ _ (by omega)]; exact t2 j (by omega)⟩, by show failM g 2 49 7 = _; unfold failM; rw [up_off _ _ _ _ (by decide), up_self]; exact t4, by show failM g 2 49 8 = _; unfold failM; rw [up_self]; rfl⟩
      · exact absurd rfl c_43
    · rw [cLe (x := 4) (c := g 49 6) (i := 4) (n := dg t n q) (rfl) (t7) (by omega) (by omega)] at c_23
      refine r_aload_n C dX8_isNumber_26 rfl ?_
      refine r_getI C dX8_isNumber_27 flX8_97 (rfl) rfl ?_
      refine r_iload_n C dX8_isNumber_30 rfl ?_
      refine r_iload_n C dX8_isNumber_31 rfl ?_
      refine r_cSi C F dX8_isNumber_32 (s8_in) tw_790 m8_in (by decide) rfl (Nat.le_of_ble_eq_true rfl) ?_
      refine r_if_ne 46 C dX8_isNumber_35 (by decide) (fun c_35 => ?_) (fun c_35 => ?_)
      · rw [bz_ne0, t6] at c_35
        refine r_iconst (1) C dX8_isNumber_46 rfl ?_
        refine r_goto 51 C dX8_isNumber_47 (by decide) ?_
        refine r_zret C F dX8_isNumber_51 rfl ?_
        have hr : rdN t n lo hi p = .inr (vl t q (dg t n q), q + dg t n q) := by unfold rdN; rw [hQ, if_pos hdd, if_pos ⟨by omega, (cLe (x := nI lo) (c := nI (vl t q (dg t n q))) rfl rfl (by omega) (by omega)).mp c_35.1, (cLe (x := nI (vl t q (dg t n q))) (c := nI hi) rfl rfl (by omega) (by omega)).mp c_35.2⟩]
        rw [hr]
        exact ⟨rfl, ⟨t1, t2⟩, t6, t3, hdl⟩
      · rw [bz_eq0, t6] at c_35
        refine r_aload_n C dX8_isNumber_38 rfl ?_
        refine r_iconst (2) C dX8_isNumber_39 rfl ?_
        refine r_cVi C F dX8_isNumber_40 (s8_fails) tw_811 m8_fails (rfl) rfl (by decide) rfl (Nat.le_of_ble_eq_true rfl) ?_
        refine r_if_eq 50 C dX8_isNumber_43 (by decide) (fun c_43 => ?_) (fun c_43 => ?_)
        · refine r_iconst (0) C dX8_isNumber_50 rfl ?_
          refine r_zret C F dX8_isNumber_51 rfl ?_
          have hr : rdN t n lo hi p = .inl (q, 2) := by unfold rdN; rw [hQ, if_pos hdd, if_neg (fun z => c_35 ⟨(cLe (x := nI lo) (c := nI (vl t q (dg t n q))) rfl rfl (by omega) (by omega)).mpr z.2.1, (cLe (x := nI (vl t q (dg t n q))) (c := nI hi) rfl rfl (by omega) (by omega)).mpr z.2.2⟩)]
          rw [hr]
          exact ⟨rfl, ⟨fun a ha _ _ _ => by show failM g 2 a = h a; unfold failM; rw [up_row _ _ _ _ ha, up_row _ _ _ _ ha]; exact t1 a ha, fun j hj => by show failM g 2 49 j = h 49 j; unfold failM; rw [up_off _ _ _ _ (by omega), up_off _ _ _ _ (by omega)]; exact t2 j (by omega)⟩, by show failM g 2 49 7 = _; unfold failM; rw [up_off _ _ _ _ (by decide), up_self]; exact t4, by show failM g 2 49 8 = _; unfold failM; rw [up_self]; rfl⟩
        · exact absurd rfl c_43
  · rw [t5] at c_9
    have hnd : ¬ (q < n ∧ isDg (t q)) := fun z => c_9 (by unfold tkT; rw [if_neg (by omega), if_pos z.2])
    refine r_aload_n C dX8_isNumber_12 rfl ?_
    refine r_iconst (1) C dX8_isNumber_13 rfl ?_
    refine r_cVi C F dX8_isNumber_14 (s8_fails) tw_811 m8_fails (rfl) rfl (by decide) rfl (Nat.le_of_ble_eq_true rfl) ?_
    refine r_zret C F dX8_isNumber_17 rfl ?_
    have hr : rdN t n lo hi p = .inl (q, 1) := by unfold rdN; rw [hQ, if_neg hnd]
    rw [hr]
    exact ⟨rfl, ⟨fun a ha _ _ _ => by show failM g 1 a = h a; unfold failM; rw [up_row _ _ _ _ ha, up_row _ _ _ _ ha]; exact t1 a ha, fun j hj => by show failM g 1 49 j = h 49 j; unfold failM; rw [up_off _ _ _ _ (by omega), up_off _ _ _ _ (by omega)]; exact t2 j (by omega)⟩, by show failM g 1 49 7 = _; unfold failM; rw [up_off _ _ _ _ (by decide), up_self]; exact t4, by show failM g 1 49 8 = _; unfold failM; rw [up_self]; rfl⟩
set_option maxHeartbeats 4000000 in
theorem s8_isEnd {t : Nat → Int32} {n p : Nat} (hT : TX h t n) (hp0 : h 49 2 = nI p) (hp : p ≤ n) : Sp l E SHP 2 M8_isEnd [.ref (E.1 + 49)] h (QR h (rdE t n p) (fun x g => s49 6 h g ∧ g 49 2 = nI x ∧ x ≤ n)) := by
  refine Sp.of (by decide) (Nat.le_of_ble_eq_true rfl) (fun X C F => ?_)
  have C : Ok X E RX8 cX8_isEnd 1 := C
  have F : Fn X l E SHP 2 (some FieldType.boolean) (QR h (rdE t n p) (fun x g => s49 6 h g ∧ g 49 2 = nI x ∧ x ≤ n)) := F
  show G X E SHP (0, 0) 0 [(0, .ref (E.1 + 49))] [] h
  obtain ⟨e50, e0, hn2, hin⟩ := id hT
  refine r_aload_n C dX8_isEnd_0 rfl ?_
  refine r_callV C F dX8_isEnd_1 (s8_nextToken (n := n) (p := p) e0 hn2 hp0 hp) tw_803 m8_nextToken (rfl) rfl (by decide) rfl (Nat.le_of_ble_eq_true rfl) (fun v g hq => ?_)
  obtain ⟨rfl, hq⟩ := hq
  rw [e50] at hq
  have hsk := sk_le (t := t) hp
  generalize hQ : sk t n p = q at hq hsk
  obtain ⟨t1, t2, t3, t4, t5, t6, t7⟩ := hq
  refine r_aload_n C dX8_isEnd_4 rfl ?_
  refine r_getI C dX8_isEnd_5 flX8_103 (rfl) rfl ?_
  refine r_bipush (59) C dX8_isEnd_8 rfl ?_
  refine r_icmp_eq 21 C dX8_isEnd_10 (by decide) (fun c_10 => ?_) (fun c_10 => ?_)
  · rw [t5] at c_10
    have hee : q < n ∧ t q = 59 := by
      unfold tkT at c_10
      by_cases c1 : q = n
      · rw [if_pos c1] at c_10; exact absurd c_10 (show ¬ (-2 : Int32) = 59 by decide)
      · rw [if_neg c1] at c_10
        refine ⟨by omega, ?_⟩
        by_cases c2 : isDg (t q)
        · rw [if_pos c2] at c_10; exact absurd c_10 (show ¬ (-1 : Int32) = 59 by decide)
        · rw [if_neg c2] at c_10; exact c_10
    refine r_iconst (1) C dX8_isEnd_21 rfl ?_
    refine r_goto 26 C dX8_isEnd_22 (by decide) ?_
    refine r_zret C F dX8_isEnd_26 rfl ?_
    have hr : rdE t n p = .inr (q + 1) := by unfold rdE; rw [hQ, if_pos hee]
    rw [hr]
    exact ⟨rfl, ⟨t1, t2⟩, by rw [t3]; show nI (tkT t n q).2.2.2 = _; unfold tkT; rw [if_neg (by omega), if_neg (by rw [hee.2]; decide)], by omega⟩
  · rw [t5] at c_10
    have hee : ¬ (q < n ∧ t q = 59) := fun z => c_10 (by unfold tkT; rw [if_neg (by omega), if_neg (by rw [z.2]; decide)]; exact z.2)
    refine r_aload_n C dX8_isEnd_13 rfl ?_
    refine r_iconst (1) C dX8_isEnd_14 rfl ?_
    refine r_cVi C F dX8_isEnd_15 (s8_fails) tw_811 m8_fails (rfl) rfl (by decide) rfl (Nat.le_of_ble_eq_true rfl) ?_
    refine r_if_eq 25 C dX8_isEnd_18 (by decide) (fun c_18 => ?_) (fun c_18 => ?_)
    · refine r_iconst (0) C dX8_isEnd_25 rfl ?_
      refine r_zret C F dX8_isEnd_26 rfl ?_
      have hr : rdE t n p = .inl (q, 1) := by unfold rdE; rw [hQ, if_neg hee]
      rw [hr]
      exact ⟨rfl, ⟨fun a ha _ _ _ => by show failM g 1 a = h a; unfold failM; rw [up_row _ _ _ _ ha, up_row _ _ _ _ ha]; exact t1 a ha, fun j hj => by show failM g 1 49 j = h 49 j; unfold failM; rw [up_off _ _ _ _ (by omega), up_off _ _ _ _ (by omega)]; exact t2 j (by omega)⟩, by show failM g 1 49 7 = _; unfold failM; rw [up_off _ _ _ _ (by decide), up_self]; exact t4, by show failM g 1 49 8 = _; unfold failM; rw [up_self]; rfl⟩
    · exact absurd rfl c_18
