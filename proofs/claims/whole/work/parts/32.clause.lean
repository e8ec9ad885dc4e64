variable {l : Launch} {E : Ev} {h : Hp}
theorem b01_t {b : Bool} (q : ¬ b01 b = 0) : b = true := by
  cases b
  · exact absurd rfl q
  · rfl
theorem b01_f {b : Bool} (q : b01 b = 0) : b = false := by
  cases b
  · rfl
  · exact absurd q (show ¬ (1 : Int32) = 0 by decide)
def setH (D : HDt) (u v : Nat) : HDt := (dL D, dJ D, u, v, dB D, dS D, dT D, dK D, dF D)
def addL (D : HDt) (b s t : Nat) : HDt := (dL D + 1, dJ D, dU D, dN D, (fun k => if k = dL D then b else dB D k), (fun k => if k = dL D then s else dS D k), (fun k => if k = dL D then t else dT D k), dK D, dF D)
def addJ (D : HDt) (k f : Nat) : HDt := (dL D, dJ D + 1, dU D, dN D, dB D, dS D, dT D, (fun i => if i = dJ D then k else dK D i), (fun i => if i = dJ D then f else dF D i))
def D0 : HDt := (0, 0, 0, 0, fun _ => 0, fun _ => 0, fun _ => 0, fun _ => 0, fun _ => 0)
def clzF (t : Nat → Int32) (n q : Nat) (hh : Bool) (D : HDt) : Rd ((Bool × HDt) × Nat) :=
  if t q = 104 then (if hh = true then .inl (q, 3) else bnd (clH t n (q + 1)) fun x => .inr ((true, setH D x.1.1 x.1.2), x.2))
  else if hh = false then .inl (q, 1)
  else if t q = 108 then bnd (if dL D = 6 then .inl (q, 3) else clL t n (q + 1)) fun x => .inr ((true, addL D x.1.1 x.1.2.1 x.1.2.2), x.2)
  else if t q = 106 then bnd (if dJ D = 6 then .inl (q, 3) else clJ t n (q + 1)) fun x => .inr ((true, addJ D x.1.1 x.1.2), x.2)
  else .inl (q, 1)
def prs (t : Nat → Int32) (n : Nat) : Nat → Nat → Bool → HDt → Rd (Bool × HDt)
  | 0, _, hh, D => .inr (hh, D)
  | f + 1, p, hh, D => if sk t n p = n then .inr (hh, D) else bnd (clzF t n (sk t n p) hh D) fun x => prs t n f x.2 x.1.1 x.1.2
/-- what was read so far -/
def ST (g : Hp) (hh : Bool) (D : HDt) : Prop := g 49 9 = b01 hh ∧ g 49 10 = nI (dL D) ∧ g 49 11 = nI (dJ D) ∧ (hh = true → g 51 0 = nI (dU D) ∧ g 51 1 = nI (dN D)) ∧ (∀ i, i < dL D → g 52 (3 * i) = nI (dB D i) ∧ g 52 (3 * i + 1) = nI (dS D i) ∧ g 52 (3 * i + 2) = nI (dT D i)) ∧ (∀ j, j < dJ D → g 53 (2 * j) = nI (dK D j) ∧ g 53 (2 * j + 1) = nI (dF D j)) ∧ okD D ∧ (hh = false → dL D = 0 ∧ dJ D = 0 ∧ dU D = 0 ∧ dN D = 0)
theorem clH_in {t : Nat → Int32} {n p : Nat} {x : (Nat × Nat) × Nat} (e : clH t n p = .inr x) : x.1.1 ≤ 5 ∧ x.1.2 ≤ 3 := by
  unfold clH at e
  cases h1 : rdN t n 0 5 p with
  | inl z => rw [bnd_l h1] at e; cases e
  | inr a =>
    rw [bnd_r h1] at e
    cases h2 : rdN t n 0 3 a.2 with
    | inl z => rw [bnd_l h2] at e; cases e
    | inr b =>
      rw [bnd_r h2] at e
      cases h3 : rdE t n b.2 with
      | inl z => rw [bnd_l h3] at e; cases e
      | inr q =>
        rw [bnd_r h3] at e
        cases e
        exact ⟨(rdN_in h1).2, (rdN_in h2).2⟩
theorem clL_in {t : Nat → Int32} {n p : Nat} {x : (Nat × Nat × Nat) × Nat} (e : clL t n p = .inr x) : x.1.1 ≤ 2 ∧ 1 ≤ x.1.2.1 ∧ x.1.2.1 ≤ 20 ∧ x.1.2.2 ≤ 15 := by
  unfold clL at e
  cases h1 : rdN t n 0 2 p with
  | inl z => rw [bnd_l h1] at e; cases e
  | inr a =>
    rw [bnd_r h1] at e
    cases h2 : rdN t n 1 20 a.2 with
    | inl z => rw [bnd_l h2] at e; cases e
    | inr b =>
      rw [bnd_r h2] at e
      cases h3 : rdN t n 0 15 b.2 with
      | inl z => rw [bnd_l h3] at e; cases e
      | inr c =>
        rw [bnd_r h3] at e
        cases h4 : rdE t n c.2 with
        | inl z => rw [bnd_l h4] at e; cases e
        | inr q =>
          rw [bnd_r h4] at e
          cases e
          exact ⟨(rdN_in h1).2, (rdN_in h2).1, (rdN_in h2).2, (rdN_in h3).2⟩
theorem clJ_in {t : Nat → Int32} {n p : Nat} {x : (Nat × Nat) × Nat} (e : clJ t n p = .inr x) : x.1.1 ≤ 3 ∧ 1 ≤ x.1.2 ∧ x.1.2 ≤ 30 := by
  unfold clJ at e
  cases h1 : rdN t n 0 3 p with
  | inl z => rw [bnd_l h1] at e; cases e
  | inr a =>
    rw [bnd_r h1] at e
    cases h2 : rdN t n 1 30 a.2 with
    | inl z => rw [bnd_l h2] at e; cases e
    | inr b =>
      rw [bnd_r h2] at e
      cases h3 : rdE t n b.2 with
      | inl z => rw [bnd_l h3] at e; cases e
      | inr q =>
        rw [bnd_r h3] at e
        cases e
        exact ⟨(rdN_in h1).2, (rdN_in h2).1, (rdN_in h2).2⟩
theorem okD_setH {D : HDt} (q : okD D) {u v : Nat} (hu : u ≤ 5) (hv : v ≤ 3) : okD (setH D u v) := ⟨q.1, q.2.1, hu, hv, q.2.2.2.2.1, q.2.2.2.2.2⟩
theorem okD_addL {D : HDt} (q : okD D) (h6 : ¬ dL D = 6) {b s t : Nat} (x : b ≤ 2 ∧ 1 ≤ s ∧ s ≤ 20 ∧ t ≤ 15) : okD (addL D b s t) := by
  obtain ⟨o1, o2, o3, o4, o5, o6⟩ := q
  refine ⟨by show dL D + 1 ≤ 6; omega, o2, o3, o4, fun i hi => ?_, o6⟩
  show (if i = dL D then b else dB D i) ≤ 2 ∧ 1 ≤ (if i = dL D then s else dS D i) ∧ (if i = dL D then s else dS D i) ≤ 20 ∧ (if i = dL D then t else dT D i) ≤ 15
  by_cases c : i = dL D
  · simp only [if_pos c]; exact x
  · simp only [if_neg c]; exact o5 i (by have hi : i < dL D + 1 := hi; omega)
theorem okD_addJ {D : HDt} (q : okD D) (h6 : ¬ dJ D = 6) {k f : Nat} (x : k ≤ 3 ∧ 1 ≤ f ∧ f ≤ 30) : okD (addJ D k f) := by
  obtain ⟨o1, o2, o3, o4, o5, o6⟩ := q
  refine ⟨o1, by show dJ D + 1 ≤ 6; omega, o3, o4, o5, fun i hi => ?_⟩
  show (if i = dJ D then k else dK D i) ≤ 3 ∧ 1 ≤ (if i = dJ D then f else dF D i) ∧ (if i = dJ D then f else dF D i) ≤ 30
  by_cases c : i = dJ D
  · simp only [if_pos c]; exact x
  · simp only [if_neg c]; exact o6 i (by have hi : i < dJ D + 1 := hi; omega)
set_option maxHeartbeats 4000000 in
theorem s8_isClause {t : Nat → Int32} {n q : Nat} {hh : Bool} {D : HDt} (hT : TX h t n) (h3 : h 49 3 = nI q) (h4 : h 49 4 = (tkT t n q).1) (h2 : h 49 2 = nI (tkT t n q).2.2.2) (hqn : q < n) (hS : ST h hh D) : Sp l E SHP 4 M8_isClause [.ref (E.1 + 49)] h (QR h (clzF t n q hh D) (fun x g => pP h g ∧ ST g x.1.1 x.1.2 ∧ g 49 2 = nI x.2 ∧ x.2 ≤ n)) := by
  refine Sp.of (by decide) (Nat.le_of_ble_eq_true rfl) (fun X C F => ?_)
  have C : Ok X E RX8 cX8_isClause 1 := C
  have F : Fn X l E SHP 4 (some FieldType.boolean) (QR h (clzF t n q hh D) (fun x g => pP h g ∧ ST g x.1.1 x.1.2 ∧ g 49 2 = nI x.2 ∧ x.2 ≤ n)) := F
  show G X E SHP (0, 0) 0 [(0, .ref (E.1 + 49))] [] h
  obtain ⟨s1, s2, s3, s4, s5, s6, s7, s8⟩ := id hS
  refine r_aload_n C dX8_isClause_0 rfl ?_
  refine r_getI C dX8_isClause_1 flX8_103 (rfl) rfl ?_
  refine r_bipush (104) C dX8_isClause_4 rfl ?_
  refine r_icmp_ne 29 C dX8_isClause_6 (by decide) (fun c_6 => ?_) (fun c_6 => ?_)
  · rw [h4] at c_6
    have hnq104 : ¬ t q = 104 := fun z => c_6 (by unfold tkT; rw [if_neg (by omega), if_neg (by rw [z]; decide)]; exact z)
    refine r_aload_n C dX8_isClause_29 rfl ?_
    refine r_getI C dX8_isClause_30 flX8_119 (rfl) rfl ?_
    refine r_if_ne 42 C dX8_isClause_33 (by decide) (fun c_33 => ?_) (fun c_33 => ?_)
    · rw [s1] at c_33
      have hh1 : hh = true := b01_t c_33
      refine r_aload_n C dX8_isClause_42 rfl ?_
      refine r_getI C dX8_isClause_43 flX8_103 (rfl) rfl ?_
      refine r_bipush (108) C dX8_isClause_46 rfl ?_
      refine r_icmp_ne 58 C dX8_isClause_48 (by decide) (fun c_48 => ?_) (fun c_48 => ?_)
      · rw [h4] at c_48
        have hnq108 : ¬ t q = 108 := fun z => c_48 (by unfold tkT; rw [if_neg (by omega), if_neg (by rw [z]; decide)]; exact z)
        refine r_aload_n C dX8_isClause_58 rfl ?_
        refine r_getI C dX8_isClause_59 flX8_103 (rfl) rfl ?_
        refine r_bipush (106) C dX8_isClause_62 rfl ?_
        refine r_icmp_ne 74 C dX8_isClause_64 (by decide) (fun c_64 => ?_) (fun c_64 => ?_)
        · rw [h4] at c_64
          have hnq106 : ¬ t q = 106 := fun z => c_64 (by unfold tkT; rw [if_neg (by omega), if_neg (by rw [z]; decide)]; exact z)
          refine r_aload_n C dX8_isClause_74 rfl ?_
          refine r_iconst (1) C dX8_isClause_75 rfl ?_
          refine r_cVi C F dX8_isClause_76 (s8_fails) tw_811 m8_fails (rfl) rfl (by decide) rfl (Nat.le_of_ble_eq_true rfl) ?_
          refine r_zret C F dX8_isClause_79 rfl ?_
          rw [show clzF t n q hh D = .inl (q, 1) by unfold clzF; rw [if_neg hnq104, if_neg (by rw [hh1]; decide), if_neg hnq108, if_neg hnq106]]
          exact ⟨rfl, (pP.rf.up49 _ (by decide)).up49 _ (by decide), (by show up _ 49 8 _ 49 7 = _; rw [up_off _ _ _ _ (by decide), up_self]; exact h3), (by show up _ 49 8 _ 49 8 = _; rw [up_self]; rfl)⟩
        · rw [h4] at c_64
          have htq : t q = 106 := by
            unfold tkT at c_64
            rw [if_neg (by omega)] at c_64
            by_cases c2 : isDg (t q)
            · rw [if_pos c2] at c_64; exact absurd c_64 (show ¬ (-1 : Int32) = 106 by decide)
            · rw [if_neg c2] at c_64; exact c_64
          have hp2 : h 49 2 = nI (q + 1) := by rw [h2]; show nI (tkT t n q).2.2.2 = _; unfold tkT; rw [if_neg (by omega), if_neg (by rw [htq]; decide)]
          refine r_aload_n C dX8_isClause_67 rfl ?_
          refine r_callV C F dX8_isClause_68 (s8_isJokeItem (t := t) (n := n) (p := q + 1) (q := q) (r := dJ D) hT hp2 (by omega) h3 s3 s7.2.1) tw_831 m8_isJokeItem (rfl) rfl (by decide) rfl (Nat.le_of_ble_eq_true rfl) (fun v g hqi => ?_)
          obtain ⟨rfl, hqi⟩ := hqi
          refine r_goto 79 C dX8_isClause_71 (by decide) ?_
          refine r_zret C F dX8_isClause_79 (narrow_rdB _) ?_
          have hcl : clzF t n q hh D = bnd (if dJ D = 6 then .inl (q, 3) else clJ t n (q + 1)) fun x => .inr ((true, addJ D x.1.1 x.1.2), x.2) := by unfold clzF; rw [if_neg hnq104, if_neg (by rw [hh1]; decide), if_neg hnq108, if_pos htq]
          rw [hcl]
          cases hr : (if dJ D = 6 then (.inl (q, 3) : Rd ((Nat × Nat) × Nat)) else clJ t n (q + 1)) with
          | inl e => rw [hr] at hqi; exact ⟨rfl, hqi⟩
          | inr x =>
            rw [hr] at hqi
            obtain ⟨i1, i2, i3, i4, i5, i6, i7, i8, i9, i10, i11⟩ := hqi
            have h6 : ¬ dJ D = 6 := fun z => by rw [if_pos z] at hr; cases hr
            rw [if_neg h6] at hr
            refine ⟨rfl, i1, ⟨by rw [i4, s1, hh1], i6.trans s2, i5, fun _ => by rw [i7]; exact s4 hh1, by rw [i8]; exact s5, fun i hi => ?_, okD_addJ s7 h6 (clJ_in hr), fun z => by cases z⟩, i2, i3⟩
            show g 53 (2 * i) = nI (if i = dJ D then x.1.1 else dK D i) ∧ g 53 (2 * i + 1) = nI (if i = dJ D then x.1.2 else dF D i)
            have hi : i < dJ D + 1 := hi
            by_cases c : i = dJ D
            · simp only [if_pos c]; rw [c]; exact ⟨i10, i11⟩
            · simp only [if_neg c]; rw [i9 _ (by omega), i9 _ (by omega)]; exact s6 i (by omega)
      · rw [h4] at c_48
        have htq : t q = 108 := by
          unfold tkT at c_48
          rw [if_neg (by omega)] at c_48
          by_cases c2 : isDg (t q)
          · rw [if_pos c2] at c_48; exact absurd c_48 (show ¬ (-1 : Int32) = 108 by decide)
          · rw [if_neg c2] at c_48; exact c_48
        have hp2 : h 49 2 = nI (q + 1) := by rw [h2]; show nI (tkT t n q).2.2.2 = _; unfold tkT; rw [if_neg (by omega), if_neg (by rw [htq]; decide)]
        refine r_aload_n C dX8_isClause_51 rfl ?_
        refine r_callV C F dX8_isClause_52 (s8_isLordItem (t := t) (n := n) (p := q + 1) (q := q) (r := dL D) hT hp2 (by omega) h3 s2 s7.1) tw_827 m8_isLordItem (rfl) rfl (by decide) rfl (Nat.le_of_ble_eq_true rfl) (fun v g hqi => ?_)
        obtain ⟨rfl, hqi⟩ := hqi
        refine r_goto 79 C dX8_isClause_55 (by decide) ?_
        refine r_zret C F dX8_isClause_79 (narrow_rdB _) ?_
        have hcl : clzF t n q hh D = bnd (if dL D = 6 then .inl (q, 3) else clL t n (q + 1)) fun x => .inr ((true, addL D x.1.1 x.1.2.1 x.1.2.2), x.2) := by unfold clzF; rw [if_neg hnq104, if_neg (by rw [hh1]; decide), if_pos htq]
        rw [hcl]
        cases hr : (if dL D = 6 then (.inl (q, 3) : Rd ((Nat × Nat × Nat) × Nat)) else clL t n (q + 1)) with
        | inl e => rw [hr] at hqi; exact ⟨rfl, hqi⟩
        | inr x =>
          rw [hr] at hqi
          obtain ⟨i1, i2, i3, i4, i5, i6, i7, i8, i9, i10, i11, i12⟩ := hqi
          have h6 : ¬ dL D = 6 := fun z => by rw [if_pos z] at hr; cases hr
          rw [if_neg h6] at hr
          refine ⟨rfl, i1, ⟨by rw [i4, s1, hh1], i5, i6.trans s3, fun _ => by rw [i7]; exact s4 hh1, fun i hi => ?_, by rw [i8]; exact s6, okD_addL s7 h6 (clL_in hr), fun z => by cases z⟩, i2, i3⟩
          show g 52 (3 * i) = nI (if i = dL D then x.1.1 else dB D i) ∧ g 52 (3 * i + 1) = nI (if i = dL D then x.1.2.1 else dS D i) ∧ g 52 (3 * i + 2) = nI (if i = dL D then x.1.2.2 else dT D i)
          have hi : i < dL D + 1 := hi
          by_cases c : i = dL D
          · simp only [if_pos c]; rw [c]; exact ⟨i10, i11, i12⟩
          · simp only [if_neg c]; rw [i9 _ (by omega), i9 _ (by omega), i9 _ (by omega)]; exact s5 i (by omega)
    · rw [s1] at c_33
      have hh1 : hh = false := b01_f c_33
      refine r_aload_n C dX8_isClause_36 rfl ?_
      refine r_iconst (1) C dX8_isClause_37 rfl ?_
      refine r_cVi C F dX8_isClause_38 (s8_fails) tw_811 m8_fails (rfl) rfl (by decide) rfl (Nat.le_of_ble_eq_true rfl) ?_
      refine r_zret C F dX8_isClause_41 rfl ?_
      rw [show clzF t n q hh D = .inl (q, 1) by unfold clzF; rw [if_neg hnq104, if_pos hh1]]
      exact ⟨rfl, (pP.rf.up49 _ (by decide)).up49 _ (by decide), (by show up _ 49 8 _ 49 7 = _; rw [up_off _ _ _ _ (by decide), up_self]; exact h3), (by show up _ 49 8 _ 49 8 = _; rw [up_self]; rfl)⟩
  · rw [h4] at c_6
    have htq : t q = 104 := by
      unfold tkT at c_6
      rw [if_neg (by omega)] at c_6
      by_cases c2 : isDg (t q)
      · rw [if_pos c2] at c_6; exact absurd c_6 (show ¬ (-1 : Int32) = 104 by decide)
      · rw [if_neg c2] at c_6; exact c_6
    have hp2 : h 49 2 = nI (q + 1) := by rw [h2]; show nI (tkT t n q).2.2.2 = _; unfold tkT; rw [if_neg (by omega), if_neg (by rw [htq]; decide)]
    refine r_aload_n C dX8_isClause_9 rfl ?_
    refine r_getI C dX8_isClause_10 flX8_119 (rfl) rfl ?_
    refine r_if_eq 24 C dX8_isClause_13 (by decide) (fun c_13 => ?_) (fun c_13 => ?_)
    · rw [s1] at c_13
      have hh1 : ¬ hh = true := by rw [b01_f c_13]; decide
      refine r_aload_n C dX8_isClause_24 rfl ?_
      refine r_callV C F dX8_isClause_25 (s8_isHallItem (t := t) (n := n) (p := q + 1) hT hp2 (by omega)) tw_815 m8_isHallItem (rfl) rfl (by decide) rfl (Nat.le_of_ble_eq_true rfl) (fun v g hqi => ?_)
      obtain ⟨rfl, hqi⟩ := hqi
      refine r_zret C F dX8_isClause_28 (narrow_rdB _) ?_
      have hcl : clzF t n q hh D = bnd (clH t n (q + 1)) fun x => .inr ((true, setH D x.1.1 x.1.2), x.2) := by unfold clzF; rw [if_pos htq, if_neg hh1]
      rw [hcl]
      cases hr : clH t n (q + 1) with
      | inl e => rw [hr] at hqi; exact ⟨rfl, hqi⟩
      | inr x =>
        rw [hr] at hqi
        obtain ⟨i1, i2, i3, i4, i5, i6, i7, i8, i9⟩ := hqi
        have hx := clH_in hr
        exact ⟨rfl, i1, ⟨i4, i5.trans s2, i6.trans s3, fun _ => i7, by rw [i8]; exact s5, by rw [i9]; exact s6, okD_setH s7 hx.1 hx.2, fun z => by cases z⟩, i2, i3⟩
    · rw [s1] at c_13
      have hh1 : hh = true := b01_t c_13
      refine r_aload_n C dX8_isClause_16 rfl ?_
      refine r_iconst (3) C dX8_isClause_17 rfl ?_
      refine r_cVi C F dX8_isClause_18 (s8_fails) tw_811 m8_fails (rfl) rfl (by decide) rfl (Nat.le_of_ble_eq_true rfl) ?_
      refine r_goto 28 C dX8_isClause_21 (by decide) ?_
      refine r_zret C F dX8_isClause_28 rfl ?_
      rw [show clzF t n q hh D = .inl (q, 3) by unfold clzF; rw [if_pos htq, if_pos hh1]]
      exact ⟨rfl, (pP.rf.up49 _ (by decide)).up49 _ (by decide), (by show up _ 49 8 _ 49 7 = _; rw [up_off _ _ _ _ (by decide), up_self]; exact h3), (by show up _ 49 8 _ 49 8 = _; rw [up_self]; rfl)⟩
