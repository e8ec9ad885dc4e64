variable {l : Launch} {E : Ev} {h : Hp}
theorem rdN_ge {t : Nat → Int32} {n lo hi p : Nat} {x : Nat × Nat} (hp : p ≤ n) (e : rdN t n lo hi p = .inr x) : p ≤ x.2 ∧ x.2 ≤ n := by
  have hs := sk_le (t := t) hp
  unfold rdN at e
  split at e
  · split at e
    · cases e
      have := dg_le (t := t) (n := n) (q := sk t n p) hs.2
      exact ⟨by show p ≤ sk t n p + dg t n (sk t n p); omega, this⟩
    · cases e
  · cases e
theorem rdE_gt {t : Nat → Int32} {n p x : Nat} (hp : p ≤ n) (e : rdE t n p = .inr x) : p < x ∧ x ≤ n := by
  have hs := sk_le (t := t) hp
  unfold rdE at e
  split at e
  · rename_i c; cases e; exact ⟨by omega, by omega⟩
  · cases e
theorem clH_gt {t : Nat → Int32} {n p : Nat} {x : (Nat × Nat) × Nat} (hp : p ≤ n) (e : clH t n p = .inr x) : p < x.2 := by
  unfold clH at e
  cases h1 : rdN t n 0 5 p with
  | inl z => rw [bnd_l h1] at e; cases e
  | inr a =>
    rw [bnd_r h1] at e
    obtain ⟨p1, p2⟩ := rdN_ge hp h1
    cases h2 : rdN t n 0 3 a.2 with
    | inl z => rw [bnd_l h2] at e; cases e
    | inr b =>
      rw [bnd_r h2] at e
      obtain ⟨p3, p4⟩ := rdN_ge p2 h2
      cases h3 : rdE t n b.2 with
      | inl z => rw [bnd_l h3] at e; cases e
      | inr q =>
        rw [bnd_r h3] at e
        have := (rdE_gt p4 h3).1
        cases e
        show p < q
        omega
theorem clJ_gt {t : Nat → Int32} {n p : Nat} {x : (Nat × Nat) × Nat} (hp : p ≤ n) (e : clJ t n p = .inr x) : p < x.2 := by
  unfold clJ at e
  cases h1 : rdN t n 0 3 p with
  | inl z => rw [bnd_l h1] at e; cases e
  | inr a =>
    rw [bnd_r h1] at e
    obtain ⟨p1, p2⟩ := rdN_ge hp h1
    cases h2 : rdN t n 1 30 a.2 with
    | inl z => rw [bnd_l h2] at e; cases e
    | inr b =>
      rw [bnd_r h2] at e
      obtain ⟨p3, p4⟩ := rdN_ge p2 h2
      cases h3 : rdE t n b.2 with
      | inl z => rw [bnd_l h3] at e; cases e
      | inr q =>
        rw [bnd_r h3] at e
        have := (rdE_gt p4 h3).1
        cases e
        show p < q
        omega
theorem clL_gt {t : Nat → Int32} {n p : Nat} {x : (Nat × Nat × Nat) × Nat} (hp : p ≤ n) (e : clL t n p = .inr x) : p < x.2 := by
  unfold clL at e
  cases h1 : rdN t n 0 2 p with
  | inl z => rw [bnd_l h1] at e; cases e
  | inr a =>
    rw [bnd_r h1] at e
    obtain ⟨p1, p2⟩ := rdN_ge hp h1
    cases h2 : rdN t n 1 20 a.2 with
    | inl z => rw [bnd_l h2] at e; cases e
    | inr b =>
      rw [bnd_r h2] at e
      obtain ⟨p3, p4⟩ := rdN_ge p2 h2
      cases h3 : rdN t n 0 15 b.2 with
      | inl z => rw [bnd_l h3] at e; cases e
      | inr c =>
        rw [bnd_r h3] at e
        obtain ⟨p5, p6⟩ := rdN_ge p4 h3
        cases h4 : rdE t n c.2 with
        | inl z => rw [bnd_l h4] at e; cases e
        | inr q =>
          rw [bnd_r h4] at e
          have := (rdE_gt p6 h4).1
          cases e
          show p < q
          omega
theorem clz_gt {t : Nat → Int32} {n q : Nat} {hh : Bool} {D : HDt} {x : (Bool × HDt) × Nat} (hq : q < n) (e : clzF t n q hh D = .inr x) : q < x.2 := by
  unfold clzF at e
  split at e
  · split at e
    · cases e
    · cases h1 : clH t n (q + 1) with
      | inl z => rw [bnd_l h1] at e; cases e
      | inr y => rw [bnd_r h1] at e; have := clH_gt (by omega) h1; cases e; show q < y.2; omega
  · split at e
    · cases e
    · split at e
      · cases h1 : (if dL D = 6 then (.inl (q, 3) : Rd ((Nat × Nat × Nat) × Nat)) else clL t n (q + 1)) with
        | inl z => rw [bnd_l h1] at e; cases e
        | inr y =>
          rw [bnd_r h1] at e
          split at h1
          · cases h1
          · have := clL_gt (by omega) h1; cases e; show q < y.2; omega
      · split at e
        · cases h1 : (if dJ D = 6 then (.inl (q, 3) : Rd ((Nat × Nat) × Nat)) else clJ t n (q + 1)) with
          | inl z => rw [bnd_l h1] at e; cases e
          | inr y =>
            rw [bnd_r h1] at e
            split at h1
            · cases h1
            · have := clJ_gt (by omega) h1; cases e; show q < y.2; omega
        · cases e
theorem ST.s {g k : Hp} {hh : Bool} {D : HDt} (q : ST g hh D) (s : s49 6 g k) : ST k hh D := by
  unfold ST
  rw [s.2 9 (by decide), s.2 10 (by decide), s.2 11 (by decide), s.1 51 (by decide), s.1 52 (by decide), s.1 53 (by decide)]
  exact q
set_option maxHeartbeats 4000000 in
theorem s8_isRead {t : Nat → Int32} {n : Nat} (hT : TX h t n) : Sp l E SHP 5 M8_isRead [.ref (E.1 + 49)] h (QR h (prs t n (n + 1) 0 false D0) (fun x g => pP h g ∧ ST g x.1 x.2)) := by
  refine Sp.of (by decide) (Nat.le_of_ble_eq_true rfl) (fun X C F => ?_)
  have C : Ok X E RX8 cX8_isRead 1 := C
  have F : Fn X l E SHP 5 (some FieldType.boolean) (QR h (prs t n (n + 1) 0 false D0) (fun x g => pP h g ∧ ST g x.1 x.2)) := F
  show G X E SHP (0, 0) 0 [(0, .ref (E.1 + 49))] [] h
  have L : ∀ (f p : Nat) (hh : Bool) (D : HDt) (g : Hp), p ≤ n → n + 1 ≤ p + f → pP h g → g 49 3 = nI (sk t n p) → g 49 4 = (tkT t n (sk t n p)).1 → g 49 2 = nI (tkT t n (sk t n p)).2.2.2 → ST g hh D → prs t n f p hh D = prs t n (n + 1) 0 false D0 → G X E SHP (0, 0) 24 [(0, .ref (E.1 + 49))] [] g := by
    intro f
    induction f with
    | zero => intro p hh D g h1 h2; omega
    | succ f ih =>
      intro p hh D g hp hf hP g3 g4 g2 hS he
      have hsk := sk_le (t := t) hp
      have he : (if sk t n p = n then .inr (hh, D) else bnd (clzF t n (sk t n p) hh D) fun x => prs t n f x.2 x.1.1 x.1.2) = prs t n (n + 1) 0 false D0 := he
      generalize hQ : sk t n p = q at *
      refine r_aload_n C dX8_isRead_24 rfl ?_
      refine r_getI C dX8_isRead_25 flX8_103 (rfl) rfl ?_
      refine r_bipush (-2) C dX8_isRead_28 rfl ?_
      refine r_icmp_eq 49 C dX8_isRead_30 (by decide) (fun c_30 => ?_) (fun c_30 => ?_)
      · rw [g4] at c_30
        have hqn : q = n := by
          unfold tkT at c_30
          by_cases c1 : q = n
          · exact c1
          · rw [if_neg c1] at c_30
            by_cases c2 : isDg (t q)
            · rw [if_pos c2] at c_30; exact absurd c_30 (show ¬ (-1 : Int32) = -2 by decide)
            · rw [if_neg c2] at c_30
              have := (hT.2.2.2 q (by omega)).1
              rw [show t q = -2 from c_30] at this
              exact absurd this (by decide)
        rw [if_pos hqn] at he
        refine r_iconst (1) C dX8_isRead_49 rfl ?_
        exact r_zret C F dX8_isRead_50 rfl (by rw [← he]; exact ⟨rfl, hP, hS⟩)
      · rw [g4] at c_30
        have hqn : q < n := by
          rcases Nat.lt_or_ge q n with c | c
          · exact c
          · exact absurd (show (tkT t n q).1 = -2 by unfold tkT; rw [if_pos (by omega)]) c_30
        rw [if_neg (by omega)] at he
        refine r_aload_n C dX8_isRead_33 rfl ?_
        refine r_callV C F dX8_isRead_34 (s8_isClause (hT.s hP) g3 g4 g2 hqn hS) tw_807 m8_isClause (rfl) rfl (by decide) rfl (Nat.le_of_ble_eq_true rfl) (fun v g1 hqc => ?_)
        obtain ⟨rfl, hqc⟩ := hqc
        refine r_if_ne 42 C dX8_isRead_37 (by decide) (fun c_37 => ?_) (fun c_37 => ?_)
        · obtain ⟨x, hx⟩ := rdB_t c_37
          rw [hx] at hqc
          rw [bnd_r hx] at he
          obtain ⟨i1, i2, i3, i4⟩ := hqc
          have hgt := clz_gt hqn hx
          obtain ⟨e50, e0, hn2, hin⟩ := (hT.s hP).s i1
          refine r_aload_n C dX8_isRead_42 rfl ?_
          refine r_callV C F dX8_isRead_43 (s8_nextToken (n := n) (p := x.2) e0 hn2 i3 i4) tw_803 m8_nextToken (rfl) rfl (by decide) rfl (Nat.le_of_ble_eq_true rfl) (fun v gt hq => ?_)
          obtain ⟨rfl, hq⟩ := hq
          rw [e50] at hq
          obtain ⟨t1, t2, t3, t4, t5, t6, t7⟩ := hq
          refine r_goto 24 C dX8_isRead_46 (by decide) ?_
          exact ih x.2 x.1.1 x.1.2 gt i4 (by omega) ((hP.tr i1).tr (s49.P ⟨t1, t2⟩ (by decide))) t4 t5 t3 (i2.s ⟨t1, t2⟩) he
        · obtain ⟨e, hx⟩ := rdB_f c_37
          rw [hx] at hqc
          rw [bnd_l hx] at he
          refine r_iconst (0) C dX8_isRead_40 rfl ?_
          exact r_zret C F dX8_isRead_41 rfl (by rw [← he]; exact ⟨rfl, hP.tr hqc.1, hqc.2⟩)
  refine r_aload_n C dX8_isRead_0 rfl ?_
  refine r_iconst (0) C dX8_isRead_1 rfl ?_
  refine r_putI C dX8_isRead_2 fwX8_91 (rfl) rfl ?_
  refine r_aload_n C dX8_isRead_5 rfl ?_
  refine r_iconst (0) C dX8_isRead_6 rfl ?_
  refine r_putZ C dX8_isRead_7 fwX8_119 (rfl) rfl (by first | exact Or.inl rfl | exact Or.inr rfl) ?_
  refine r_aload_n C dX8_isRead_10 rfl ?_
  refine r_iconst (0) C dX8_isRead_11 rfl ?_
  refine r_putI C dX8_isRead_12 fwX8_127 (rfl) rfl ?_
  refine r_aload_n C dX8_isRead_15 rfl ?_
  refine r_iconst (0) C dX8_isRead_16 rfl ?_
  refine r_putI C dX8_isRead_17 fwX8_130 (rfl) rfl ?_
  have hP0 : pP h (up (up (up (up h 49 2 0) 49 9 0) 49 10 0) 49 11 0) := (((pP.rf.up49 _ (by decide)).up49 _ (by decide)).up49 _ (by decide)).up49 _ (by decide)
  have hS0 : ST (up (up (up (up h 49 2 0) 49 9 0) 49 10 0) 49 11 0) false D0 := ⟨rfl, rfl, rfl, (fun z => by cases z), (fun i hi => absurd hi (Nat.not_lt_zero i)), (fun i hi => absurd hi (Nat.not_lt_zero i)), ⟨by decide, by decide, by decide, by decide, (fun i hi => absurd hi (Nat.not_lt_zero i)), (fun i hi => absurd hi (Nat.not_lt_zero i))⟩, (fun _ => ⟨rfl, rfl, rfl, rfl⟩)⟩
  obtain ⟨e50, e0, hn2, hin⟩ := hT.s hP0
  have h20 : (up (up (up (up h 49 2 0) 49 9 0) 49 10 0) 49 11 0) 49 2 = nI 0 := rfl
  generalize up (up (up (up h 49 2 0) 49 9 0) 49 10 0) 49 11 0 = g0 at hP0 hS0 e50 e0 h20 ⊢
  refine r_aload_n C dX8_isRead_20 rfl ?_
  refine r_callV C F dX8_isRead_21 (s8_nextToken (n := n) (p := 0) e0 hn2 h20 (Nat.zero_le _)) tw_803 m8_nextToken (rfl) rfl (by decide) rfl (Nat.le_of_ble_eq_true rfl) (fun v gt hq => ?_)
  obtain ⟨rfl, hq⟩ := hq
  rw [e50] at hq
  obtain ⟨t1, t2, t3, t4, t5, t6, t7⟩ := hq
  exact L (n + 1) 0 false D0 gt (Nat.zero_le _) (by omega) (hP0.tr (s49.P ⟨t1, t2⟩ (by decide))) t4 t5 t3 (hS0.s ⟨t1, t2⟩) rfl
