variable {l : Launch} {E : Ev} {h : Hp}
def bnd {α β : Type} (r : Rd α) (k : α → Rd β) : Rd β := match r with
  | .inl e => .inl e
  | .inr x => k x
theorem bnd_l {α β : Type} {r : Rd α} {k : α → Rd β} {e : Nat × Nat} (q : r = .inl e) : bnd r k = .inl e := by rw [q]; rfl
theorem bnd_r {α β : Type} {r : Rd α} {k : α → Rd β} {x : α} (q : r = .inr x) : bnd r k = k x := by rw [q]; rfl
def clH (t : Nat → Int32) (n p : Nat) : Rd ((Nat × Nat) × Nat) := bnd (rdN t n 0 5 p) fun a => bnd (rdN t n 0 3 a.2) fun b => bnd (rdE t n b.2) fun q => .inr ((a.1, b.1), q)
def clL (t : Nat → Int32) (n p : Nat) : Rd ((Nat × Nat × Nat) × Nat) := bnd (rdN t n 0 2 p) fun a => bnd (rdN t n 1 20 a.2) fun b => bnd (rdN t n 0 15 b.2) fun c => bnd (rdE t n c.2) fun q => .inr ((a.1, b.1, c.1), q)
def clJ (t : Nat → Int32) (n p : Nat) : Rd ((Nat × Nat) × Nat) := bnd (rdN t n 0 3 p) fun a => bnd (rdN t n 1 30 a.2) fun b => bnd (rdE t n b.2) fun q => .inr ((a.1, b.1), q)
theorem rdN_in {t : Nat → Int32} {n lo hi p : Nat} {x : Nat × Nat} (e : rdN t n lo hi p = .inr x) : lo ≤ x.1 ∧ x.1 ≤ hi := by
  unfold rdN at e
  split at e
  · split at e
    · rename_i c; cases e; exact c.2
    · cases e
  · cases e
set_option maxHeartbeats 4000000 in
theorem s8_isHallItem {t : Nat → Int32} {n p : Nat} (hT : TX h t n) (hp0 : h 49 2 = nI p) (hp : p ≤ n) : Sp l E SHP 3 M8_isHallItem [.ref (E.1 + 49)] h (QR h (clH t n p) (fun x g => pP h g ∧ g 49 2 = nI x.2 ∧ x.2 ≤ n ∧ g 49 9 = 1 ∧ g 49 10 = h 49 10 ∧ g 49 11 = h 49 11 ∧ (g 51 0 = nI x.1.1 ∧ g 51 1 = nI x.1.2) ∧ g 52 = h 52 ∧ g 53 = h 53)) := by
  refine Sp.of (by decide) (Nat.le_of_ble_eq_true rfl) (fun X C F => ?_)
  have C : Ok X E RX8 cX8_isHallItem 2 := C
  have F : Fn X l E SHP 3 (some FieldType.boolean) (QR h (clH t n p) (fun x g => pP h g ∧ g 49 2 = nI x.2 ∧ x.2 ≤ n ∧ g 49 9 = 1 ∧ g 49 10 = h 49 10 ∧ g 49 11 = h 49 11 ∧ (g 51 0 = nI x.1.1 ∧ g 51 1 = nI x.1.2) ∧ g 52 = h 52 ∧ g 53 = h 53)) := F
  show G X E SHP (0, 0) 0 [(0, .ref (E.1 + 49))] [] h
  refine r_iconst (0) C dX8_isHallItem_0 rfl ?_
  refine r_istore_n C dX8_isHallItem_1 (by decide) rfl ?_
  refine r_iload_n C dX8_isHallItem_2 rfl ?_
  refine r_iconst (2) C dX8_isHallItem_3 rfl ?_
  refine r_icmp_ge 42 C dX8_isHallItem_4 (by decide) (fun c_4 => ?_) (fun c_4 => ?_)
  · exact absurd c_4 (by decide)
  · refine r_aload_n C dX8_isHallItem_7 rfl ?_
    refine r_iconst (0) C dX8_isHallItem_8 rfl ?_
    refine r_iload_n C dX8_isHallItem_9 rfl ?_
    refine r_if_ne 17 C dX8_isHallItem_10 (by decide) (fun c_10 => ?_) (fun c_10 => ?_)
    · exact absurd rfl c_10
    · refine r_iconst (5) C dX8_isHallItem_13 rfl ?_
      refine r_goto 18 C dX8_isHallItem_14 (by decide) ?_
      refine r_callV C F dX8_isHallItem_18 (s8_isNumber (t := t) (n := n) (lo := 0) (hi := 5) (p := p) (hT) (hp0) (hp) (by decide) (by decide)) tw_819 m8_isNumber (rfl) rfl (by decide) rfl (Nat.le_of_ble_eq_true rfl) (fun v g1 hq1 => ?_)
      obtain ⟨rfl, hq1⟩ := hq1
      refine r_if_ne 26 C dX8_isHallItem_21 (by decide) (fun c_21 => ?_) (fun c_21 => ?_)
      · obtain ⟨a, hxa⟩ := rdB_t c_21
        rw [hxa] at hq1
        refine r_aload_n C dX8_isHallItem_26 rfl ?_
        refine r_getR C dX8_isHallItem_27 flX8_17 (rfl) rfl ?_
        refine r_iload_n C dX8_isHallItem_30 rfl ?_
        refine r_aload_n C dX8_isHallItem_31 rfl ?_
        refine r_getI C dX8_isHallItem_32 flX8_97 (rfl) rfl ?_
        refine r_iast (0) C dX8_isHallItem_35 (rfl) (rfl) (by decide) (by decide) ?_
        refine r_inc (1) C dX8_isHallItem_36 rfl (by decide) rfl rfl ?_
        refine r_goto 2 C dX8_isHallItem_39 (by decide) ?_
        obtain ⟨a1, a2, a3, a4⟩ := hq1
        have hP1 : pP h (up g1 51 0 (g1 49 5)) := (a1.P (by decide)).upx _ (by decide)
        have hG12 : up g1 51 0 (g1 49 5) 49 2 = nI a.2 := by rw [up_row _ _ _ _ (by decide)]; exact a3
        have hG110 : up g1 51 0 (g1 49 5) 49 10 = h 49 10 := by rw [up_row _ _ _ _ (by decide)]; exact a1.2 10 (by decide)
        have hG111 : up g1 51 0 (g1 49 5) 49 11 = h 49 11 := by rw [up_row _ _ _ _ (by decide)]; exact a1.2 11 (by decide)
        have hG151 : up g1 51 0 (g1 49 5) 51 0 = nI a.1 := by rw [up_self]; exact a2
        have hG1a : up g1 51 0 (g1 49 5) 52 = h 52 := by rw [up_row _ _ _ _ (by decide)]; exact a1.1 52 (by decide)
        have hG1b : up g1 51 0 (g1 49 5) 53 = h 53 := by rw [up_row _ _ _ _ (by decide)]; exact a1.1 53 (by decide)
        generalize up g1 51 0 (g1 49 5) = G1 at hP1 hG12 hG110 hG111 hG151 hG1a hG1b ⊢
        refine r_iload_n C dX8_isHallItem_2 rfl ?_
        refine r_iconst (2) C dX8_isHallItem_3 rfl ?_
        refine r_icmp_ge 42 C dX8_isHallItem_4 (by decide) (fun c_4 => ?_) (fun c_4 => ?_)
        · exact absurd c_4 (by decide)
        · refine r_aload_n C dX8_isHallItem_7 rfl ?_
          refine r_iconst (0) C dX8_isHallItem_8 rfl ?_
          refine r_iload_n C dX8_isHallItem_9 rfl ?_
          refine r_if_ne 17 C dX8_isHallItem_10 (by decide) (fun c_10 => ?_) (fun c_10 => ?_)
          · refine r_iconst (3) C dX8_isHallItem_17 rfl ?_
            refine r_callV C F dX8_isHallItem_18 (s8_isNumber (t := t) (n := n) (lo := 0) (hi := 3) (p := a.2) (hT.s hP1) (hG12) (a4) (by decide) (by decide)) tw_819 m8_isNumber (rfl) rfl (by decide) rfl (Nat.le_of_ble_eq_true rfl) (fun v g2 hq2 => ?_)
            obtain ⟨rfl, hq2⟩ := hq2
            refine r_if_ne 26 C dX8_isHallItem_21 (by decide) (fun c_21 => ?_) (fun c_21 => ?_)
            · obtain ⟨b, hxb⟩ := rdB_t c_21
              rw [hxb] at hq2
              refine r_aload_n C dX8_isHallItem_26 rfl ?_
              refine r_getR C dX8_isHallItem_27 flX8_17 (rfl) rfl ?_
              refine r_iload_n C dX8_isHallItem_30 rfl ?_
              refine r_aload_n C dX8_isHallItem_31 rfl ?_
              refine r_getI C dX8_isHallItem_32 flX8_97 (rfl) rfl ?_
              refine r_iast (1) C dX8_isHallItem_35 (rfl) (rfl) (by decide) (by decide) ?_
              refine r_inc (1) C dX8_isHallItem_36 rfl (by decide) rfl rfl ?_
              refine r_goto 2 C dX8_isHallItem_39 (by decide) ?_
              obtain ⟨b1, b2, b3, b4⟩ := hq2
              have hP2 : pP h (up g2 51 1 (g2 49 5)) := (hP1.tr (b1.P (by decide))).upx _ (by decide)
              have hG22 : up g2 51 1 (g2 49 5) 49 2 = nI b.2 := by rw [up_row _ _ _ _ (by decide)]; exact b3
              have hG210 : up g2 51 1 (g2 49 5) 49 10 = h 49 10 := by rw [up_row _ _ _ _ (by decide), b1.2 10 (by decide)]; exact hG110
              have hG211 : up g2 51 1 (g2 49 5) 49 11 = h 49 11 := by rw [up_row _ _ _ _ (by decide), b1.2 11 (by decide)]; exact hG111
              have hG251 : up g2 51 1 (g2 49 5) 51 0 = nI a.1 := by rw [up_off _ _ _ _ (by decide), b1.1 51 (by decide)]; exact hG151
              have hG252 : up g2 51 1 (g2 49 5) 51 1 = nI b.1 := by rw [up_self]; exact b2
              have hG2a : up g2 51 1 (g2 49 5) 52 = h 52 := by rw [up_row _ _ _ _ (by decide), b1.1 52 (by decide)]; exact hG1a
              have hG2b : up g2 51 1 (g2 49 5) 53 = h 53 := by rw [up_row _ _ _ _ (by decide), b1.1 53 (by decide)]; exact hG1b
              generalize up g2 51 1 (g2 49 5) = G2 at hP2 hG22 hG210 hG211 hG251 hG252 hG2a hG2b ⊢
              have hb4 := b4
              refine r_iload_n C dX8_isHallItem_2 rfl ?_
              refine r_iconst (2) C dX8_isHallItem_3 rfl ?_
              refine r_icmp_ge 42 C dX8_isHallItem_4 (by decide) (fun c_4 => ?_) (fun c_4 => ?_)
              · refine r_aload_n C dX8_isHallItem_42 rfl ?_
                refine r_iconst (1) C dX8_isHallItem_43 rfl ?_
                refine r_putZ C dX8_isHallItem_44 fwX8_119 (rfl) rfl (by first | exact Or.inl rfl | exact Or.inr rfl) ?_
                have hP3 : pP h (up G2 49 9 1) := hP2.up49 _ (by decide)
                have hp3 : up G2 49 9 1 49 2 = nI b.2 := by rw [up_off _ _ _ _ (by decide)]; exact hG22
                refine r_aload_n C dX8_isHallItem_47 rfl ?_
                refine r_callV C F dX8_isHallItem_48 (s8_isEnd (t := t) (n := n) (p := b.2) (hT.s hP3) hp3 hb4) tw_823 m8_isEnd (rfl) rfl (by decide) rfl (Nat.le_of_ble_eq_true rfl) (fun v g3 hq3 => ?_)
                obtain ⟨rfl, hq3⟩ := hq3
                refine r_zret C F dX8_isHallItem_51 (narrow_rdB _) ?_
                have hcl : clH t n p = bnd (rdE t n b.2) fun q => .inr ((a.1, b.1), q) := by unfold clH; rw [bnd_r hxa, bnd_r hxb]
                cases hr : rdE t n b.2 with
                | inl e =>
                  rw [hr] at hq3
                  rw [hcl, bnd_l hr]
                  exact ⟨rfl, hP3.tr hq3.1, hq3.2⟩
                | inr q =>
                  rw [hr] at hq3
                  rw [hcl, bnd_r hr]
                  obtain ⟨s1, s2, s3⟩ := hq3
                  refine ⟨rfl, hP3.tr (s1.P (by decide)), s2, s3, ?_, ?_, ?_, ?_, ?_⟩
                  · rw [s1.2 9 (by decide), up_self]
                  · rw [s1.2 10 (by decide), up_off _ _ _ _ (by decide)]; exact hG210
                  · rw [s1.2 11 (by decide), up_off _ _ _ _ (by decide)]; exact hG211
                  · rw [s1.1 51 (by decide), up_row _ _ _ _ (by decide)]; exact ⟨hG251, hG252⟩
                  · rw [s1.1 52 (by decide), s1.1 53 (by decide), up_row _ _ _ _ (by decide), up_row _ _ _ _ (by decide)]; exact ⟨hG2a, hG2b⟩
              · exact absurd (by decide) c_4
            · obtain ⟨e, hxb⟩ := rdB_f c_21
              rw [hxb] at hq2
              refine r_iconst (0) C dX8_isHallItem_24 rfl ?_
              exact r_zret C F dX8_isHallItem_25 rfl (by rw [show clH t n p = .inl e by unfold clH; rw [bnd_r hxa, bnd_l hxb]]; exact ⟨rfl, hP1.tr hq2.1, hq2.2⟩)
          · exact absurd c_10 (by decide)
      · obtain ⟨e, hxa⟩ := rdB_f c_21
        rw [hxa] at hq1
        refine r_iconst (0) C dX8_isHallItem_24 rfl ?_
        exact r_zret C F dX8_isHallItem_25 rfl (by rw [show clH t n p = .inl e by unfold clH; rw [bnd_l hxa]]; exact ⟨rfl, hq1.1, hq1.2⟩)
