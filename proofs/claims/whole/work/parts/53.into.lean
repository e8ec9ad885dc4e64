variable {l : Launch} {E : Ev} {h : Hp}
theorem s4_skipAny {t : Nat → Int32} {n p : Nat} (ht : h 2 = t) (hn : h 1 2 = nI n) (hl : n ≤ 200) (hx : h 1 5 = nI p) (hp : p ≤ 201) : Sp l E SHP 0 M4_skipBlanks [.ref (E.1 + 1)] h (fun v g => v = none ∧ ∃ x, g = up h 1 5 x) := by
  by_cases c : p ≤ n
  · exact (s4_skipBlanks ht hn hl hx c).weaken (fun v g q => by obtain ⟨rfl, rfl⟩ := q; exact ⟨rfl, _, rfl⟩)
  · exact (s4_skipB2 hn hl hx (by omega) (by omega)).weaken (fun v g q => by obtain ⟨rfl, rfl⟩ := q; exact ⟨rfl, g 1 5, (up_id rfl).symm⟩)
def QI (h : Hp) (o : Nat) (R : Rd (Bool × HDt)) : Pst := fun v g => v = none ∧ (∀ a, a ≠ 1 → a ≠ 3 → a < o ∨ o + 7 < a → g a = h a) ∧ match R with
  | .inl e => g 1 3 = nI e.2 ∧ ¬ g 1 3 = 0 ∧ g 1 4 = nI e.1
  | .inr x => g 1 3 = 0 ∧ g 1 4 = -1 ∧ g o 0 = b01 x.1 ∧ CHl g o x.2
theorem sk_end {t : Nat → Int32} {n : Nat} : sk t n n = n := by unfold sk; rw [Nat.sub_self]; rfl
theorem prs_end {t : Nat → Int32} {n f p : Nat} {hh : Bool} {D : HDt} (e : sk t n p = n) : prs t n f p hh D = .inr (hh, D) := by
  cases f with
  | zero => rfl
  | succ f => exact if_pos e
theorem sk_sk {t : Nat → Int32} {n p : Nat} (hp : p ≤ n) : p ≤ sk t n p := (sk_le hp).1
set_option maxHeartbeats 4000000 in
theorem s4_readInto {o : Nat} {t : Nat → Int32} {n : Nat} {R : Rd (Bool × HDt)} (hO : isH o) (ho : 4 ≤ o) (ht : h 2 = t) (hn : h 1 2 = nI n) (hl : n ≤ 200) (hR : prs t n (n + 1) 0 false D0 = R) : Sp l E SHP 4 M4_readInto [.ref (E.1 + 1), .ref (E.1 + o)] h (QI h o R) := by
  refine Sp.of (by decide) (Nat.le_of_ble_eq_true rfl) (fun X C F => ?_)
  have C : Ok X E RX4 cX4_readInto 3 := C
  have F : Fn X l E SHP 4 none (QI h o R) := F
  show G X E SHP (0, 0) 0 [(0, .ref (E.1 + 1)), (1, .ref (E.1 + o))] [] h
  have ER : ∀ (g : Hp) (e : Nat × Nat) (k : Nat), (∀ a, a ≠ 1 → a ≠ 3 → a < o ∨ o + 7 < a → g a = h a) → g 1 3 = nI e.2 → ¬ g 1 3 = 0 → g 1 4 = nI e.1 → R = .inl e → G X E SHP (0, 0) 25 [(0, .ref (E.1 + 1)), (1, .ref (E.1 + o)), (2, .int (nI k))] [] g := by
    intro g e k fr f3 f3n f4 hR
    subst hR
    refine r_iload_n C dX4_readInto_25 rfl ?_
    refine r_sipush (200) C dX4_readInto_26 rfl ?_
    refine r_icmp_ge 65 C dX4_readInto_29 (by decide) (fun c_29 => ?_) (fun c_29 => ?_)
    · exact r_vret C F dX4_readInto_65 ⟨rfl, fr, f3, f3n, f4⟩
    · refine r_aload_n C dX4_readInto_32 rfl ?_
      refine r_getI C dX4_readInto_33 flX4_27 (rfl) rfl ?_
      refine r_if_ne 65 C dX4_readInto_36 (by decide) (fun c_36 => ?_) (fun c_36 => ?_)
      · exact r_vret C F dX4_readInto_65 ⟨rfl, fr, f3, f3n, f4⟩
      · exact absurd c_36 f3n
  have TO : ∀ (g : Hp) (hh : Bool) (D : HDt), (∀ a, a ≠ 1 → a ≠ 3 → a < o ∨ o + 7 < a → g a = h a) → g 1 3 = 0 → g 1 4 = -1 → g o 0 = b01 hh → CHl g o D → R = .inr (hh, D) → G X E SHP (0, 0) 65 [] [] g := by
    intro g hh D fr f3 f4 f5 f6 hR
    subst hR
    exact r_vret C F dX4_readInto_65 ⟨rfl, fr, f3, f4, f5, f6⟩
  have Lp : ∀ k, k ≤ 200 → ∀ (g : Hp) (p f : Nat) (hh : Bool) (D : HDt), (∀ a, a ≠ 1 → a ≠ 3 → a < o ∨ o + 7 < a → g a = h a) → g 2 = t → g 1 2 = nI n → g 1 3 = 0 → g 1 4 = -1 → g 1 5 = nI (sk t n p) → p ≤ n → k ≤ p → n + 1 ≤ p + f → g o 0 = b01 hh → CHl g o D → prs t n f p hh D = R → G X E SHP (0, 0) 25 [(0, .ref (E.1 + 1)), (1, .ref (E.1 + o)), (2, .int (nI k))] [] g := by
    refine loopN 200 _ (fun k hk ih g p f hh D fr ft f2 f3 f4 f5 hp hkp hf fo hH hR => ?_)
    have hs := sk_le (t := t) hp
    refine r_iload_n C dX4_readInto_25 rfl ?_
    refine r_sipush (200) C dX4_readInto_26 rfl ?_
    refine r_icmp_ge 65 C dX4_readInto_29 (by decide) (fun c_29 => ?_) (fun c_29 => ?_)
    · rw [cLe (x := 200) (c := nI k) (i := 200) (n := k) (rfl) (rfl) (by omega) (by omega)] at c_29
      have he : sk t n p = n := by omega
      exact (TO g hh D fr f3 f4 fo hH (by rw [← hR]; exact prs_end he)).sub trivial
    · rw [cLe (x := 200) (c := nI k) (i := 200) (n := k) (rfl) (rfl) (by omega) (by omega)] at c_29
      refine r_aload_n C dX4_readInto_32 rfl ?_
      refine r_getI C dX4_readInto_33 flX4_27 (rfl) rfl ?_
      refine r_if_ne 65 C dX4_readInto_36 (by decide) (fun c_36 => ?_) (fun c_36 => ?_)
      · exact absurd f3 c_36
      · refine r_aload_n C dX4_readInto_39 rfl ?_
        refine r_getI C dX4_readInto_40 flX4_33 (rfl) rfl ?_
        refine r_aload_n C dX4_readInto_43 rfl ?_
        refine r_getI C dX4_readInto_44 flX4_18 (rfl) rfl ?_
        refine r_icmp_ge 65 C dX4_readInto_47 (by decide) (fun c_47 => ?_) (fun c_47 => ?_)
        · have c_47 : n ≤ sk t n p := (cLe (x := g 1 2) (c := g 1 5) (i := n) (n := sk t n p) f2 f5 (by omega) (by omega)).mp c_47
          have he : sk t n p = n := by omega
          exact (TO g hh D fr f3 f4 fo hH (by rw [← hR]; exact prs_end he)).sub trivial
        · have c_47 : ¬ n ≤ sk t n p := fun z => c_47 ((cLe (x := g 1 2) (c := g 1 5) (i := n) (n := sk t n p) f2 f5 (by omega) (by omega)).mpr z)
          refine r_aload_n C dX4_readInto_50 rfl ?_
          refine r_aload_n C dX4_readInto_51 rfl ?_
          refine r_callV C F dX4_readInto_52 (s4_readClause hO hH (t := t) (n := n) (q := sk t n p) (hh := hh) ho fo ft f2 hl f3 f5 (by omega)) tw_296 m4_readClause (rfl) rfl (by decide) rfl (Nat.le_of_ble_eq_true rfl) (fun v g1 q1 => ?_)
          obtain ⟨rfl, s1, s2, s3, qq⟩ := q1
          have hfs : f = (f - 1) + 1 := by omega
          rw [hfs] at hR
          have hR2 : bnd (clzF t n (sk t n p) hh D) (fun x => prs t n (f - 1) x.2 x.1.1 x.1.2) = R := by rw [← hR]; exact (if_neg (show ¬ sk t n p = n by omega)).symm
          have fr2 : ∀ a, a ≠ 1 → a ≠ 3 → a < o ∨ o + 7 < a → g1 a = h a := fun a h1 h2 h3 => by rw [s3 a h1 h2 h3]; exact fr a h1 h2 h3
          cases hr : clzF t n (sk t n p) hh D with
          | inl e =>
            rw [hr] at qq hR2
            obtain ⟨z3, z3n, z4, p', z5, hp'⟩ := qq
            have hR2 : Sum.inl e = R := hR2
            show G X E SHP (0, 0) 55 _ [] g1
            refine r_aload_n C dX4_readInto_55 rfl ?_
            refine r_callV C F dX4_readInto_56 (s4_skipAny s1 s2 hl z5 hp') tw_292 m4_skipBlanks (rfl) rfl (by decide) rfl (Nat.le_of_ble_eq_true rfl) (fun v g2 q2 => ?_)
            obtain ⟨rfl, x, rfl⟩ := q2
            show G X E SHP (0, 0) 59 _ [] (up g1 1 5 x)
            refine r_inc (1) C dX4_readInto_59 rfl (by decide) rfl rfl ?_
            refine r_goto 25 C dX4_readInto_62 (by decide) ?_
            exact (ER (up g1 1 5 x) e (k + 1) (fun a h1 h2 h4 => by rw [up_row _ _ _ _ h1]; exact fr2 a h1 h2 h4) z3 z3n z4 hR2.symm).sub ⟨rfl, rfl, by rw [nI_succ]; rfl, trivial⟩
          | inr y =>
            rw [hr] at qq hR2
            obtain ⟨z3, z4, z5, hy, z6, z7⟩ := qq
            have hR2 : prs t n (f - 1) y.2 y.1.1 y.1.2 = R := hR2
            have hgt := clz_gt (show sk t n p < n by omega) hr
            show G X E SHP (0, 0) 55 _ [] g1
            refine r_aload_n C dX4_readInto_55 rfl ?_
            refine r_cVv C F dX4_readInto_56 (s4_skipBlanks s1 s2 hl z5 hy) tw_292 m4_skipBlanks (rfl) rfl (by decide) rfl (Nat.le_of_ble_eq_true rfl) ?_
            refine r_inc (1) C dX4_readInto_59 rfl (by decide) rfl rfl ?_
            refine r_goto 25 C dX4_readInto_62 (by decide) ?_
            exact (ih (by omega) (up g1 1 5 (nI (sk t n y.2))) y.2 (f - 1) y.1.1 y.1.2 (fun a h1 h2 h4 => by rw [up_row _ _ _ _ h1]; exact fr2 a h1 h2 h4) s1 s2 z3 (z4.trans f4) rfl hy (by omega) (by omega) (by rw [up_row _ _ _ _ (by omega)]; exact z6) (CH_cg z7 (fun a h1 h2 => by rw [up_row _ _ _ _ (by omega)])) hR2).sub ⟨rfl, rfl, by rw [nI_succ]; rfl, trivial⟩
  refine r_aload_n C dX4_readInto_0 rfl ?_
  refine r_callV C F dX4_readInto_1 (s0_empty hO) tw_288 m0_empty (hO.1) rfl (by decide) rfl (Nat.le_of_ble_eq_true rfl) (fun v g0 q0 => ?_)
  obtain ⟨rfl, z1, z2, z3⟩ := q0
  have y2 : g0 2 = t := by rw [z3 2 (by omega)]; exact ht
  have y1 : g0 1 2 = nI n := by rw [z3 1 (by omega)]; exact hn
  show G X E SHP (0, 0) 4 _ [] g0
  refine r_aload_n C dX4_readInto_4 rfl ?_
  refine r_iconst (0) C dX4_readInto_5 rfl ?_
  refine r_putI C dX4_readInto_6 fwX4_27 (rfl) rfl ?_
  refine r_aload_n C dX4_readInto_9 rfl ?_
  refine r_iconst (-1) C dX4_readInto_10 rfl ?_
  refine r_putI C dX4_readInto_11 fwX4_30 (rfl) rfl ?_
  refine r_aload_n C dX4_readInto_14 rfl ?_
  refine r_iconst (0) C dX4_readInto_15 rfl ?_
  refine r_putI C dX4_readInto_16 fwX4_33 (rfl) rfl ?_
  refine r_aload_n C dX4_readInto_19 rfl ?_
  refine r_cVv C F dX4_readInto_20 (s4_skipBlanks (t := t) (n := n) (p := 0) y2 y1 hl rfl (Nat.zero_le _)) tw_292 m4_skipBlanks (rfl) rfl (by decide) rfl (Nat.le_of_ble_eq_true rfl) ?_
  refine r_iconst (0) C dX4_readInto_23 rfl ?_
  refine r_istore_n C dX4_readInto_24 (by decide) rfl ?_
  refine (Lp 0 (Nat.zero_le _) (up (up (up (up g0 1 3 0) 1 4 (-1)) 1 5 0) 1 5 (nI (sk t n 0))) 0 (n + 1) false D0 (fun a h1 h2 h4 => ?_) y2 y1 rfl rfl rfl (Nat.zero_le _) (Nat.zero_le _) (by omega) ?_ (CH_cg z2 (fun a h1 h2 => ?_)) hR).sub ⟨rfl, rfl, rfl, trivial⟩
  · rw [up_row _ _ _ _ h1, up_row _ _ _ _ h1, up_row _ _ _ _ h1, up_row _ _ _ _ h1]; exact z3 a h4
  · rw [up_row _ _ _ _ (by omega), up_row _ _ _ _ (by omega), up_row _ _ _ _ (by omega), up_row _ _ _ _ (by omega)]; exact z1
  · rw [up_row _ _ _ _ (by omega), up_row _ _ _ _ (by omega), up_row _ _ _ _ (by omega), up_row _ _ _ _ (by omega)]
