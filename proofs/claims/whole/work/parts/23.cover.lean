variable {l : Launch} {E : Ev} {h : Hp}
theorem nd_nd (m a b : Nat) : nd (nd m a) b = nd m (a ||| b) := Nat.eq_of_testBit_eq fun k => by
  rw [nd_bit, nd_bit, nd_bit, Nat.testBit_or]
  cases m.testBit k <;> cases a.testBit k <;> cases b.testBit k <;> rfl
theorem nd_0 (m : Nat) : nd m 0 = m := Nat.eq_of_testBit_eq fun k => by rw [nd_bit, Nat.zero_testBit, Bool.not_false, Bool.and_true]
noncomputable def sP (A : At) (i a j : Nat) : Nat := if ¬ i = a ∧ (mI (aU A)).testBit i = true ∧ (mI (aU A)).testBit a = true then fal A i j a else 0
noncomputable def s2 (A : At) (i a : Nat) : Nat := orN (sP A i a) (dJ (aD A))
noncomputable def s1 (A : At) (i : Nat) : Nat := orN (s2 A i) (dL (aD A))
noncomputable def vSafe (A : At) : Int32 := nI (nd (mI (aU A)) (orN (s1 A) (dL (aD A))))
set_option maxHeartbeats 4000000 in
theorem s8_safe {A : At} (hA : MA h A) : Sp l E SHP 3 M8_safe [.ref (E.1 + 49)] h (QM h (vSafe A, A)) := by
  refine Sp.of (by decide) (Nat.le_of_ble_eq_true rfl) (fun X C F => ?_)
  have C : Ok X E RX8 cX8_safe 6 := C
  have F : Fn X l E SHP 3 (some FieldType.int) (QM h (vSafe A, A)) := F
  show G X E SHP (0, 0) 0 [(0, .ref (E.1 + 49))] [] h
  obtain ⟨⟨a1, a2, a3, a4, a5, a6, a7, a8, a9, a10, a11, a12⟩, ⟨b1, b2⟩, b3, b4, b5, b6, b7, ⟨b8, b9⟩, b10, ⟨b11, b12⟩, b13, b14⟩ := id hA
  obtain ⟨okd, e16, e17, e540, e541, eL, eJ⟩ := id b5
  obtain ⟨o1, o2, o3, o4, o5, o6⟩ := id okd
  have p6 : 2 ^ dL (aD A) ≤ 64 := Nat.pow_le_pow_right (n := 2) (by decide) o1
  obtain ⟨k0, k1, k2, k3, k4, k5⟩ := id a5
  have L1 : ∀ i, i ≤ dL (aD A) → G X E SHP (0, 0) 9 [(0, .ref (E.1 + 49)), (1, .int (nI (nd (mI (aU A)) (orN (s1 A) i)))), (2, .int (nI i))] [] h := by
    refine loopN (dL (aD A)) _ (fun i hi ih1 => ?_)
    have L2 : i < dL (aD A) → ∀ a, a ≤ dL (aD A) → G X E SHP (0, 0) 19 [(0, .ref (E.1 + 49)), (1, .int (nI (nd (mI (aU A)) (orN (s1 A) i ||| orN (s2 A i) a)))), (2, .int (nI i)), (3, .int (nI a))] [] h := by
      intro hi2
      refine loopN (dL (aD A)) _ (fun a ha ih2 => ?_)
      have L3 : a < dL (aD A) → ∀ j, j ≤ dJ (aD A) → G X E SHP (0, 0) 30 [(0, .ref (E.1 + 49)), (1, .int (nI (nd (mI (aU A)) (orN (s1 A) i ||| orN (s2 A i) a ||| orN (sP A i a) j)))), (2, .int (nI i)), (3, .int (nI a)), (4, .int (nI j))] [] h := by
        intro ha2
        refine loopN (dJ (aD A)) _ (fun j hj ih3 => ?_)
        refine r_iload C dX8_safe_30 rfl ?_
        refine r_aload_n C dX8_safe_32 rfl ?_
        refine r_getI C dX8_safe_33 flX8_79 (rfl) rfl ?_
        refine r_icmp_ge 99 C dX8_safe_36 (by decide) (fun c_36 => ?_) (fun c_36 => ?_)
        · rw [cLe (x := h 49 17) (c := nI j) (i := dJ (aD A)) (n := j) (e17) (rfl) (by omega) (by omega)] at c_36
          refine r_inc (1) C dX8_safe_99 rfl (by decide) rfl rfl ?_
          refine r_goto 19 C dX8_safe_102 (by decide) ?_
          exact (ih2 ha2).sub ⟨rfl, (by rw [show orN (s2 A i) (a + 1) = orN (s2 A i) a ||| orN (sP A i a) j by rw [show j = dJ (aD A) by omega]; rfl, ← Nat.or_assoc]; rfl), rfl, by rw [nI_succ]; rfl, trivial⟩
        · rw [cLe (x := h 49 17) (c := nI j) (i := dJ (aD A)) (n := j) (e17) (rfl) (by omega) (by omega)] at c_36
          refine r_iload_n C dX8_safe_39 rfl ?_
          refine r_iload_n C dX8_safe_40 rfl ?_
          refine r_icmp_eq 64 C dX8_safe_41 (by decide) (fun c_41 => ?_) (fun c_41 => ?_)
          · rw [cEq (x := nI i) (c := nI a) (i := i) (n := a) (rfl) (rfl) (by omega) (by omega)] at c_41
            refine r_iconst (0) C dX8_safe_64 rfl ?_
            refine r_istore C dX8_safe_65 (by decide) rfl ?_
            refine r_iload_n C dX8_safe_67 rfl ?_
            refine r_iload C dX8_safe_68 rfl ?_
            refine r_if_eq 88 C dX8_safe_70 (by decide) (fun c_70 => ?_) (fun c_70 => ?_)
            · refine r_iconst (0) C dX8_safe_88 rfl ?_
              refine r_iconst (-1) C dX8_safe_89 rfl ?_
              refine r_ixor C dX8_safe_90 ?_
              refine r_iand C dX8_safe_91 ?_
              first | rw [nx_nd, nd_nd] | rw [show (0 : Int32) ^^^ -1 = nI 0 ^^^ -1 from rfl, nx_nd, nd_nd]
              refine r_istore_n C dX8_safe_92 (by decide) rfl ?_
              refine r_inc (1) C dX8_safe_93 rfl (by decide) rfl rfl ?_
              refine r_goto 30 C dX8_safe_96 (by decide) ?_
              have hsp : sP A i a j = 0 := if_neg (fun q => q.1 c_41)
              exact (ih3 (by omega)).sub ⟨rfl, (by rw [show orN (sP A i a) (j + 1) = orN (sP A i a) j ||| 0 by rw [← hsp]; rfl, ← Nat.or_assoc]; rfl), rfl, rfl, by rw [nI_succ]; rfl, trivial⟩
            · exact absurd rfl c_70
          · rw [cEq (x := nI i) (c := nI a) (i := i) (n := a) (rfl) (rfl) (by omega) (by omega)] at c_41
            refine r_aload_n C dX8_safe_44 rfl ?_
            refine r_iload_n C dX8_safe_45 rfl ?_
            refine r_cVi C F dX8_safe_46 (s8_isIn) tw_875 m8_isIn (rfl) rfl (by decide) rfl (Nat.le_of_ble_eq_true rfl) ?_
            refine r_if_eq 64 C dX8_safe_49 (by decide) (fun c_49 => ?_) (fun c_49 => ?_)
            · rw [bz_eq0, b7.1, hasP_nI (by omega) (by omega)] at c_49
              refine r_iconst (0) C dX8_safe_64 rfl ?_
              refine r_istore C dX8_safe_65 (by decide) rfl ?_
              refine r_iload_n C dX8_safe_67 rfl ?_
              refine r_iload C dX8_safe_68 rfl ?_
              refine r_if_eq 88 C dX8_safe_70 (by decide) (fun c_70 => ?_) (fun c_70 => ?_)
              · refine r_iconst (0) C dX8_safe_88 rfl ?_
                refine r_iconst (-1) C dX8_safe_89 rfl ?_
                refine r_ixor C dX8_safe_90 ?_
                refine r_iand C dX8_safe_91 ?_
                first | rw [nx_nd, nd_nd] | rw [show (0 : Int32) ^^^ -1 = nI 0 ^^^ -1 from rfl, nx_nd, nd_nd]
                refine r_istore_n C dX8_safe_92 (by decide) rfl ?_
                refine r_inc (1) C dX8_safe_93 rfl (by decide) rfl rfl ?_
                refine r_goto 30 C dX8_safe_96 (by decide) ?_
                have hsp : sP A i a j = 0 := if_neg (fun q => c_49 q.2.1)
                exact (ih3 (by omega)).sub ⟨rfl, (by rw [show orN (sP A i a) (j + 1) = orN (sP A i a) j ||| 0 by rw [← hsp]; rfl, ← Nat.or_assoc]; rfl), rfl, rfl, by rw [nI_succ]; rfl, trivial⟩
              · exact absurd rfl c_70
            · rw [bz_ne0, b7.1, hasP_nI (by omega) (by omega)] at c_49
              refine r_aload_n C dX8_safe_52 rfl ?_
              refine r_iload_n C dX8_safe_53 rfl ?_
              refine r_cVi C F dX8_safe_54 (s8_isIn) tw_875 m8_isIn (rfl) rfl (by decide) rfl (Nat.le_of_ble_eq_true rfl) ?_
              refine r_if_eq 64 C dX8_safe_57 (by decide) (fun c_57 => ?_) (fun c_57 => ?_)
              · rw [bz_eq0, b7.1, hasP_nI (by omega) (by omega)] at c_57
                refine r_iconst (0) C dX8_safe_64 rfl ?_
                refine r_istore C dX8_safe_65 (by decide) rfl ?_
                refine r_iload_n C dX8_safe_67 rfl ?_
                refine r_iload C dX8_safe_68 rfl ?_
                refine r_if_eq 88 C dX8_safe_70 (by decide) (fun c_70 => ?_) (fun c_70 => ?_)
                · refine r_iconst (0) C dX8_safe_88 rfl ?_
                  refine r_iconst (-1) C dX8_safe_89 rfl ?_
                  refine r_ixor C dX8_safe_90 ?_
                  refine r_iand C dX8_safe_91 ?_
                  first | rw [nx_nd, nd_nd] | rw [show (0 : Int32) ^^^ -1 = nI 0 ^^^ -1 from rfl, nx_nd, nd_nd]
                  refine r_istore_n C dX8_safe_92 (by decide) rfl ?_
                  refine r_inc (1) C dX8_safe_93 rfl (by decide) rfl rfl ?_
                  refine r_goto 30 C dX8_safe_96 (by decide) ?_
                  have hsp : sP A i a j = 0 := if_neg (fun q => c_57 q.2.2)
                  exact (ih3 (by omega)).sub ⟨rfl, (by rw [show orN (sP A i a) (j + 1) = orN (sP A i a) j ||| 0 by rw [← hsp]; rfl, ← Nat.or_assoc]; rfl), rfl, rfl, by rw [nI_succ]; rfl, trivial⟩
                · exact absurd rfl c_70
              · rw [bz_ne0, b7.1, hasP_nI (by omega) (by omega)] at c_57
                refine r_iconst (1) C dX8_safe_60 rfl ?_
                refine r_goto 65 C dX8_safe_61 (by decide) ?_
                refine r_istore C dX8_safe_65 (by decide) rfl ?_
                refine r_iload_n C dX8_safe_67 rfl ?_
                refine r_iload C dX8_safe_68 rfl ?_
                refine r_if_eq 88 C dX8_safe_70 (by decide) (fun c_70 => ?_) (fun c_70 => ?_)
                · exact absurd c_70 (by decide)
                · refine r_aload_n C dX8_safe_73 rfl ?_
                  refine r_aload_n C dX8_safe_74 rfl ?_
                  refine r_getR C dX8_safe_75 flX8_35 (rfl) rfl ?_
                  refine r_iload_n C dX8_safe_78 rfl ?_
                  refine r_iload C dX8_safe_79 rfl ?_
                  refine r_iload_n C dX8_safe_81 rfl ?_
                  refine r_cVi C F dX8_safe_82 (s8_fallsBy (i := i) (j := j) (b := a) b5 (RW_A hA) (by omega) (by omega) (by omega)) tw_894 m8_fallsBy (rfl) rfl (by decide) rfl (Nat.le_of_ble_eq_true rfl) ?_
                  refine r_goto 89 C dX8_safe_85 (by decide) ?_
                  refine r_iconst (-1) C dX8_safe_89 rfl ?_
                  refine r_ixor C dX8_safe_90 ?_
                  refine r_iand C dX8_safe_91 ?_
                  first | rw [nx_nd, nd_nd] | rw [show (0 : Int32) ^^^ -1 = nI 0 ^^^ -1 from rfl, nx_nd, nd_nd]
                  refine r_istore_n C dX8_safe_92 (by decide) rfl ?_
                  refine r_inc (1) C dX8_safe_93 rfl (by decide) rfl rfl ?_
                  refine r_goto 30 C dX8_safe_96 (by decide) ?_
                  have hsp : sP A i a j = fal A i j a := if_pos ⟨c_41, c_49, c_57⟩
                  exact (ih3 (by omega)).sub ⟨rfl, (by rw [show orN (sP A i a) (j + 1) = orN (sP A i a) j ||| fal A i j a by rw [← hsp]; rfl, ← Nat.or_assoc]; rfl), rfl, rfl, by rw [nI_succ]; rfl, trivial⟩
      refine r_iload_n C dX8_safe_19 rfl ?_
      refine r_aload_n C dX8_safe_20 rfl ?_
      refine r_getI C dX8_safe_21 flX8_72 (rfl) rfl ?_
      refine r_icmp_ge 105 C dX8_safe_24 (by decide) (fun c_24 => ?_) (fun c_24 => ?_)
      · rw [cLe (x := h 49 16) (c := nI a) (i := dL (aD A)) (n := a) (e16) (rfl) (by omega) (by omega)] at c_24
        refine r_inc (1) C dX8_safe_105 rfl (by decide) rfl rfl ?_
        refine r_goto 9 C dX8_safe_108 (by decide) ?_
        exact (ih1 hi2).sub ⟨rfl, (by rw [show orN (s1 A) (i + 1) = orN (s1 A) i ||| orN (s2 A i) a by rw [show a = dL (aD A) by omega]; rfl]; rfl), by rw [nI_succ]; rfl, trivial⟩
      · rw [cLe (x := h 49 16) (c := nI a) (i := dL (aD A)) (n := a) (e16) (rfl) (by omega) (by omega)] at c_24
        refine r_iconst (0) C dX8_safe_27 rfl ?_
        refine r_istore C dX8_safe_28 (by decide) rfl ?_
        exact (L3 (by omega) 0 (by omega)).sub ⟨rfl, (by rw [show orN (sP A i a) 0 = 0 from rfl, Nat.or_zero]; rfl), rfl, rfl, rfl, trivial⟩
    refine r_iload_n C dX8_safe_9 rfl ?_
    refine r_aload_n C dX8_safe_10 rfl ?_
    refine r_getI C dX8_safe_11 flX8_72 (rfl) rfl ?_
    refine r_icmp_ge 111 C dX8_safe_14 (by decide) (fun c_14 => ?_) (fun c_14 => ?_)
    · rw [cLe (x := h 49 16) (c := nI i) (i := dL (aD A)) (n := i) (e16) (rfl) (by omega) (by omega)] at c_14
      refine r_iload_n C dX8_safe_111 rfl ?_
      refine r_iret C F dX8_safe_112 ?_
      unfold vSafe
      rw [show dL (aD A) = i by omega]
      exact QM_same hA
    · rw [cLe (x := h 49 16) (c := nI i) (i := dL (aD A)) (n := i) (e16) (rfl) (by omega) (by omega)] at c_14
      refine r_iconst (0) C dX8_safe_17 rfl ?_
      refine r_istore_n C dX8_safe_18 (by decide) rfl ?_
      exact (L2 (by omega) 0 (by omega)).sub ⟨rfl, (by rw [show orN (s2 A i) 0 = 0 from rfl, Nat.or_zero]; rfl), rfl, rfl, trivial⟩
  refine r_aload_n C dX8_safe_0 rfl ?_
  refine r_getR C dX8_safe_1 flX8_35 (rfl) rfl ?_
  refine r_iconst (0) C dX8_safe_4 rfl ?_
  refine r_iald (0) C dX8_safe_5 (rfl) (rfl) (by decide) (by decide) ?_
  rw [b7.1]
  refine r_istore_n C dX8_safe_6 (by decide) rfl ?_
  refine r_iconst (0) C dX8_safe_7 rfl ?_
  refine r_istore_n C dX8_safe_8 (by decide) rfl ?_
  exact (L1 0 (by omega)).sub ⟨rfl, (by rw [show orN (s1 A) 0 = 0 from rfl, nd_0]; rfl), rfl, trivial⟩
/-- the least of the smallest sets below N of which ok says so -/
def covC (ok : Nat → Bool) (N c : Nat) : Option Nat → Prop
  | none => ∀ s, c ≤ s → s < N → ok s = false
  | some b => c ≤ b ∧ b < N ∧ ok b = true ∧ ∀ s, c ≤ s → s < N → ok s = true → pc b 6 < pc s 6 ∨ (pc b 6 = pc s 6 ∧ b ≤ s)
theorem covC_uniq {ok : Nat → Bool} {N c : Nat} {r r' : Option Nat} (a : covC ok N c r) (b : covC ok N c r') : r = r' := by
  cases r with
  | none =>
    cases r' with
    | none => rfl
    | some x => obtain ⟨b1, b2, b3, b4⟩ := b; rw [a x b1 b2] at b3; cases b3
  | some x =>
    obtain ⟨a1, a2, a3, a4⟩ := a
    cases r' with
    | none => rw [b x a1 a2] at a3; cases a3
    | some y =>
      obtain ⟨b1, b2, b3, b4⟩ := b
      have h1 := a4 y b1 b2 b3
      have h2 := b4 x a1 a2 a3
      rw [show x = y by omega]
noncomputable def covF (ok : Nat → Bool) (N : Nat) : Option Nat := Classical.epsilon (fun r => covC ok N 0 r)
theorem covC_eq {ok : Nat → Bool} {N : Nat} {r : Option Nat} (a : covC ok N 0 r) : covF ok N = r := covC_uniq (Classical.epsilon_spec (p := fun r => covC ok N 0 r) ⟨r, a⟩) a
def oI : Option Nat → Int32
  | none => -1
  | some b => nI b
noncomputable def fP (A : At) (i s j a : Nat) : Nat := if s.testBit j = true ∧ (othF (mI (aU A)) i).testBit a = true then fal A i j a else 0
noncomputable def f2 (A : At) (i s j : Nat) : Nat := orN (fP A i s j) (dL (aD A))
noncomputable def okS (A : At) (i s : Nat) : Bool := decide (orN (f2 A i s) (dJ (aD A)) = othF (mI (aU A)) i)
noncomputable def vCover (A : At) (x : Int32) : Int32 := if ¬ lordP A x then -1000000001 else if ¬ hasP (nI (mI (aU A))) x then -1000000003 else oI (covF (okS A (cl x)) (2 ^ dJ (aD A)))
theorem fP_lt {A : At} (q : okD (aD A)) (i s j a : Nat) : fP A i s j a < 2 ^ 6 := by
  unfold fP
  split
  · exact fal_lt q i j a
  · decide
theorem cov_no {ok : Nat → Bool} {N s : Nat} {r : Option Nat} (hr : covC ok N (s + 1) r) (hok : ok s = false) : covC ok N s r := by
  cases r with
  | none =>
    intro k h1 h2
    by_cases e : k = s
    · rw [e]; exact hok
    · exact hr k (by omega) h2
  | some b =>
    obtain ⟨b1, b2, b3, b4⟩ := hr
    refine ⟨by omega, b2, b3, fun k h1 h2 h3 => ?_⟩
    by_cases e : k = s
    · rw [e, hok] at h3; cases h3
    · exact b4 k (by omega) h2 h3
theorem cov_first {ok : Nat → Bool} {N s : Nat} {r : Option Nat} (hN : N ≤ 64 ∧ s < N) (hr : covC ok N (s + 1) r) (hok : ok s = true) (hn : oI r < 0) : covC ok N s (some s) := by
  cases r with
  | none =>
    refine ⟨Nat.le_refl _, hN.2, hok, fun k h1 h2 h3 => ?_⟩
    by_cases e : k = s
    · rw [e]; exact Or.inr ⟨rfl, Nat.le_refl _⟩
    · rw [hr k (by omega) h2] at h3; cases h3
  | some b =>
    have hb := hr.2.1
    exact absurd hn (nI_pos (by omega))
theorem cov_keep {ok : Nat → Bool} {N s : Nat} {r : Option Nat} (hN : N ≤ 64) (hs : s < N) (hr : covC ok N (s + 1) r) (hn : ¬ oI r < 0) (hb : bitsN (oI r) 6 < bitsN (nI s) 6) : covC ok N s r := by
  cases r with
  | none => exact absurd (by decide) hn
  | some b =>
    obtain ⟨b1, b2, b3, b4⟩ := hr
    have p1 := pc_le b 6
    have p2 := pc_le s 6
    rw [show oI (some b) = nI b from rfl, bitsN_nI (by omega) 6 (by decide), bitsN_nI (by omega) 6 (by decide), nI_ltI (by omega) (by omega)] at hb
    refine ⟨by omega, b2, b3, fun k h1 h2 h3 => ?_⟩
    by_cases e : k = s
    · rw [e]; exact Or.inl hb
    · exact b4 k (by omega) h2 h3
theorem cov_take {ok : Nat → Bool} {N s : Nat} {r : Option Nat} (hN : N ≤ 64) (hs : s < N) (hr : covC ok N (s + 1) r) (hok : ok s = true) (hn : ¬ oI r < 0) (hb : ¬ bitsN (oI r) 6 < bitsN (nI s) 6) : covC ok N s (some s) := by
  cases r with
  | none => exact absurd (by decide) hn
  | some b =>
    obtain ⟨b1, b2, b3, b4⟩ := hr
    have p1 := pc_le b 6
    have p2 := pc_le s 6
    rw [show oI (some b) = nI b from rfl, bitsN_nI (by omega) 6 (by decide), bitsN_nI (by omega) 6 (by decide), nI_ltI (by omega) (by omega)] at hb
    refine ⟨Nat.le_refl _, hs, hok, fun k h1 h2 h3 => ?_⟩
    by_cases e : k = s
    · rw [e]; exact Or.inr ⟨rfl, Nat.le_refl _⟩
    · have := b4 k (by omega) h2 h3
      omega
set_option maxHeartbeats 4000000 in
theorem s8_cover {A : At} {x : Int32} (hA : MA h A) : Sp l E SHP 3 M8_cover [.ref (E.1 + 49), .int x] h (QM h (vCover A x, A)) := by
  refine Sp.of (by decide) (Nat.le_of_ble_eq_true rfl) (fun X C F => ?_)
  have C : Ok X E RX8 cX8_cover 8 := C
  have F : Fn X l E SHP 3 (some FieldType.int) (QM h (vCover A x, A)) := F
  show G X E SHP (0, 0) 0 [(0, .ref (E.1 + 49)), (1, .int x)] [] h
  obtain ⟨⟨a1, a2, a3, a4, a5, a6, a7, a8, a9, a10, a11, a12⟩, ⟨b1, b2⟩, b3, b4, b5, b6, b7, ⟨b8, b9⟩, b10, ⟨b11, b12⟩, b13, b14⟩ := id hA
  obtain ⟨okd, e16, e17, e540, e541, eL, eJ⟩ := id b5
  obtain ⟨o1, o2, o3, o4, o5, o6⟩ := id okd
  have p6 : 2 ^ dL (aD A) ≤ 64 := Nat.pow_le_pow_right (n := 2) (by decide) o1
  obtain ⟨k0, k1, k2, k3, k4, k5⟩ := id a5
  have q6 : 2 ^ dJ (aD A) ≤ 64 := Nat.pow_le_pow_right (n := 2) (by decide) o2
  have L : ∀ i, i < dL (aD A) → lordP A x → hasP (nI (mI (aU A))) x → x = nI i → ∀ c, c ≤ 2 ^ dJ (aD A) → ∀ r, covC (okS A i) (2 ^ dJ (aD A)) c r → G X E SHP (0, 0) 47 [(0, .ref (E.1 + 49)), (1, .int (nI i)), (2, .int (nI (othF (mI (aU A)) i))), (3, .int (oI r)), (4, .int (nI c - 1))] [] h := by
    intro i hi hlo hin hxi c
    have hol : othF (mI (aU A)) i < 64 := oth_lt (by omega)
    induction c with
    | zero =>
      intro _ r hr
      refine r_iload C dX8_cover_47 rfl ?_
      refine r_if_lt 167 C dX8_cover_49 (by decide) (fun c_49 => ?_) (fun c_49 => ?_)
      · refine r_iload_n C dX8_cover_167 rfl ?_
        refine r_iret C F dX8_cover_168 ?_
        unfold vCover
        rw [if_neg (not_not_intro hlo), if_neg (not_not_intro hin), hxi, cl_nI (by omega), covC_eq hr]
        exact QM_same hA
      · exact absurd (by decide) c_49
    | succ s ihc =>
      intro hc r hr
      rw [nI_pred]
      have hs64 : s < 64 := by omega
      have L1 : ∀ j, j ≤ dJ (aD A) → G X E SHP (0, 0) 58 [(0, .ref (E.1 + 49)), (1, .int (nI i)), (2, .int (nI (othF (mI (aU A)) i))), (3, .int (oI r)), (4, .int (nI s)), (5, .int (nI (orN (f2 A i s) j))), (6, .int (nI j))] [] h := by
        refine loopN (dJ (aD A)) _ (fun j hj ih1 => ?_)
        have L2 : j < dJ (aD A) → ∀ a, a ≤ dL (aD A) → G X E SHP (0, 0) 70 [(0, .ref (E.1 + 49)), (1, .int (nI i)), (2, .int (nI (othF (mI (aU A)) i))), (3, .int (oI r)), (4, .int (nI s)), (5, .int (nI (orN (f2 A i s) j ||| orN (fP A i s j) a))), (6, .int (nI j)), (7, .int (nI a))] [] h := by
          intro hj2
          refine loopN (dL (aD A)) _ (fun a ha ih2 => ?_)
          refine r_iload C dX8_cover_70 rfl ?_
          refine r_aload_n C dX8_cover_72 rfl ?_
          refine r_getI C dX8_cover_73 flX8_72 (rfl) rfl ?_
          refine r_icmp_ge 126 C dX8_cover_76 (by decide) (fun c_76 => ?_) (fun c_76 => ?_)
          · rw [cLe (x := h 49 16) (c := nI a) (i := dL (aD A)) (n := a) (e16) (rfl) (by omega) (by omega)] at c_76
            refine r_inc (1) C dX8_cover_126 rfl (by decide) rfl rfl ?_
            refine r_goto 58 C dX8_cover_129 (by decide) ?_
            exact (ih1 hj2).sub ⟨rfl, rfl, rfl, rfl, rfl, (by rw [show orN (f2 A i s) (j + 1) = orN (f2 A i s) j ||| orN (fP A i s j) a by rw [show a = dL (aD A) by omega]; rfl]; rfl), by rw [nI_succ]; rfl, trivial⟩
          · rw [cLe (x := h 49 16) (c := nI a) (i := dL (aD A)) (n := a) (e16) (rfl) (by omega) (by omega)] at c_76
            refine r_iload C dX8_cover_79 rfl ?_
            refine r_iload C dX8_cover_81 rfl ?_
            refine r_iload C dX8_cover_83 rfl ?_
            refine r_cSi C F dX8_cover_85 (s8_has) tw_879 m8_has (by decide) rfl (Nat.le_of_ble_eq_true rfl) ?_
            refine r_if_eq 116 C dX8_cover_88 (by decide) (fun c_88 => ?_) (fun c_88 => ?_)
            · rw [bz_eq0, hasP_nI (by omega) (by omega)] at c_88
              refine r_iconst (0) C dX8_cover_116 rfl ?_
              refine r_ior C dX8_cover_117 ?_
              first | rw [nx_or] | rw [show (0 : Int32) = nI 0 from rfl, nx_or]
              refine r_istore C dX8_cover_118 (by decide) rfl ?_
              refine r_inc (1) C dX8_cover_120 rfl (by decide) rfl rfl ?_
              refine r_goto 70 C dX8_cover_123 (by decide) ?_
              have hsp : fP A i s j a = 0 := if_neg (fun q => c_88 q.1)
              exact (ih2 (by omega)).sub ⟨rfl, rfl, rfl, rfl, rfl, (by rw [show orN (fP A i s j) (a + 1) = orN (fP A i s j) a ||| 0 by rw [← hsp]; rfl, ← Nat.or_assoc]; rfl), rfl, by rw [nI_succ]; rfl, trivial⟩
            · rw [bz_ne0, hasP_nI (by omega) (by omega)] at c_88
              refine r_iload_n C dX8_cover_91 rfl ?_
              refine r_iload C dX8_cover_92 rfl ?_
              refine r_cSi C F dX8_cover_94 (s8_has) tw_879 m8_has (by decide) rfl (Nat.le_of_ble_eq_true rfl) ?_
              refine r_if_eq 116 C dX8_cover_97 (by decide) (fun c_97 => ?_) (fun c_97 => ?_)
              · rw [bz_eq0, hasP_nI (by omega) (by omega)] at c_97
                refine r_iconst (0) C dX8_cover_116 rfl ?_
                refine r_ior C dX8_cover_117 ?_
                first | rw [nx_or] | rw [show (0 : Int32) = nI 0 from rfl, nx_or]
                refine r_istore C dX8_cover_118 (by decide) rfl ?_
                refine r_inc (1) C dX8_cover_120 rfl (by decide) rfl rfl ?_
                refine r_goto 70 C dX8_cover_123 (by decide) ?_
                have hsp : fP A i s j a = 0 := if_neg (fun q => c_97 q.2)
                exact (ih2 (by omega)).sub ⟨rfl, rfl, rfl, rfl, rfl, (by rw [show orN (fP A i s j) (a + 1) = orN (fP A i s j) a ||| 0 by rw [← hsp]; rfl, ← Nat.or_assoc]; rfl), rfl, by rw [nI_succ]; rfl, trivial⟩
              · rw [bz_ne0, hasP_nI (by omega) (by omega)] at c_97
                refine r_aload_n C dX8_cover_100 rfl ?_
                refine r_aload_n C dX8_cover_101 rfl ?_
                refine r_getR C dX8_cover_102 flX8_35 (rfl) rfl ?_
                refine r_iload_n C dX8_cover_105 rfl ?_
                refine r_iload C dX8_cover_106 rfl ?_
                refine r_iload C dX8_cover_108 rfl ?_
                refine r_cVi C F dX8_cover_110 (s8_fallsBy (i := i) (j := j) (b := a) b5 (RW_A hA) (by omega) (by omega) (by omega)) tw_894 m8_fallsBy (rfl) rfl (by decide) rfl (Nat.le_of_ble_eq_true rfl) ?_
                refine r_goto 117 C dX8_cover_113 (by decide) ?_
                refine r_ior C dX8_cover_117 ?_
                first | rw [nx_or] | rw [show (0 : Int32) = nI 0 from rfl, nx_or]
                refine r_istore C dX8_cover_118 (by decide) rfl ?_
                refine r_inc (1) C dX8_cover_120 rfl (by decide) rfl rfl ?_
                refine r_goto 70 C dX8_cover_123 (by decide) ?_
                have hsp : fP A i s j a = fal A i j a := if_pos ⟨c_88, c_97⟩
                exact (ih2 (by omega)).sub ⟨rfl, rfl, rfl, rfl, rfl, (by rw [show orN (fP A i s j) (a + 1) = orN (fP A i s j) a ||| fal A i j a by rw [← hsp]; rfl, ← Nat.or_assoc]; rfl), rfl, by rw [nI_succ]; rfl, trivial⟩
        refine r_iload C dX8_cover_58 rfl ?_
        refine r_aload_n C dX8_cover_60 rfl ?_
        refine r_getI C dX8_cover_61 flX8_79 (rfl) rfl ?_
        refine r_icmp_ge 132 C dX8_cover_64 (by decide) (fun c_64 => ?_) (fun c_64 => ?_)
        · rw [cLe (x := h 49 17) (c := nI j) (i := dJ (aD A)) (n := j) (e17) (rfl) (by omega) (by omega)] at c_64
          have hjd : j = dJ (aD A) := by omega
          subst hjd
          have hfl : orN (f2 A i s) (dJ (aD A)) < 64 := orN_lt _ 6 _ (fun k _ => orN_lt _ 6 _ (fun a _ => fP_lt okd i s k a))
          refine r_iload C dX8_cover_132 rfl ?_
          refine r_iload_n C dX8_cover_134 rfl ?_
          refine r_icmp_ne 159 C dX8_cover_135 (by decide) (fun c_135 => ?_) (fun c_135 => ?_)
          · rw [cEq (x := nI (orN (f2 A i s) (dJ (aD A)))) (c := nI (othF (mI (aU A)) i)) (i := orN (f2 A i s) (dJ (aD A))) (n := othF (mI (aU A)) i) (rfl) (rfl) (by omega) (by omega)] at c_135
            refine r_iload_n C dX8_cover_159 rfl ?_
            refine r_istore_n C dX8_cover_160 (by decide) rfl ?_
            refine r_inc (-1) C dX8_cover_161 rfl (by decide) rfl rfl ?_
            refine r_goto 47 C dX8_cover_164 (by decide) ?_
            have hok : okS A i s = false := decide_eq_false c_135
            have hr2 : covC (okS A i) (2 ^ dJ (aD A)) s r := cov_no hr hok
            exact (ihc (by omega) (r) hr2).sub ⟨rfl, rfl, rfl, rfl, (by rw [Int32.sub_eq_add_neg]; rfl), trivial⟩
          · rw [cEq (x := nI (orN (f2 A i s) (dJ (aD A)))) (c := nI (othF (mI (aU A)) i)) (i := orN (f2 A i s) (dJ (aD A))) (n := othF (mI (aU A)) i) (rfl) (rfl) (by omega) (by omega)] at c_135
            refine r_iload_n C dX8_cover_138 rfl ?_
            refine r_if_lt 154 C dX8_cover_139 (by decide) (fun c_139 => ?_) (fun c_139 => ?_)
            · refine r_iload C dX8_cover_154 rfl ?_
              refine r_goto 160 C dX8_cover_156 (by decide) ?_
              refine r_istore_n C dX8_cover_160 (by decide) rfl ?_
              refine r_inc (-1) C dX8_cover_161 rfl (by decide) rfl rfl ?_
              refine r_goto 47 C dX8_cover_164 (by decide) ?_
              have hok : okS A i s = true := decide_eq_true c_135
              have hr2 : covC (okS A i) (2 ^ dJ (aD A)) s (some s) := cov_first ⟨by omega, by omega⟩ hr hok c_139
              exact (ihc (by omega) (some s) hr2).sub ⟨rfl, rfl, rfl, rfl, (by rw [Int32.sub_eq_add_neg]; rfl), trivial⟩
            · refine r_iload C dX8_cover_142 rfl ?_
              refine r_cSi C F dX8_cover_144 (s8_bits) tw_918 m8_bits (by decide) rfl (Nat.le_of_ble_eq_true rfl) ?_
              refine r_iload_n C dX8_cover_147 rfl ?_
              refine r_cSi C F dX8_cover_148 (s8_bits) tw_918 m8_bits (by decide) rfl (Nat.le_of_ble_eq_true rfl) ?_
              refine r_icmp_gt 159 C dX8_cover_151 (by decide) (fun c_151 => ?_) (fun c_151 => ?_)
              · refine r_iload_n C dX8_cover_159 rfl ?_
                refine r_istore_n C dX8_cover_160 (by decide) rfl ?_
                refine r_inc (-1) C dX8_cover_161 rfl (by decide) rfl rfl ?_
                refine r_goto 47 C dX8_cover_164 (by decide) ?_
                have hok : okS A i s = true := decide_eq_true c_135
                have hr2 : covC (okS A i) (2 ^ dJ (aD A)) s r := cov_keep (by omega) (by omega) hr c_139 c_151
                exact (ihc (by omega) (r) hr2).sub ⟨rfl, rfl, rfl, rfl, (by rw [Int32.sub_eq_add_neg]; rfl), trivial⟩
              · refine r_iload C dX8_cover_154 rfl ?_
                refine r_goto 160 C dX8_cover_156 (by decide) ?_
                refine r_istore_n C dX8_cover_160 (by decide) rfl ?_
                refine r_inc (-1) C dX8_cover_161 rfl (by decide) rfl rfl ?_
                refine r_goto 47 C dX8_cover_164 (by decide) ?_
                have hok : okS A i s = true := decide_eq_true c_135
                have hr2 : covC (okS A i) (2 ^ dJ (aD A)) s (some s) := cov_take (by omega) (by omega) hr hok c_139 c_151
                exact (ihc (by omega) (some s) hr2).sub ⟨rfl, rfl, rfl, rfl, (by rw [Int32.sub_eq_add_neg]; rfl), trivial⟩
        · rw [cLe (x := h 49 17) (c := nI j) (i := dJ (aD A)) (n := j) (e17) (rfl) (by omega) (by omega)] at c_64
          refine r_iconst (0) C dX8_cover_67 rfl ?_
          refine r_istore C dX8_cover_68 (by decide) rfl ?_
          exact (L2 (by omega) 0 (by omega)).sub ⟨rfl, rfl, rfl, rfl, rfl, (by rw [show orN (fP A i s j) 0 = 0 from rfl, Nat.or_zero]; rfl), rfl, rfl, trivial⟩
      refine r_iload C dX8_cover_47 rfl ?_
      refine r_if_lt 167 C dX8_cover_49 (by decide) (fun c_49 => ?_) (fun c_49 => ?_)
      · exact absurd c_49 (nI_pos (by omega))
      · refine r_iconst (0) C dX8_cover_52 rfl ?_
        refine r_istore C dX8_cover_53 (by decide) rfl ?_
        refine r_iconst (0) C dX8_cover_55 rfl ?_
        refine r_istore C dX8_cover_56 (by decide) rfl ?_
        exact (L1 0 (by omega)).sub ⟨rfl, rfl, rfl, rfl, rfl, rfl, rfl, trivial⟩
  refine r_aload_n C dX8_cover_0 rfl ?_
  refine r_iload_n C dX8_cover_1 rfl ?_
  refine r_cVi C F dX8_cover_2 (s8_isLord) tw_850 m8_isLord (rfl) rfl (by decide) rfl (Nat.le_of_ble_eq_true rfl) ?_
  refine r_if_ne 11 C dX8_cover_5 (by decide) (fun c_5 => ?_) (fun c_5 => ?_)
  · rw [bz_ne0, e16] at c_5
    obtain ⟨i, hi, hxi⟩ := (inP_lord rfl o1).mp c_5
    refine r_aload_n C dX8_cover_11 rfl ?_
    refine r_iload_n C dX8_cover_12 rfl ?_
    refine r_cVi C F dX8_cover_13 (s8_isIn) tw_875 m8_isIn (rfl) rfl (by decide) rfl (Nat.le_of_ble_eq_true rfl) ?_
    refine r_if_ne 22 C dX8_cover_16 (by decide) (fun c_16 => ?_) (fun c_16 => ?_)
    · rw [bz_ne0, b7.1] at c_16
      refine r_aload_n C dX8_cover_22 rfl ?_
      refine r_getR C dX8_cover_23 flX8_35 (rfl) rfl ?_
      refine r_iconst (0) C dX8_cover_26 rfl ?_
      refine r_iald (0) C dX8_cover_27 (rfl) (rfl) (by decide) (by decide) ?_
      refine r_iconst (1) C dX8_cover_28 rfl ?_
      refine r_iload_n C dX8_cover_29 rfl ?_
      refine r_ishl C dX8_cover_30 ?_
      refine r_iconst (-1) C dX8_cover_31 rfl ?_
      refine r_ixor C dX8_cover_32 ?_
      refine r_iand C dX8_cover_33 ?_
      rw [b7.1, hxi, shl1_nI (by omega), nx_nd]
      refine r_istore_n C dX8_cover_34 (by decide) rfl ?_
      refine r_iconst (-1) C dX8_cover_35 rfl ?_
      refine r_istore_n C dX8_cover_36 (by decide) rfl ?_
      refine r_iconst (1) C dX8_cover_37 rfl ?_
      refine r_aload_n C dX8_cover_38 rfl ?_
      refine r_getI C dX8_cover_39 flX8_79 (rfl) rfl ?_
      refine r_ishl C dX8_cover_42 ?_
      refine r_iconst (1) C dX8_cover_43 rfl ?_
      refine r_isub C dX8_cover_44 ?_
      rw [e17, shl1_nI (by omega)]
      refine r_istore C dX8_cover_45 (by decide) rfl ?_
      exact (L i hi c_5 c_16 hxi _ (Nat.le_refl _) none (fun s h1 h2 => absurd h1 (by omega))).sub ⟨rfl, by rw [← hxi]; rfl, rfl, rfl, rfl, trivial⟩
    · rw [bz_eq0, b7.1] at c_16
      refine r_ldc C dX8_cover_19 tw_882 ?_
      exact r_iret C F dX8_cover_21 (by unfold vCover; rw [if_neg (not_not_intro c_5), if_pos c_16]; exact QM_same hA)
  · rw [bz_eq0, e16] at c_5
    refine r_ldc C dX8_cover_8 tw_854 ?_
    exact r_iret C F dX8_cover_10 (by unfold vCover; rw [if_pos c_5]; exact QM_same hA)
