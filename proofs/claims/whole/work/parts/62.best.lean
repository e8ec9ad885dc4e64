variable {l : Launch} {E : Ev} {h : Hp}
theorem alr_len {D : HDt} {i : Nat} : ∀ (r : Nat) (u : Mom) {L : List Nat}, alr D i r u = some L → L.length = r
  | 0, u, L, e => by
    have e : (if mI u = 2 ^ i then some [] else none) = some L := e
    split at e
    · cases e; rfl
    · cases e
  | r + 1, u, L, e => by
    refine alm_len (P := alP D i r u) (n := r + 1) (fun k L2 hk => ?_) 60 0 e
    unfold alP at hk
    split at hk
    · cases hr : alr D i r (tl D u i k) with
      | none => rw [hr] at hk; cases hk
      | some L3 =>
        rw [hr] at hk
        cases hk
        show L3.length + 1 = r + 1
        rw [alr_len r _ hr]
    · cases hk
theorem alF_0 {D : HDt} {u : Mom} {i : Nat} : alF D u i = match alr D i 0 u with
  | some L => some L
  | none => match alr D i 1 u with
    | some L => some L
    | none => match alr D i 2 u with
      | some L => some L
      | none => alr D i 3 u := by
  unfold alF
  rw [alr_1, alr_2, alr_3]
  show _ = match (if mI u = 2 ^ i then some ([] : List Nat) else none) with
  | some L => some L
  | none => _
  by_cases c : mI u = 2 ^ i
  · rw [if_pos c, if_pos c]
  · rw [if_neg c, if_neg c]; rfl
theorem alF_at {D : HDt} {u : Mom} {i k : Nat} {L : List Nat} (hk : k ≤ 3) (hno : ∀ b, b < k → alr D i b u = none) (e : alr D i k u = some L) : alF D u i = some L := by
  rw [alF_0]
  rcases (show k = 0 ∨ k = 1 ∨ k = 2 ∨ k = 3 by omega) with rfl | rfl | rfl | rfl
  · rw [e]
  · rw [hno 0 (by omega), e]
  · rw [hno 0 (by omega), hno 1 (by omega), e]
  · rw [hno 0 (by omega), hno 1 (by omega), hno 2 (by omega), e]
theorem alF_no {D : HDt} {u : Mom} {i : Nat} (hno : ∀ b, b < 4 → alr D i b u = none) : alF D u i = none := by
  rw [alF_0, hno 0 (by omega), hno 1 (by omega), hno 2 (by omega), hno 3 (by omega)]
def QZ (h : Hp) (R : Option (List Nat)) : Pst := fun w g => w = some (.int (lnI R)) ∧ (∀ a, a ≠ 48 → g a = h a) ∧ ∀ L k x, R = some L → L[k]? = some x → g 48 k = nI x
set_option maxHeartbeats 4000000 in
theorem s5_shortestRow {o i : Nat} {D : HDt} {v : Mom} (hO : isH o) (ho : o ≤ 12) (hi : i < 6) (hT : CT h o D (mN v) (mM v)) (ok : okW D v 0) : Sp l E SHP 11 M5_shortestRow [.ref (E.1 + 36), .int (nI (mI v)), .int (nI i)] h (QZ h (alF D v i)) := by
  refine Sp.of (by decide) (Nat.le_of_ble_eq_true rfl) (fun X C F => ?_)
  have C : Ok X E RX5 cX5_shortestRow 4 := C
  have F : Fn X l E SHP 11 (some FieldType.int) (QZ h (alF D v i)) := F
  show G X E SHP (0, 0) 0 [(0, .ref (E.1 + 36)), (1, .int (nI (mI v))), (2, .int (nI i))] [] h
  have Lp : ∀ k, k ≤ 4 → ∀ g : Hp, (∀ a, a ≠ 48 → g a = h a) → (∀ b, b < k → alr D i b v = none) → G X E SHP (0, 0) 2 [(0, .ref (E.1 + 36)), (1, .int (nI (mI v))), (2, .int (nI i)), (3, .int (nI k))] [] g := by
    refine loopN 4 _ (fun k hk ih g fr hno => ?_)
    have hTg : CT g o D (mN v) (mM v) := CT_cg hT ho (fun b hb => fr b (by omega))
    refine r_iload_n C dX5_shortestRow_2 rfl ?_
    refine r_iconst (3) C dX5_shortestRow_3 rfl ?_
    refine r_icmp_gt 26 C dX5_shortestRow_4 (by decide) (fun c_4 => ?_) (fun c_4 => ?_)
    · rw [cLt (x := 3) (c := nI k) (i := 3) (n := k) (rfl) (rfl) (by omega) (by omega)] at c_4
      refine r_iconst (-1) C dX5_shortestRow_26 rfl ?_
      have e := alF_no (D := D) (u := v) (i := i) (fun b hb => hno b (by omega))
      rw [e] at F
      exact r_iret C F dX5_shortestRow_27 ⟨rfl, fr, fun L2 b x e1 e2 => by cases e1⟩
    · rw [cLt (x := 3) (c := nI k) (i := 3) (n := k) (rfl) (rfl) (by omega) (by omega)] at c_4
      refine r_aload_n C dX5_shortestRow_7 rfl ?_
      refine r_iload_n C dX5_shortestRow_8 rfl ?_
      refine r_iload_n C dX5_shortestRow_9 rfl ?_
      refine r_iconst (0) C dX5_shortestRow_10 rfl ?_
      refine r_iload_n C dX5_shortestRow_11 rfl ?_
      refine r_callV C F dX5_shortestRow_12 (s5_isAloneAfter hO ho hi hT.2.1.1 k g v 0 k 0 hTg ok (by omega) (by omega) (by omega) hno) tw_523 m5_isAloneAfter (rfl) rfl (by omega) rfl (Nat.le_of_ble_eq_true rfl) (fun w2 g2 q => ?_)
      obtain ⟨rfl, z1, z2, z3⟩ := q
      have fr2 : ∀ a, a ≠ 48 → g2 a = h a := fun a ha => (z1 a ha).trans (fr a ha)
      show G X E SHP (0, 0) 15 _ [.int (bz ((alr D i k v).isSome = true))] g2
      refine r_if_eq 20 C dX5_shortestRow_15 (by decide) (fun c_15 => ?_) (fun c_15 => ?_)
      · refine r_inc (1) C dX5_shortestRow_20 rfl (by decide) rfl rfl ?_
        refine r_goto 2 C dX5_shortestRow_23 (by decide) ?_
        rw [bz_eq0] at c_15
        have hn2 : alr D i k v = none := by
          cases hr : alr D i k v with
          | none => rfl
          | some L => rw [hr] at c_15; exact absurd rfl c_15
        exact (ih (by omega) g2 fr2 (fun b hb => by by_cases e : b = k; (rw [e]; exact hn2); exact hno b (by omega))).sub ⟨rfl, rfl, rfl, by rw [nI_succ]; rfl, trivial⟩
      · refine r_iload_n C dX5_shortestRow_18 rfl ?_
        rw [bz_ne0] at c_15
        cases hr : alr D i k v with
        | none => rw [hr] at c_15; cases c_15
        | some L =>
          have e := alF_at (by omega) hno hr
          rw [e] at F
          refine r_iret C F dX5_shortestRow_19 ⟨?_, fr2, fun L2 b x e1 e2 => ?_⟩
          · show _ = some (Value.int (nI L.length))
            rw [alr_len k v hr]
          · cases e1
            have := z3 L b x hr e2
            rw [Nat.zero_add] at this
            exact this
  refine r_iconst (0) C dX5_shortestRow_0 rfl ?_
  refine r_istore_n C dX5_shortestRow_1 (by decide) rfl ?_
  exact (Lp 0 (by decide) h (fun _ _ => rfl) (fun b hb => absurd hb (Nat.not_lt_zero b))).sub ⟨rfl, rfl, rfl, rfl, trivial⟩
/-! duels: whoever tells does his best -/
theorem clF_sub {D : HDt} {t my x : Nat} (hx : x < 2 ^ dL D) (hs : sub x my) : sub (clF D t my x) my := (clF_is D t my x hx).2.2 my hs (fun i _ h1 h2 => by rw [h1] at h2; cases h2)
theorem fal_sub (D : HDt) (m t : Nat) (tm : Nat → Nat) (i j a : Nat) : sub (falF D m t tm i j a) (othF m i) := by
  unfold falF
  split
  · intro k hk; rw [Nat.zero_testBit] at hk; cases hk
  · refine clF_sub (lset_lt _ _) (fun k hk => ?_)
    unfold lauF at hk
    rw [lset_bit, Bool.and_eq_true, Bool.and_eq_true] at hk
    exact hk.2.1
theorem oth_i (m i : Nat) : (othF m i).testBit i = false := by
  unfold othF
  rw [nd_bit, Nat.testBit_two_pow_self]
  simp
theorem fal_i (D : HDt) (m t : Nat) (tm : Nat → Nat) (i j a : Nat) : (falF D m t tm i j a).testBit i = false := by
  cases hb : (falF D m t tm i j a).testBit i with
  | false => rfl
  | true => have := fal_sub D m t tm i j a i hb; rw [oth_i] at this; cases this
theorem tl_in {D : HDt} {u : Mom} {i c : Nat} (q : (mI u).testBit i = true) : (mI (tl D u i c)).testBit i = true := by
  show (nd (mI u) (falF D (mI u) (mN u) (mM u) i (c / 10) (c % 10))).testBit i = true
  rw [nd_bit, q, fal_i]; rfl
noncomputable def bsK (D : HDt) (f : Nat → Nat) (u : Mom) (x : Nat) : Nat → Option (Nat × Nat)
  | 0 => none
  | k + 1 => if canB D u x k = true then (match bsK D f u x k with
    | none => some (f k, k)
    | some q => if q.1 < f k then some (f k, k) else some q) else bsK D f u x k
noncomputable def bV (D : HDt) : Nat → Mom → Nat → Nat → Nat
  | 0, _, _, _ => 1
  | r + 1, u, x, y => match bsK D (fun c => if (mI (tl D u x c)).testBit y = false then 2 else 2 - bV D r (tl D u x c) y x) u x 60 with
    | none => 1
    | some q => q.1
noncomputable def bF (D : HDt) (r : Nat) (u : Mom) (x y c : Nat) : Nat := if (mI (tl D u x c)).testBit y = false then 2 else 2 - bV D r (tl D u x c) y x
theorem bV_s (D : HDt) (r : Nat) (u : Mom) (x y : Nat) : bV D (r + 1) u x y = match bsK D (bF D r u x y) u x 60 with
    | none => 1
    | some q => q.1 := rfl
theorem bF_le (D : HDt) (r : Nat) (u : Mom) (x y c : Nat) : bF D r u x y c ≤ 2 := by
  unfold bF
  split <;> omega
theorem bs_n {D : HDt} {f : Nat → Nat} {u : Mom} {x k : Nat} (e : canB D u x k = false) : bsK D f u x (k + 1) = bsK D f u x k := if_neg (by rw [e]; decide)
theorem bs_0 {D : HDt} {f : Nat → Nat} {u : Mom} {x k : Nat} (e : canB D u x k = true) (z : bsK D f u x k = none) : bsK D f u x (k + 1) = some (f k, k) := by
  show (if canB D u x k = true then (match bsK D f u x k with
    | none => some (f k, k)
    | some q => if q.1 < f k then some (f k, k) else some q) else bsK D f u x k) = _
  rw [if_pos e, z]
theorem bs_s {D : HDt} {f : Nat → Nat} {u : Mom} {x k : Nat} {q : Nat × Nat} (e : canB D u x k = true) (z : bsK D f u x k = some q) : bsK D f u x (k + 1) = if q.1 < f k then some (f k, k) else some q := by
  show (if canB D u x k = true then (match bsK D f u x k with
    | none => some (f k, k)
    | some q => if q.1 < f k then some (f k, k) else some q) else bsK D f u x k) = _
  rw [if_pos e, z]
theorem bs_le {D : HDt} {f : Nat → Nat} {u : Mom} {x : Nat} (hf : ∀ c, f c ≤ 2) : ∀ k q, bsK D f u x k = some q → q.1 ≤ 2 ∧ q.2 < k
  | 0, q, e => by cases e
  | k + 1, q, e => by
    have hb := hf k
    cases hc : canB D u x k with
    | false => rw [bs_n hc] at e; have := bs_le hf k q e; exact ⟨this.1, by omega⟩
    | true =>
      cases hz : bsK D f u x k with
      | none => rw [bs_0 hc hz] at e; cases e; exact ⟨hb, by show k < k + 1; omega⟩
      | some r =>
        rw [bs_s hc hz] at e
        have := bs_le hf k r hz
        split at e
        · cases e; exact ⟨hb, by show k < k + 1; omega⟩
        · cases e; exact ⟨this.1, by omega⟩
theorem bs_ge {D : HDt} {f : Nat → Nat} {u : Mom} {x b : Nat} (hc : canB D u x b = true) : ∀ k, b < k → ∃ q, bsK D f u x k = some q ∧ f b ≤ q.1
  | 0, h => absurd h (Nat.not_lt_zero b)
  | k + 1, h => by
    by_cases e : b = k
    · subst e
      cases hz : bsK D f u x b with
      | none => exact ⟨_, bs_0 hc hz, Nat.le_refl _⟩
      | some r =>
        rw [bs_s hc hz]
        by_cases c : r.1 < f b
        · rw [if_pos c]; exact ⟨_, rfl, Nat.le_refl _⟩
        · rw [if_neg c]; exact ⟨_, rfl, by omega⟩
    · obtain ⟨q, q1, q2⟩ := bs_ge hc k (by omega)
      cases h2 : canB D u x k with
      | false => rw [bs_n h2]; exact ⟨q, q1, q2⟩
      | true =>
        rw [bs_s h2 q1]
        by_cases c : q.1 < f k
        · rw [if_pos c]; exact ⟨_, rfl, by show f b ≤ f k; omega⟩
        · rw [if_neg c]; exact ⟨_, rfl, q2⟩
theorem bs_skip {D : HDt} {f : Nat → Nat} {u : Mom} {x k : Nat} : ∀ n, k ≤ n → (∀ c, k ≤ c → c < n → canB D u x c = false) → bsK D f u x n = bsK D f u x k
  | 0, h, _ => by rw [show k = 0 by omega]
  | n + 1, h, e => by
    by_cases c : k = n + 1
    · rw [c]
    · rw [bs_n (e n (by omega) (by omega))]
      exact bs_skip n (by omega) (fun c h1 h2 => e c h1 (by omega))
theorem bs_stop {D : HDt} {f : Nat → Nat} {u : Mom} {x k : Nat} {q : Nat × Nat} (hf : ∀ c, f c ≤ 2) (hq : bsK D f u x k = some q) (h2 : 2 ≤ q.1) : ∀ n, k ≤ n → bsK D f u x n = some q
  | 0, h => by rw [← hq, show k = 0 by omega]
  | n + 1, h => by
    by_cases c : k = n + 1
    · rw [← c]; exact hq
    · have := bs_stop hf hq h2 n (by omega)
      cases hc : canB D u x n with
      | false => rw [bs_n hc]; exact this
      | true => rw [bs_s hc this, if_neg (by have := hf n; omega)]
theorem bs_cg {D : HDt} {f g : Nat → Nat} {u : Mom} {x : Nat} (e : ∀ c, canB D u x c = true → f c = g c) : ∀ k, bsK D f u x k = bsK D g u x k
  | 0 => rfl
  | k + 1 => by
    have ih := bs_cg e k
    cases hc : canB D u x k with
    | false => rw [bs_n hc, bs_n hc, ih]
    | true =>
      cases hz : bsK D g u x k with
      | none => rw [bs_0 hc (ih.trans hz), bs_0 hc hz, e k hc]
      | some r => rw [bs_s hc (ih.trans hz), bs_s hc hz, e k hc]
theorem due_bs (D : HDt) (u : Mom) (x y n : Nat) : ∀ k, dueK D u x y n k = bsK D (dueB D u x y n) u x k
  | 0 => rfl
  | k + 1 => by
    show (if canB D u x k = true then (match dueK D u x y n k with
    | none => some (dueB D u x y n k, k)
    | some q => if q.1 < dueB D u x y n k then some (dueB D u x y n k, k) else some q) else dueK D u x y n k) = _
    rw [due_bs D u x y n k]
    rfl
theorem las_bs (D : HDt) (u : Mom) (x y : Nat) : ∀ k, (∀ q, bsK D (bF D 0 u x y) u x k = some q → 1 ≤ q.1) ∧ lasK D u x y k = match bsK D (bF D 0 u x y) u x k with
    | none => 1
    | some q => q.1
  | 0 => ⟨(fun q e => by cases e), rfl⟩
  | k + 1 => by
    obtain ⟨i1, i2⟩ := las_bs D u x y k
    cases hc : canB D u x k with
    | false =>
      rw [bs_n hc, show lasK D u x y (k + 1) = lasK D u x y k from if_neg (fun z => by rw [hc] at z; cases z.1)]
      exact ⟨i1, i2⟩
    | true =>
      by_cases c : (mI (tl D u x k)).testBit y = false
      · have l2 : lasK D u x y (k + 1) = 2 := if_pos ⟨hc, c⟩
        have b2 : bF D 0 u x y k = 2 := if_pos c
        rw [l2]
        cases hz : bsK D (bF D 0 u x y) u x k with
        | none => rw [bs_0 hc hz, b2]; exact ⟨(fun q e => by cases e; exact (by decide : 1 ≤ 2)), rfl⟩
        | some r =>
          have hr2 := (bs_le (bF_le D 0 u x y) k r hz).1
          rw [bs_s hc hz, b2]
          by_cases c2 : r.1 < 2
          · rw [if_pos c2]; exact ⟨(fun q e => by cases e; exact (by decide : 1 ≤ 2)), rfl⟩
          · rw [if_neg c2]; exact ⟨(fun q e => by cases e; exact i1 r hz), by show 2 = r.1; omega⟩
      · have l2 : lasK D u x y (k + 1) = lasK D u x y k := if_neg (fun z => c z.2)
        have b2 : bF D 0 u x y k = 1 := if_neg c
        rw [l2]
        cases hz : bsK D (bF D 0 u x y) u x k with
        | none =>
          rw [hz] at i2
          rw [bs_0 hc hz, b2]; exact ⟨(fun q e => by cases e; exact Nat.le_refl 1), i2⟩
        | some r =>
          have hr := i1 r hz
          rw [hz] at i2
          rw [bs_s hc hz, b2, if_neg (by omega)]
          exact ⟨(fun q e => by cases e; exact hr), i2⟩
theorem nex_bs {D : HDt} {u : Mom} {x y n : Nat} {f : Nat → Nat} (hf : ∀ c, f c ≤ 2) (e : ∀ c, nexB D u x y n c = 2 - f c) : ∀ k, nexK D u x y n k = match bsK D f u y k with
    | none => 2
    | some q => 2 - q.1
  | 0 => rfl
  | k + 1 => by
    have ih := nex_bs hf e k
    have hl : nexK D u x y n (k + 1) = if canB D u y k = true then (if nexB D u x y n k < nexK D u x y n k then nexB D u x y n k else nexK D u x y n k) else nexK D u x y n k := rfl
    have hk := hf k
    rw [hl]
    cases hc : canB D u y k with
    | false => rw [bs_n hc, if_neg (by decide)]; exact ih
    | true =>
      rw [if_pos rfl, e k]
      cases hz : bsK D f u y k with
      | none =>
        rw [hz] at ih
        have ih : nexK D u x y n k = 2 := ih
        rw [bs_0 hc hz, ih]
        show (if 2 - f k < 2 then 2 - f k else 2) = 2 - f k
        split <;> omega
      | some r =>
        rw [hz] at ih
        have ih : nexK D u x y n k = 2 - r.1 := ih
        have hr := (bs_le hf k r hz).1
        rw [bs_s hc hz, ih]
        by_cases c : r.1 < f k
        · rw [if_pos c, if_pos (by omega)]
        · rw [if_neg c, if_neg (by omega)]
theorem bV_le (D : HDt) : ∀ r u x y, bV D r u x y ≤ 2
  | 0, _, _, _ => (by decide : 1 ≤ 2)
  | r + 1, u, x, y => by
    rw [bV_s]
    cases hz : bsK D (bF D r u x y) u x 60 with
    | none => decide
    | some q => exact (bs_le (bF_le D r u x y) 60 q hz).1
/-- both are in the hall, and there are jokes -/
def bth (D : HDt) (u : Mom) (x y : Nat) : Prop := x < dL D ∧ y < dL D ∧ ¬ x = y ∧ (mI u).testBit x = true ∧ (mI u).testBit y = true ∧ 0 < dJ D ∧ dL D ≤ 6
theorem bth.swap {D : HDt} {u : Mom} {x y : Nat} (q : bth D u x y) : bth D u y x := ⟨q.2.1, q.1, fun z => q.2.2.1 z.symm, q.2.2.2.2.1, q.2.2.2.1, q.2.2.2.2.2⟩
theorem bth.can {D : HDt} {u : Mom} {x y : Nat} (q : bth D u x y) : canB D u x (10 * 0 + y) = true := by
  obtain ⟨h1, h2, h3, h4, h5, h6, h7⟩ := q
  rw [can_at (by omega), decide_eq_true h6, decide_eq_true h2, decide_eq_true (show ¬ y = x from fun z => h3 z.symm), h5]
  rfl
theorem bth.nx {D : HDt} {u : Mom} {x y c : Nat} (q : bth D u x y) (h : ¬ (mI (tl D u x c)).testBit y = false) : bth D (tl D u x c) x y := ⟨q.1, q.2.1, q.2.2.1, tl_in q.2.2.2.1, by revert h; cases (mI (tl D u x c)).testBit y <;> simp, q.2.2.2.2.2⟩
theorem bth.ex {D : HDt} {u : Mom} {x y : Nat} (q : bth D u x y) (f : Nat → Nat) : ∃ p, bsK D f u x 60 = some p := by
  obtain ⟨p, h1, h2⟩ := bs_ge (f := f) q.can 60 (by have := q.2.1; have := q.2.2.2.2.2.2; omega)
  exact ⟨p, h1⟩
theorem nex_bV {D : HDt} {u : Mom} {x y n r : Nat} (q : bth D u x y) (hn : (n = 2 ∧ r = 0) ∨ (n = 3 ∧ r = 1)) : nexK D u x y n 60 = 2 - bV D (r + 1) u y x := by
  rw [nex_bs (bF_le D r u y x) (fun c => ?_) 60, bV_s]
  · obtain ⟨p, hp⟩ := q.swap.ex (bF D r u y x)
    rw [hp]
  · unfold nexB bF
    by_cases c1 : (mI (tl D u y c)).testBit x = false
    · rw [if_pos c1, if_pos c1]
    · rw [if_neg c1, if_neg c1]
      rcases hn with ⟨rfl, rfl⟩ | ⟨rfl, rfl⟩
      · rw [if_pos rfl]; rfl
      · rw [if_neg (by decide), (las_bs D _ x y 60).2]
        have := bV_le D 1 (tl D u y c) x y
        rw [bV_s] at this ⊢
        omega
theorem due_bV {D : HDt} {u : Mom} {x y n : Nat} (q : bth D u x y) (hn : 1 ≤ n) (hn3 : n ≤ 3) : dueK D u x y n 60 = bsK D (bF D (n - 1) u x y) u x 60 := by
  rw [due_bs]
  refine bs_cg (fun c hc => ?_) 60
  unfold dueB bF
  by_cases c1 : (mI (tl D u x c)).testBit y = false
  · rw [if_pos c1, if_pos c1]
  · rw [if_neg c1, if_neg c1]
    rcases (show n = 1 ∨ n = 2 ∨ n = 3 by omega) with rfl | rfl | rfl
    · rw [if_pos rfl]; rfl
    · rw [if_neg (by decide)]; exact nex_bV (q.nx c1) (Or.inl ⟨rfl, rfl⟩)
    · rw [if_neg (by decide)]; exact nex_bV (q.nx c1) (Or.inr ⟨rfl, rfl⟩)
