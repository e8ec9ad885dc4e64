/-! ===== the hall in naturals: what both sides come to ===== -/
/-- lords, jokes, U, N, benches, sads, tastes, kinds, funs -/
abbrev HDt : Type := Nat × Nat × Nat × Nat × (Nat → Nat) × (Nat → Nat) × (Nat → Nat) × (Nat → Nat) × (Nat → Nat)
abbrev dL (D : HDt) : Nat := D.1
abbrev dJ (D : HDt) : Nat := D.2.1
abbrev dU (D : HDt) : Nat := D.2.2.1
abbrev dN (D : HDt) : Nat := D.2.2.2.1
abbrev dB (D : HDt) : Nat → Nat := D.2.2.2.2.1
abbrev dS (D : HDt) : Nat → Nat := D.2.2.2.2.2.1
abbrev dT (D : HDt) : Nat → Nat := D.2.2.2.2.2.2.1
abbrev dK (D : HDt) : Nat → Nat := D.2.2.2.2.2.2.2.1
abbrev dF (D : HDt) : Nat → Nat := D.2.2.2.2.2.2.2.2
def okD (D : HDt) : Prop := dL D ≤ 6 ∧ dJ D ≤ 6 ∧ dU D ≤ 5 ∧ dN D ≤ 3 ∧ (∀ i, i < dL D → dB D i ≤ 2 ∧ 1 ≤ dS D i ∧ dS D i ≤ 20 ∧ dT D i ≤ 15) ∧ ∀ j, j < dJ D → dK D j ≤ 3 ∧ 1 ≤ dF D j ∧ dF D j ≤ 30
def hdF (D : HDt) (t i : Nat) : Nat := max 1 (dS D i - dN D * t)
def likes (D : HDt) (i j : Nat) : Bool := (dT D i).testBit (dK D j)
def amu (f : Nat) (lk look : Bool) : Nat := if look then (if lk then f else f / 2) else (if lk then f else f / 2) / 2
/-- the set of those below n of which p says so -/
def lset (p : Nat → Bool) : Nat → Nat
  | 0 => 0
  | k + 1 => lset p k ||| (if p k then 2 ^ k else 0)
def cnt (p : Nat → Bool) : Nat → Nat
  | 0 => 0
  | k + 1 => cnt p k + (if p k then 1 else 0)
theorem lset_bit (p : Nat → Bool) : ∀ n k, (lset p n).testBit k = (decide (k < n) && p k)
  | 0, k => by simp [lset]
  | n + 1, k => by
    show (lset p n ||| (if p n then 2 ^ n else 0)).testBit k = _
    rw [Nat.testBit_or, lset_bit p n k]
    by_cases e : k = n
    · subst e
      cases hp : p k
      · simp
      · simp [Nat.testBit_two_pow_self]
    · have e2 : (if p n = true then 2 ^ n else 0).testBit k = false := by
        cases p n
        · simp
        · simp [Nat.testBit_two_pow, Ne.symm e]
      rw [e2, Bool.or_false]
      by_cases q : k < n
      · rw [decide_eq_true q, decide_eq_true (by omega : k < n + 1)]
      · rw [decide_eq_false q, decide_eq_false (by omega : ¬ k < n + 1)]
theorem lset_lt (p : Nat → Bool) : ∀ n, lset p n < 2 ^ n
  | 0 => Nat.two_pow_pos 0
  | n + 1 => by
    show lset p n ||| (if p n then 2 ^ n else 0) < 2 ^ (n + 1)
    have h1 := lset_lt p n
    have h2 : 2 ^ n < 2 ^ (n + 1) := Nat.pow_lt_pow_right (by decide) (by omega)
    refine Nat.or_lt_two_pow (Nat.lt_trans h1 h2) ?_
    cases p n
    · exact Nat.two_pow_pos _
    · exact h2
theorem lset_congr {p q : Nat → Bool} : ∀ n, (∀ k, k < n → p k = q k) → lset p n = lset q n
  | 0, _ => rfl
  | n + 1, e => by
    show lset p n ||| (if p n then 2 ^ n else 0) = lset q n ||| (if q n then 2 ^ n else 0)
    rw [lset_congr n (fun k hk => e k (by omega)), e n (by omega)]
theorem cnt_congr {p q : Nat → Bool} : ∀ n, (∀ k, k < n → p k = q k) → cnt p n = cnt q n
  | 0, _ => rfl
  | n + 1, e => by
    show cnt p n + (if p n then 1 else 0) = cnt q n + (if q n then 1 else 0)
    rw [cnt_congr n (fun k hk => e k (by omega)), e n (by omega)]
theorem cnt_le (p : Nat → Bool) : ∀ n, cnt p n ≤ n
  | 0 => Nat.le_refl 0
  | n + 1 => by
    have := cnt_le p n
    show cnt p n + (if p n then 1 else 0) ≤ n + 1
    split <;> omega
theorem cnt_mono {p q : Nat → Bool} : ∀ n, (∀ k, k < n → p k = true → q k = true) → cnt p n ≤ cnt q n
  | 0, _ => Nat.le_refl 0
  | n + 1, e => by
    have := cnt_mono n (fun k hk => e k (by omega))
    show cnt p n + (if p n then 1 else 0) ≤ cnt q n + (if q n then 1 else 0)
    cases hp : p n
    · simp; omega
    · rw [e n (by omega) hp]; simp; omega
/-- how many of the set m sit on i's bench -/
def besN (D : HDt) (m i : Nat) : Nat := cnt (fun o => m.testBit o && (dB D o == dB D i)) (dL D)
/-- nobody more catches it -/
def Closed (D : HDt) (t my : Nat) (Y : Nat) : Prop := ∀ i, i < dL D → my.testBit i = true → Y.testBit i = false → ¬ hdF D t i ≤ 3 * besN D Y i
def sub (a b : Nat) : Prop := ∀ k, a.testBit k = true → b.testBit k = true
theorem sub_rfl (a : Nat) : sub a a := fun _ q => q
theorem sub_tr {a b c : Nat} (p : sub a b) (q : sub b c) : sub a c := fun k z => q k (p k z)
theorem sub_eq {a b : Nat} (p : sub a b) (q : sub b a) : a = b := Nat.eq_of_testBit_eq fun k => by
  cases ha : a.testBit k
  · cases hb : b.testBit k
    · rfl
    · rw [q k hb] at ha; cases ha
  · exact (p k ha).symm
def IsCl (D : HDt) (t my x r : Nat) : Prop := sub x r ∧ Closed D t my r ∧ ∀ Y, sub x Y → Closed D t my Y → sub r Y
theorem IsCl.uniq {D : HDt} {t my x r r' : Nat} (a : IsCl D t my x r) (b : IsCl D t my x r') : r = r' := sub_eq (a.2.2 _ b.1 b.2.1) (b.2.2 _ a.1 a.2.1)
noncomputable def clF (D : HDt) (t my x : Nat) : Nat := Classical.epsilon (fun r => IsCl D t my x r)
theorem IsCl.eq {D : HDt} {t my x r : Nat} (a : IsCl D t my x r) : clF D t my x = r := (Classical.epsilon_spec (p := fun r => IsCl D t my x r) ⟨r, a⟩).uniq a
theorem bes_mono {D : HDt} {m Y i : Nat} (q : sub m Y) : besN D m i ≤ besN D Y i := cnt_mono _ (fun k _ z => by
  rw [Bool.and_eq_true] at z ⊢
  exact ⟨q k z.1, z.2⟩)
/-- who would be out if i tells j and looks at a: m in the hall, t nights, tm how often told -/
def othF (m i : Nat) : Nat := nd m (2 ^ i)
def undF (D : HDt) (m i j : Nat) : Nat := cnt (fun o => (othF m i).testBit o && likes D o j) (dL D)
def lauF (D : HDt) (m t f i j a : Nat) : Nat := lset (fun o => (othF m i).testBit o && decide (hdF D t o ≤ amu f (likes D o j) (o == a))) (dL D)
noncomputable def falF (D : HDt) (m t : Nat) (tm : Nat → Nat) (i j a : Nat) : Nat := if undF D m i j < dU D then 0 else clF D t (othF m i) (lauF D m t (dF D j / 2 ^ tm j) i j a)
theorem or_bit (m i k : Nat) : (m ||| 2 ^ i).testBit k = (m.testBit k || decide (i = k)) := by
  rw [Nat.testBit_or, Nat.testBit_two_pow]
theorem sub_or {m i Y : Nat} (q : sub m Y) (z : Y.testBit i = true) : sub (m ||| 2 ^ i) Y := fun k c => by
  rw [or_bit, Bool.or_eq_true, decide_eq_true_eq] at c
  rcases c with c | c
  · exact q k c
  · rw [← c]; exact z
theorem sub_orl (m i : Nat) : sub m (m ||| 2 ^ i) := fun k c => by rw [or_bit, c, Bool.true_or]
theorem lt_or {m i : Nat} (z : m.testBit i = false) : m < m ||| 2 ^ i := by
  refine Nat.lt_of_le_of_ne (Nat.left_le_or) (fun e => ?_)
  have := or_bit m i i
  rw [← e, z, decide_eq_true rfl] at this
  cases this
/-! one row of the sweep -/
def swC (D : HDt) (t my m i : Nat) : Bool := my.testBit i && !m.testBit i && decide (hdF D t i ≤ 3 * besN D m i)
def sw (D : HDt) (t my m : Nat) : Nat → Nat
  | 0 => m
  | i + 1 => if swC D t my (sw D t my m i) i then sw D t my m i ||| 2 ^ i else sw D t my m i
theorem sw_sub (D : HDt) (t my m : Nat) : ∀ n, sub m (sw D t my m n)
  | 0 => sub_rfl m
  | n + 1 => by
    show sub m (if swC D t my (sw D t my m n) n then sw D t my m n ||| 2 ^ n else sw D t my m n)
    split
    · exact sub_tr (sw_sub D t my m n) (sub_orl _ _)
    · exact sw_sub D t my m n
theorem sw_in (D : HDt) (t my m Y : Nat) (q : sub m Y) (c : Closed D t my Y) : ∀ n, n ≤ dL D → sub (sw D t my m n) Y
  | 0, _ => q
  | n + 1, hn => by
    show sub (if swC D t my (sw D t my m n) n then sw D t my m n ||| 2 ^ n else sw D t my m n) Y
    have ih := sw_in D t my m Y q c n (by omega)
    split
    · rename_i z
      refine sub_or ih ?_
      unfold swC at z
      rw [Bool.and_eq_true, Bool.and_eq_true, decide_eq_true_eq] at z
      cases hY : Y.testBit n
      · exact absurd (Nat.le_trans z.2 (Nat.mul_le_mul_left 3 (bes_mono ih))) (c n (by omega) z.1.1 hY)
      · rfl
    · exact ih
theorem sw_le (D : HDt) (t my m : Nat) : ∀ n, m ≤ sw D t my m n
  | 0 => Nat.le_refl m
  | n + 1 => by
    show m ≤ (if swC D t my (sw D t my m n) n then sw D t my m n ||| 2 ^ n else sw D t my m n)
    split
    · exact Nat.le_trans (sw_le D t my m n) Nat.left_le_or
    · exact sw_le D t my m n
theorem sw_fix (D : HDt) (t my m : Nat) : ∀ n, sw D t my m n = m → ∀ i, i < n → swC D t my m i = false
  | 0, _, i, hi => absurd hi (Nat.not_lt_zero i)
  | n + 1, e, i, hi => by
    have e : (if swC D t my (sw D t my m n) n then sw D t my m n ||| 2 ^ n else sw D t my m n) = m := e
    by_cases z : swC D t my (sw D t my m n) n = true
    · rw [if_pos z] at e
      unfold swC at z
      rw [Bool.and_eq_true, Bool.and_eq_true, Bool.not_eq_true'] at z
      have := lt_or z.1.2
      have h2 := sw_le D t my m n
      omega
    · rw [if_neg z] at e
      rcases Nat.lt_or_ge i n with q | q
      · exact sw_fix D t my m n e i q
      · have : i = n := by omega
        subst this
        rw [e] at z
        exact Bool.eq_false_iff.mpr z
theorem sw_closed {D : HDt} {t my m : Nat} (e : sw D t my m (dL D) = m) : Closed D t my m := fun i hi h1 h2 h3 => by
  have := sw_fix D t my m _ e i hi
  unfold swC at this
  rw [h1, h2, decide_eq_true h3] at this
  cases this
theorem sw_lt (D : HDt) (t my m n : Nat) (hm : m < 2 ^ n) : ∀ k, k ≤ n → sw D t my m k < 2 ^ n
  | 0, _ => hm
  | k + 1, hk => by
    show (if swC D t my (sw D t my m k) k then sw D t my m k ||| 2 ^ k else sw D t my m k) < 2 ^ n
    split
    · exact Nat.or_lt_two_pow (sw_lt D t my m n hm k (by omega)) (Nat.pow_lt_pow_right (by decide) (by omega))
    · exact sw_lt D t my m n hm k (by omega)
/-- the closure is within the hall's bits -/
theorem IsCl.lt {D : HDt} {t my x r : Nat} (a : IsCl D t my x r) (hx : x < 2 ^ dL D) : r < 2 ^ dL D := by
  refine Nat.lt_pow_two_of_testBit r (fun k hk => ?_)
  cases hr : r.testBit k
  · rfl
  · exfalso
    have hC : Closed D t my (2 ^ dL D - 1) := fun i hi _ h2 => by
      rw [Nat.testBit_two_pow_sub_one, decide_eq_true hi] at h2
      cases h2
    have hs : sub x (2 ^ dL D - 1) := fun i hi => by
      rw [Nat.testBit_two_pow_sub_one, decide_eq_true_eq]
      rcases Nat.lt_or_ge i (dL D) with q | q
      · exact q
      · rw [Nat.testBit_lt_two_pow (Nat.lt_of_lt_of_le hx (Nat.pow_le_pow_right (by decide) q))] at hi
        cases hi
    have := a.2.2 _ hs hC k hr
    rw [Nat.testBit_two_pow_sub_one, decide_eq_true_eq] at this
    omega

