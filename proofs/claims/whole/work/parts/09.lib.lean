/-! small helpers of the walks -/
def bz (p : Prop) [Decidable p] : Int32 := if p then 1 else 0
theorem bz_t {p : Prop} [Decidable p] (q : p) : bz p = 1 := if_pos q
theorem bz_f {p : Prop} [Decidable p] (q : ¬ p) : bz p = 0 := if_neg q
theorem narrow_bz (p : Prop) [Decidable p] : narrow .boolean (.int (bz p)) = .int (bz p) := by
  by_cases q : p
  · rw [bz_t q]; rfl
  · rw [bz_f q]; rfl
theorem pd_i {v r : Int32} {h h1 : Hp} (e : v = r) (e2 : h = h1) : PD (some (.int r)) h1 (some (.int v)) h := by
  subst e; subst e2; exact ⟨rfl, rfl⟩
theorem pd_v {h h1 : Hp} (e2 : h = h1) : PD none h1 none h := by
  subst e2; exact ⟨rfl, rfl⟩
theorem r_inc {X : Cx} {E : Ev} {S : List dsc} {cz : Nat × Nat} {pc : Nat} {ls : LSt} {st : List Value} {h : Hp} {own : String} {cc : ByteArray} {nL i : Nat} {n : Int} {x : Int32} (v : Int32) (C : Ok X E own cc nL) (hd : decode cc pc = .ok (.iinc i n, 3)) (hv : Int32.ofInt n = v) (hi : i < nL) (hk : lk ls i = some (.int x)) (hn : nolong ls i = true) (k : G X E S cz (pc + 3) ((i, .int (x + v)) :: ls) st h) : G X E S cz pc ls st h := by
  subst hv
  exact r_iinc C hd hi hk hn k
/-- a loop that counts up -/
theorem loopN (N : Nat) (I : Nat → Prop) (step : ∀ i, i ≤ N → (i < N → I (i + 1)) → I i) : ∀ i, i ≤ N → I i := by
  have key : ∀ n i, i + n = N → I i := by
    intro n
    induction n with
    | zero => intro i q; exact step i (by omega) (fun c => by omega)
    | succ n ih => intro i q; exact step i (by omega) (fun _ => ih (i + 1) (by omega))
  exact fun i q => key (N - i) i (by omega)
theorem nI_lt_i {i : Nat} {n : Nat} (hi : i < 2147483648) (hn : n < 2147483648) : (nI i < nI n) ↔ i < n := nI_ltI hi hn

theorem bz_eq0 {p : Prop} [Decidable p] : bz p = 0 ↔ ¬ p := by
  by_cases q : p
  · rw [bz_t q]; exact ⟨fun z => absurd z (by decide), fun z => absurd q z⟩
  · rw [bz_f q]; exact ⟨fun _ => q, fun _ => rfl⟩
theorem bz_ne0 {p : Prop} [Decidable p] : ¬ bz p = 0 ↔ p := by rw [bz_eq0, Decidable.not_not]
theorem bz_congr {p q : Prop} [Decidable p] [Decidable q] (e : p ↔ q) : bz p = bz q := by
  by_cases c : p
  · rw [bz_t c, bz_t (e.mp c)]
  · rw [bz_f c, bz_f (fun z => c (e.mpr z))]
theorem bz_01 (p : Prop) [Decidable p] : bz p = 0 ∨ bz p = 1 := by
  by_cases c : p
  · exact Or.inr (bz_t c)
  · exact Or.inl (bz_f c)
abbrev hasP (set k : Int32) : Prop := set >>> (k &&& 31) &&& 1 = 1
abbrev inP (v a b : Int32) : Prop := a ≤ v ∧ v ≤ b
def PR (r : Int32 × Hp) : Pst := PD (some (.int r.1)) r.2
/-! heaps -/
theorem up_at (h : Hp) (i k : Nat) (x : Int32) (a b : Nat) : up h i k x a b = if a = i ∧ b = k then x else h a b := by
  unfold up upr
  by_cases e : a = i
  · subst e
    rw [if_pos rfl]
    unfold upd
    by_cases f : b = k
    · rw [if_pos f, if_pos ⟨rfl, f⟩]
    · rw [if_neg f, if_neg (fun q => f q.2)]
  · rw [if_neg e, if_neg (fun q => e q.1)]
theorem upr_at (h : Hp) (i : Nat) (f : Nat → Int32) (a b : Nat) : upr h i f a b = if a = i then f b else h a b := by
  unfold upr
  by_cases e : a = i
  · rw [if_pos e, if_pos e]
  · rw [if_neg e, if_neg e]
theorem up_row (h : Hp) (i k : Nat) (x : Int32) {a : Nat} (e : a ≠ i) : up h i k x a = h a := if_neg e
theorem up_self (h : Hp) (i k : Nat) (x : Int32) : up h i k x i k = x := by rw [up_at, if_pos ⟨rfl, rfl⟩]
theorem up_off (h : Hp) (i k : Nat) (x : Int32) {b : Nat} (e : b ≠ k) : up h i k x i b = h i b := by rw [up_at, if_neg (fun q => e q.2)]
theorem upr_row (h : Hp) (i : Nat) (f : Nat → Int32) {a : Nat} (e : a ≠ i) : upr h i f a = h a := if_neg e
theorem upr_self (h : Hp) (i : Nat) (f : Nat → Int32) : upr h i f i = f := if_pos rfl
theorem hp_ext {g h : Hp} (e : ∀ a b, g a b = h a b) : g = h := funext fun a => funext fun b => e a b
theorem up_id {h : Hp} {i k : Nat} {x : Int32} (e : h i k = x) : up h i k x = h := hp_ext fun a b => by
  rw [up_at]
  by_cases q : a = i ∧ b = k
  · rw [if_pos q, ← e, q.1, q.2]
  · rw [if_neg q]
theorem up_up (h : Hp) (i k : Nat) (x y : Int32) : up (up h i k x) i k y = up h i k y := hp_ext fun a b => by
  simp only [up_at]
  by_cases q : a = i ∧ b = k
  · rw [if_pos q, if_pos q]
  · rw [if_neg q, if_neg q, if_neg q]
theorem up_comm (h : Hp) {i k i2 k2 : Nat} (x y : Int32) (e : ¬ (i = i2 ∧ k = k2)) : up (up h i k x) i2 k2 y = up (up h i2 k2 y) i k x := hp_ext fun a b => by
  simp only [up_at]
  by_cases q : a = i ∧ b = k
  · have : ¬ (a = i2 ∧ b = k2) := fun z => e ⟨q.1.symm.trans z.1, q.2.symm.trans z.2⟩
    rw [if_neg this, if_pos q, if_pos q]
  · rw [if_neg q, if_neg q]
theorem up_upr (h : Hp) (i k : Nat) (f : Nat → Int32) (x : Int32) : up (upr h i f) i k x = upr h i (upd f k x) := hp_ext fun a b => by
  simp only [up_at, upr_at, upd]
  by_cases q : a = i
  · simp [q]
  · simp [q]
theorem upr_id {h : Hp} {i : Nat} {f : Nat → Int32} (e : h i = f) : upr h i f = h := hp_ext fun a b => by
  rw [upr_at]
  by_cases q : a = i
  · rw [if_pos q, q, e]
  · rw [if_neg q]
theorem upr_congr {h : Hp} {i : Nat} {f g : Nat → Int32} (e : ∀ k, f k = g k) : upr h i f = upr h i g := by rw [show f = g from funext e]
theorem upr_upr (h : Hp) (i : Nat) (f g : Nat → Int32) : upr (upr h i f) i g = upr h i g := hp_ext fun a b => by
  simp only [upr_at]
  by_cases q : a = i
  · rw [if_pos q, if_pos q]
  · rw [if_neg q, if_neg q, if_neg q]
theorem upr_comm (h : Hp) {i j : Nat} (f g : Nat → Int32) (e : i ≠ j) : upr (upr h i f) j g = upr (upr h j g) i f := hp_ext fun a b => by
  simp only [upr_at]
  by_cases q : a = i
  · have : a ≠ j := fun z => e (q.symm.trans z)
    rw [if_neg this, if_pos q, if_pos q]
  · rw [if_neg q, if_neg q]
/-! numbers -/
theorem nI_lit3 (i : Nat) : (3 : Int32) * nI i = nI (3 * i) := pk_mul 3 i
theorem nI_lit2 (i : Nat) : (2 : Int32) * nI i = nI (2 * i) := pk_mul 2 i
theorem nI_lit16 (i : Nat) : (16 : Int32) * nI i = nI (16 * i) := pk_mul 16 i
theorem ix31 (i : Nat) : (3 : Int32) * nI i + 1 = nI (3 * i + 1) := by rw [nI_lit3]; exact nI_add _ 1
theorem ix32 (i : Nat) : (3 : Int32) * nI i + 2 = nI (3 * i + 2) := by rw [nI_lit3]; exact nI_add _ 2
theorem ix3k (i k : Nat) : (3 : Int32) * nI i + nI k = nI (3 * i + k) := by rw [nI_lit3]; exact nI_add _ _
theorem ix21 (i : Nat) : (2 : Int32) * nI i + 1 = nI (2 * i + 1) := by rw [nI_lit2]; exact nI_add _ 1
theorem ix2k (i k : Nat) : (2 : Int32) * nI i + nI k = nI (2 * i + k) := by rw [nI_lit2]; exact nI_add _ _
theorem ix10 (j : Nat) : (10 : Int32) + nI j = nI (10 + j) := nI_add 10 j
theorem ix1 (j : Nat) : (1 : Int32) + nI j = nI (1 + j) := nI_add 1 j
theorem nI_lt_lit {i n : Nat} {c : Int32} (hc : c = nI n) (hi : i < 2147483648) (hn : n < 2147483648) : nI i < c ↔ i < n := by rw [hc]; exact nI_ltI hi hn
theorem nI_le_lit {i n : Nat} {c : Int32} (hc : c = nI n) (hi : i < 2147483648) (hn : n < 2147483648) : c ≤ nI i ↔ n ≤ i := by rw [hc]; exact nI_leI hn hi
theorem s_l : ∀ n, n < 32 → ((nI n &&& 31).toBitVec.smod 32).toNat = n := by decide +kernel
theorem nx_and (a b : Nat) : nI a &&& nI b = nI (a &&& b) := by
  apply Int32.toBitVec_inj.1
  show BitVec.ofNat 32 a &&& BitVec.ofNat 32 b = BitVec.ofNat 32 (a &&& b)
  apply BitVec.eq_of_getLsbD_eq
  intro i hi
  simp [hi]
theorem nx_or (a b : Nat) : nI a ||| nI b = nI (a ||| b) := by
  apply Int32.toBitVec_inj.1
  show BitVec.ofNat 32 a ||| BitVec.ofNat 32 b = BitVec.ofNat 32 (a ||| b)
  apply BitVec.eq_of_getLsbD_eq
  intro i hi
  simp [hi]
/-- a without b -/
def nd (a b : Nat) : Nat := a ^^^ (a &&& b)
theorem nd_bit (a b k : Nat) : (nd a b).testBit k = (a.testBit k && !b.testBit k) := by
  unfold nd
  rw [Nat.testBit_xor, Nat.testBit_and]
  cases a.testBit k <;> cases b.testBit k <;> rfl
theorem nx_nd (a b : Nat) : nI a &&& (nI b ^^^ (-1)) = nI (nd a b) := by
  apply Int32.toBitVec_inj.1
  show BitVec.ofNat 32 a &&& (BitVec.ofNat 32 b ^^^ (-1 : Int32).toBitVec) = BitVec.ofNat 32 (nd a b)
  apply BitVec.eq_of_getLsbD_eq
  intro i hi
  have e : (-1 : Int32).toBitVec.getLsbD i = true := (by decide +kernel : ∀ i, i < 32 → (-1 : Int32).toBitVec.getLsbD i = true) i hi
  rw [BitVec.getLsbD_and, BitVec.getLsbD_xor, e, BitVec.getLsbD_ofNat, BitVec.getLsbD_ofNat, BitVec.getLsbD_ofNat, nd_bit]
  simp [hi]
theorem nd_lt {a b n : Nat} (ha : a < 2 ^ n) : nd a b < 2 ^ n := Nat.xor_lt_two_pow ha (Nat.lt_of_le_of_lt Nat.and_le_left ha)
theorem shr_nI {m i : Nat} (hm : m < 2147483648) (hi : i < 32) : nI m >>> (nI i &&& 31) = nI (m / 2 ^ i) := pk_shrN hm _ i (s_l i hi)
theorem shl1_nI {i : Nat} (hi : i < 32) : (1 : Int32) <<< (nI i &&& 31) = nI (2 ^ i) := by
  have := pk_shlN (n := 1) (nI i &&& 31) i (s_l i hi) (by rw [Nat.one_mul]; exact Nat.pow_lt_pow_right (by decide) hi)
  rw [Nat.one_mul] at this
  exact this
theorem bit_nI {m i : Nat} (hm : m < 2147483648) (hi : i < 32) : nI m >>> (nI i &&& 31) &&& 1 = nI ((m.testBit i).toNat) := by
  rw [shr_nI hm hi, show (1 : Int32) = nI 1 from rfl, nx_and, Nat.and_one_is_mod, Nat.testBit_eq_decide_div_mod_eq]
  congr 1
  rcases Nat.mod_two_eq_zero_or_one (m / 2 ^ i) with e | e <;> rw [e] <;> rfl
theorem hasP_nI {m i : Nat} (hm : m < 2147483648) (hi : i < 32) : hasP (nI m) (nI i) ↔ m.testBit i = true := by
  unfold hasP
  rw [bit_nI hm hi]
  cases m.testBit i
  · exact ⟨fun z => absurd z (by decide), fun z => absurd z (by decide)⟩
  · exact ⟨fun _ => rfl, fun _ => rfl⟩
/-- how many bits below n -/
def pc (m : Nat) : Nat → Nat
  | 0 => 0
  | k + 1 => pc m k + (m.testBit k).toNat
theorem pc_le (m : Nat) : ∀ n, pc m n ≤ n
  | 0 => Nat.le_refl 0
  | k + 1 => by
    have := pc_le m k
    have h2 : (m.testBit k).toNat ≤ 1 := Bool.toNat_le _
    show pc m k + (m.testBit k).toNat ≤ k + 1
    omega

