variable {l : Launch} {E : Ev} {h : Hp}
/-! ===== the abstract state ===== -/
/-- a moment: who is in, nights, tellings, who was out by the latest, the telling by which each was out, how often each joke was told -/
abbrev Mom : Type := Nat × Nat × Nat × Nat × (Nat → Int32) × (Nat → Nat)
abbrev mI (u : Mom) : Nat := u.1
abbrev mN (u : Mom) : Nat := u.2.1
abbrev mT (u : Mom) : Nat := u.2.2.1
abbrev mL (u : Mom) : Nat := u.2.2.2.1
abbrev mO (u : Mom) : Nat → Int32 := u.2.2.2.2.1
abbrev mM (u : Mom) : Nat → Nat := u.2.2.2.2.2
def okM (D : HDt) (u : Mom) : Prop := mI u < 2 ^ dL D ∧ mL u < 64 ∧ mT u ≤ 9041 ∧ mN u ≤ 920 + mT u ∧ (∀ j, mM u j ≤ mT u) ∧ ∀ j, dJ D ≤ j → mM u j = 0
/-- the model's row of a moment -/
def MomR (f : Nat → Int32) (u : Mom) : Prop := f 0 = nI (mI u) ∧ f 7 = nI (mL u) ∧ f 8 = nI (mN u) ∧ f 9 = nI (mT u) ∧ (∀ i, i < 6 → f (1 + i) = mO u i) ∧ ∀ j, j < 6 → f (10 + j) = nI (mM u j)
noncomputable def tellA (D : HDt) (u : Mom) (i j b : Nat) : Mom := (nd (mI u) (falF D (mI u) (mN u) (mM u) i j b), mN u, mT u + 1, falF D (mI u) (mN u) (mM u) i j b, (fun k => if (falF D (mI u) (mN u) (mM u) i j b).testBit k = true then nI (mT u + 1) else mO u k), fun k => if k = j then mM u k + 1 else mM u k)
def nightA (u : Mom) : Mom := (mI u, mN u + 1, mT u, mL u, mO u, fun j => mM u j - 1)
def beginA (D : HDt) : Mom := (2 ^ dL D - 1, 0, 0, 0, fun _ => -1, fun _ => 0)
/-- the text, the fault's letter, is there a hall, the hall, the seed, the moment, what can be undone, the images, what was seen, the book -/
abbrev At : Type := List Int32 × Int32 × Bool × HDt × Nat × Mom × List Mom × (Nat → Option (Mom × Nat)) × List (Nat × Nat × Bool) × List (Nat × Nat)
abbrev aX (A : At) : List Int32 := A.1
abbrev aF (A : At) : Int32 := A.2.1
abbrev aH (A : At) : Bool := A.2.2.1
abbrev aD (A : At) : HDt := A.2.2.2.1
abbrev aS (A : At) : Nat := A.2.2.2.2.1
abbrev aU (A : At) : Mom := A.2.2.2.2.2.1
abbrev aB (A : At) : List Mom := A.2.2.2.2.2.2.1
abbrev aI (A : At) : Nat → Option (Mom × Nat) := A.2.2.2.2.2.2.2.1
abbrev aG (A : At) : List (Nat × Nat × Bool) := A.2.2.2.2.2.2.2.2.1
abbrev aE (A : At) : List (Nat × Nat) := A.2.2.2.2.2.2.2.2.2
def okA (A : At) : Prop := (aX A).length ≤ 200 ∧ okD (aD A) ∧ (aH A = false → dL (aD A) = 0 ∧ dJ (aD A) = 0 ∧ dU (aD A) = 0 ∧ dN (aD A) = 0) ∧ aS A < 2147483648 ∧ okM (aD A) (aU A) ∧ (aB A).length ≤ 30 ∧ (∀ u ∈ aB A, okM (aD A) u) ∧ (∀ i u s, aI A i = some (u, s) → okM (aD A) u ∧ s < 2147483648) ∧ (aG A).length ≤ 6 ∧ (∀ q ∈ aG A, q.1 < dL (aD A) ∧ q.2.1 < dJ (aD A)) ∧ (aE A).length ≤ 20 ∧ ∀ q ∈ aE A, q.1 ≤ 999 ∧ q.2 < 64
def b01 (b : Bool) : Int32 := if b then 1 else 0
/-- the model's cells hold A -/
def MA (h : Hp) (A : At) : Prop := okA A ∧ (h 49 0 = nI (aX A).length ∧ ∀ k x, (aX A)[k]? = some x → h 50 k = x ∧ inP x 0 255) ∧ h 49 7 = aF A ∧ h 49 15 = b01 (aH A) ∧ MH h (aD A) ∧ h 49 30 = nI (aS A) ∧ MomR (h 57) (aU A) ∧ (h 49 26 = nI (aB A).length ∧ ∀ r u, (aB A)[r]? = some u → MomR (fun k => h 61 (16 * r + k)) u) ∧ (∀ i, i < 2 → h 64 i = b01 (aI A i).isSome ∧ ∀ u s, aI A i = some (u, s) → MomR (fun k => h 62 (16 * i + k)) u ∧ h 63 i = nI s) ∧ (h 49 31 = nI (aG A).length ∧ ∀ r q, (aG A)[r]? = some q → h 65 (3 * r) = nI q.1 ∧ h 65 (3 * r + 1) = nI q.2.1 ∧ h 65 (3 * r + 2) = b01 q.2.2) ∧ (h 49 33 = nI (aE A).length ∧ ∀ r q, (aE A)[r]? = some q → h 66 (2 * r) = nI q.1 ∧ h 66 (2 * r + 1) = nI q.2)
/-- what a call of the model's comes to -/
def QM (h : Hp) (r : Int32 × At) : Pst := fun v h' => v = some (.int r.1) ∧ MA h' r.2 ∧ ∀ a, a < 49 → h' a = h a
theorem b01_01 (b : Bool) : b01 b = 0 ∨ b01 b = 1 := by cases b; exact Or.inl rfl; exact Or.inr rfl
theorem RW_of {D : HDt} {u : Mom} {a : Nat} (ha : SHP[a]? = some (.inr (0, 16))) (q : MomR (h a) u) (ok : okM D u) (okd : okD D) : RW h a (mI u) (mN u) (mM u) := by
  obtain ⟨q0, q7, q8, q9, qo, qt⟩ := q
  obtain ⟨k0, k1, k2, k3, k4, k5⟩ := ok
  have p6 : 2 ^ dL D ≤ 64 := Nat.pow_le_pow_right (n := 2) (by decide) okd.1
  exact ⟨ha, q0, by omega, q8, by omega, fun j hj => ⟨qt j hj, by have := k4 j; omega⟩⟩
theorem okM_tell {D : HDt} {u : Mom} (okd : okD D) (ok : okM D u) (hT : mT u ≤ 9040) (i j b : Nat) (hj : j < dJ D) : okM D (tellA D u i j b) := by
  obtain ⟨k0, k1, k2, k3, k4, k5⟩ := ok
  refine ⟨nd_lt k0, Nat.lt_of_lt_of_le (falF_lt okd _ _ _ _ _ _) (Nat.pow_le_pow_right (n := 2) (by decide) okd.1), by show mT u + 1 ≤ 9041; omega, by show mN u ≤ 920 + (mT u + 1); omega, fun k => ?_, fun k hk => ?_⟩
  · show (if k = j then mM u k + 1 else mM u k) ≤ mT u + 1
    have := k4 k
    split <;> omega
  · show (if k = j then mM u k + 1 else mM u k) = 0
    rw [if_neg (by omega), k5 k hk]
theorem okM_night {D : HDt} {u : Mom} (ok : okM D u) (hN : mN u < 920 + mT u) : okM D (nightA u) := by
  obtain ⟨k0, k1, k2, k3, k4, k5⟩ := ok
  refine ⟨k0, k1, k2, by show mN u + 1 ≤ 920 + mT u; omega, fun k => ?_, fun k hk => ?_⟩
  · show mM u k - 1 ≤ mT u
    have := k4 k
    omega
  · show mM u k - 1 = 0
    rw [k5 k hk]
theorem MomR_tell {D : HDt} {u : Mom} {f : Nat → Int32} (okd : okD D) (q : MomR f u) (i j b : Nat) (hj : j < dJ D) : MomR (telR D f (mI u) (mN u) (mM u) i j b) (tellA D u i j b) := by
  obtain ⟨q0, q7, q8, q9, qo, qt⟩ := q
  have hj6 := okJ okd hj
  have o1 := okd.1
  refine ⟨?_, ?_, ?_, ?_, fun k hk => ?_, fun k hk => ?_⟩
  · show telK f _ _ j _ 0 = _
    unfold telK
    rw [if_pos rfl]
    rfl
  · show telK f _ _ j _ 7 = _
    unfold telK
    rw [if_neg (by omega), if_neg (by omega), if_neg (by omega), if_pos rfl]
    rfl
  · show telK f _ _ j _ 8 = _
    unfold telK
    rw [if_neg (by omega), if_neg (by omega), if_neg (by omega), if_neg (by omega), if_neg (by omega), q8]
    rfl
  · show telK f _ _ j _ 9 = _
    rw [telK_9 _ _ _ _ _ hj6, q9, nI_1]
    rfl
  · show telK f _ (falF D (mI u) (mN u) (mM u) i j b) j _ (1 + k) = if (falF D (mI u) (mN u) (mM u) i j b).testBit k = true then nI (mT u + 1) else mO u k
    generalize hS : falF D (mI u) (mN u) (mM u) i j b = S
    have hSlt : S < 2 ^ dL D := by rw [← hS]; exact falF_lt okd _ _ _ _ _ _
    unfold telK
    rw [if_neg (by omega), if_neg (by omega), if_neg (by omega), if_neg (by omega), show 1 + k - 1 = k by omega]
    by_cases z : S.testBit k = true
    · have : k < dL D := by
        rcases Nat.lt_or_ge k (dL D) with c | c
        · exact c
        · rw [Nat.testBit_lt_two_pow (Nat.lt_of_lt_of_le hSlt (Nat.pow_le_pow_right (by decide) c))] at z
          cases z
      rw [if_pos ⟨by omega, by omega, z⟩, if_pos z, q9, nI_1]
    · rw [if_neg (fun c => z c.2.2), if_neg z, qo k hk]
  · show telK f _ _ j _ (10 + k) = nI (if k = j then mM u k + 1 else mM u k)
    unfold telK
    rw [if_neg (by omega)]
    by_cases z : k = j
    · subst z
      rw [if_pos rfl, if_pos rfl, qt k hk, nI_1]
    · rw [if_neg (by omega), if_neg (by omega), if_neg (by omega), if_neg (by omega), if_neg z, qt k hk]
theorem MomR_cpy {f g : Nat → Int32} {u : Mom} {a b : Nat} (q : MomR (fun k => f (a + k)) u) : MomR (fun k => va_cpy f g a b 16 (b + k)) u := by
  have e : ∀ k, k < 16 → va_cpy f g a b 16 (b + k) = f (a + k) := fun k hk => by
    unfold va_cpy
    rw [if_pos (by omega), show a + (b + k - b) = a + k by omega]
  obtain ⟨q0, q7, q8, q9, qo, qt⟩ := q
  exact ⟨(e 0 (by omega)).trans q0, (e 7 (by omega)).trans q7, (e 8 (by omega)).trans q8, (e 9 (by omega)).trans q9, fun i hi => (e (1 + i) (by omega)).trans (qo i hi), fun j hj => (e (10 + j) (by omega)).trans (qt j hj)⟩
theorem MomR_congr {f g : Nat → Int32} {u : Mom} (q : MomR f u) (e : ∀ k, k < 16 → g k = f k) : MomR g u := by
  obtain ⟨q0, q7, q8, q9, qo, qt⟩ := q
  exact ⟨(e 0 (by omega)).trans q0, (e 7 (by omega)).trans q7, (e 8 (by omega)).trans q8, (e 9 (by omega)).trans q9, fun i hi => (e (1 + i) (by omega)).trans (qo i hi), fun j hj => (e (10 + j) (by omega)).trans (qt j hj)⟩
/-- what can be undone grows by the moment -/
def pushA (B : List Mom) (u : Mom) : List Mom := if B.length = 30 then B.drop 1 ++ [u] else B ++ [u]
theorem push_len {B : List Mom} (hB : B.length ≤ 30) (u : Mom) : (pushA B u).length = if B.length = 30 then 30 else B.length + 1 := by
  unfold pushA
  by_cases c : B.length = 30
  · rw [if_pos c, if_pos c, List.length_append, List.length_drop, c]; rfl
  · rw [if_neg c, if_neg c, List.length_append]; rfl
theorem push_get {B : List Mom} (hB : B.length ≤ 30) (u : Mom) {r : Nat} {v : Mom} (q : (pushA B u)[r]? = some v) : (B.length = 30 ∧ ((r < 29 ∧ B[r + 1]? = some v) ∨ (r = 29 ∧ v = u))) ∨ (B.length < 30 ∧ ((r < B.length ∧ B[r]? = some v) ∨ (r = B.length ∧ v = u))) := by
  unfold pushA at q
  by_cases c : B.length = 30
  · rw [if_pos c] at q
    refine Or.inl ⟨c, ?_⟩
    have hl : (B.drop 1).length = 29 := by rw [List.length_drop, c]
    rcases Nat.lt_or_ge r 29 with z | z
    · rw [List.getElem?_append_left (by omega), List.getElem?_drop] at q
      exact Or.inl ⟨z, by rw [Nat.add_comm]; exact q⟩
    · rw [List.getElem?_append_right (by omega), hl] at q
      have : r - 29 < 1 := (List.getElem?_eq_some_iff.mp q).1
      have e : r = 29 := by omega
      subst e
      exact Or.inr ⟨rfl, (Option.some.inj q).symm⟩
  · rw [if_neg c] at q
    refine Or.inr ⟨by omega, ?_⟩
    rcases Nat.lt_or_ge r B.length with z | z
    · rw [List.getElem?_append_left z] at q
      exact Or.inl ⟨z, q⟩
    · rw [List.getElem?_append_right z] at q
      have : r - B.length < 1 := (List.getElem?_eq_some_iff.mp q).1
      have e : r = B.length := by omega
      subst e
      rw [Nat.sub_self] at q
      exact Or.inr ⟨rfl, (Option.some.inj q).symm⟩
theorem push_mem {B : List Mom} {u v : Mom} (q : v ∈ pushA B u) : v ∈ B ∨ v = u := by
  unfold pushA at q
  split at q
  · rcases List.mem_append.mp q with c | c
    · exact Or.inl (List.mem_of_mem_drop c)
    · exact Or.inr (List.mem_singleton.mp c)
  · rcases List.mem_append.mp q with c | c
    · exact Or.inl c
    · exact Or.inr (List.mem_singleton.mp c)

