variable {l : Launch} {E : Ev} {h : Hp}
/-! rows of tellings: what the class passes over can be passed over -/
noncomputable def alr (D : HDt) (i : Nat) : Nat → Mom → Option (List Nat)
  | 0, u => if mI u = 2 ^ i then some [] else none
  | r + 1, u => fstF (fun c => if canB D u i c = true then (alr D i r (tl D u i c)).map (fun L => c :: L) else none) 60 0
noncomputable def alP (D : HDt) (i r : Nat) (u : Mom) (c : Nat) : Option (List Nat) := if canB D u i c = true then (alr D i r (tl D u i c)).map (fun L => c :: L) else none
theorem alr_s (D : HDt) (i r : Nat) (u : Mom) : alr D i (r + 1) u = fstF (alP D i r u) 60 0 := rfl
theorem alr_1 (D : HDt) (u : Mom) (i : Nat) : alr D i 1 u = al1 D u i := by
  rw [alr_s]
  unfold al1
  rw [show alP D i 0 u = P1 D u i from funext fun c => by
    unfold alP P1
    by_cases h1 : canB D u i c = true
    · rw [if_pos h1]
      by_cases h2 : mI (tl D u i c) = 2 ^ i
      · rw [if_pos ⟨h1, h2⟩]
        show Option.map _ (if mI (tl D u i c) = 2 ^ i then some [] else none) = _
        rw [if_pos h2]; rfl
      · rw [if_neg (fun z => h2 z.2)]
        show Option.map _ (if mI (tl D u i c) = 2 ^ i then some [] else none) = _
        rw [if_neg h2]; rfl
    · rw [if_neg h1, if_neg (fun z => h1 z.1)]]
theorem alr_2 (D : HDt) (u : Mom) (i : Nat) : alr D i 2 u = al2 D u i := by
  rw [alr_s]
  unfold al2
  rw [show alP D i 1 u = P2 D u i from funext fun c => by unfold alP P2; rw [alr_1]]
theorem alr_3 (D : HDt) (u : Mom) (i : Nat) : alr D i 3 u = al3 D u i := by
  rw [alr_s]
  unfold al3
  rw [show alP D i 2 u = P3 D u i from funext fun c => by unfold alP P3; rw [alr_2]]
theorem fst_nil {β : Type} {P : Nat → Option β} : ∀ f k, fstF P f k = none → ∀ c, k ≤ c → c < k + f → P c = none
  | 0, k, _, c, h1, h2 => by omega
  | f + 1, k, e, c, h1, h2 => by
    cases hP : P k with
    | some x => rw [fst_some hP] at e; cases e
    | none =>
      rw [fst_none hP] at e
      by_cases q : c = k
      · rw [q]; exact hP
      · exact fst_nil f (k + 1) e c (by omega) (by omega)
theorem fst_all {β : Type} {P : Nat → Option β} : ∀ f k, (∀ c, k ≤ c → c < k + f → P c = none) → fstF P f k = none
  | 0, _, _ => rfl
  | f + 1, k, e => by
    rw [fst_none (e k (by omega) (by omega))]
    exact fst_all f (k + 1) (fun c h1 h2 => e c (by omega) (by omega))
theorem fst_at {β : Type} {P : Nat → Option β} {x : β} {c : Nat} : ∀ f k, k ≤ c → c < k + f → (∀ b, k ≤ b → b < c → P b = none) → P c = some x → fstF P f k = some x
  | 0, k, h1, h2, _, _ => by omega
  | f + 1, k, h1, h2, e, hx => by
    by_cases q : c = k
    · rw [← q]; exact fst_some hx
    · rw [fst_none (e k (by omega) (by omega))]
      exact fst_at f (k + 1) (by omega) (by omega) (fun b y1 y2 => e b (by omega) y2) hx
theorem alP_n {D : HDt} {i r : Nat} {u : Mom} {c : Nat} : alP D i r u c = none ↔ ¬ (canB D u i c = true ∧ ¬ alr D i r (tl D u i c) = none) := by
  unfold alP
  by_cases h1 : canB D u i c = true
  · rw [if_pos h1]
    cases alr D i r (tl D u i c) with
    | none => exact ⟨fun _ z => z.2 rfl, fun _ => rfl⟩
    | some L => exact ⟨fun z => (by cases z), fun z => absurd ⟨h1, fun y => by cases y⟩ z⟩
  · rw [if_neg h1]; exact ⟨fun _ z => h1 z.1, fun _ => rfl⟩
theorem can_60 {D : HDt} (okd : okD D) {u : Mom} {i c : Nat} (q : canB D u i c = true) : c < 60 := by
  unfold canB at q
  rw [Bool.and_eq_true, decide_eq_true_eq] at q
  have := okd.2.1
  omega
theorem alr_ex {D : HDt} (okd : okD D) {i r : Nat} {u : Mom} : ¬ alr D i (r + 1) u = none ↔ ∃ c, canB D u i c = true ∧ ¬ alr D i r (tl D u i c) = none := by
  constructor
  · intro z
    apply Classical.byContradiction
    intro y
    refine z (fst_all 60 0 (fun c _ _ => alP_n.mpr (fun w => y ⟨c, w⟩)))
  · rintro ⟨c, c1, c2⟩ z
    exact alP_n.mp (fst_nil 60 0 z c (Nat.zero_le _) (by have := can_60 okd c1; omega)) ⟨c1, c2⟩
theorem falF_cg {D : HDt} {m t : Nat} {tm tm' : Nat → Nat} {i j a : Nat} (e : tm j = tm' j) : falF D m t tm i j a = falF D m t tm' i j a := by
  unfold falF
  rw [e]
/-- a joke at which nobody falls any more -/
def deadJ (D : HDt) (t m i j Fx : Nat) : Prop := ∀ (m' a : Nat) (tm' : Nat → Nat), sub m' m → dF D j / 2 ^ tm' j ≤ Fx → falF D m' t tm' i j a = 0
theorem nd_sub {a b : Nat} : sub (nd a b) a := fun k hk => by rw [nd_bit, Bool.and_eq_true] at hk; exact hk.1
theorem half_le {f n : Nat} : f / 2 ^ (n + 1) ≤ f / 2 ^ n := by
  rw [Nat.pow_succ, ← Nat.div_div_eq_div_mul]
  exact Nat.div_le_self _ _
theorem dead_row {D : HDt} (okd : okD D) {m i j Fx t : Nat} (hd : deadJ D t m i j Fx) : ∀ (n : Nat) (u v : Mom), mN u = t → mN v = t → mI u = mI v → sub (mI v) m → (∀ k, k ≠ j → mM u k = mM v k) → dF D j / 2 ^ mM v j ≤ Fx → ¬ alr D i n v = none → ∃ n', n' ≤ n ∧ ¬ alr D i n' u = none
  | 0, u, v, e1, e2, e3, e4, e5, e6, z => by
    refine ⟨0, Nat.le_refl _, fun y => z ?_⟩
    show (if mI v = 2 ^ i then some [] else none) = none
    have y : (if mI u = 2 ^ i then some ([] : List Nat) else none) = none := y
    rw [← e3]; exact y
  | n + 1, u, v, e1, e2, e3, e4, e5, e6, z => by
    obtain ⟨c, c1, c2⟩ := (alr_ex okd).mp z
    by_cases q : c / 10 = j
    · have hz : falF D (mI v) (mN v) (mM v) i (c / 10) (c % 10) = 0 := by rw [q, e2]; exact hd _ _ _ e4 e6
      have hI : mI (tl D v i c) = mI v := by
        show nd (mI v) (falF D (mI v) (mN v) (mM v) i (c / 10) (c % 10)) = mI v
        rw [hz, nd_0]
      obtain ⟨n', h1, h2⟩ := dead_row okd hd n u (tl D v i c) e1 e2 (by rw [hI]; exact e3) (by rw [hI]; exact e4) (fun k hk => by
        show mM u k = (if k = c / 10 then mM v k + 1 else mM v k)
        rw [if_neg (by omega)]; exact e5 k hk) (by
        show dF D j / 2 ^ (if j = c / 10 then mM v j + 1 else mM v j) ≤ Fx
        rw [if_pos q.symm]
        exact Nat.le_trans half_le e6) c2
      exact ⟨n', by omega, h2⟩
    · have hf : falF D (mI u) (mN u) (mM u) i (c / 10) (c % 10) = falF D (mI v) (mN v) (mM v) i (c / 10) (c % 10) := by
        rw [e3, e1, e2]; exact falF_cg (e5 _ q)
      obtain ⟨n', h1, h2⟩ := dead_row okd hd n (tl D u i c) (tl D v i c) e1 e2 (by
        show nd (mI u) (falF D (mI u) (mN u) (mM u) i (c / 10) (c % 10)) = nd (mI v) (falF D (mI v) (mN v) (mM v) i (c / 10) (c % 10))
        rw [hf, e3]) (sub_tr nd_sub e4) (fun k hk => by
        show (if k = c / 10 then mM u k + 1 else mM u k) = (if k = c / 10 then mM v k + 1 else mM v k)
        rw [e5 k hk]) (by
        show dF D j / 2 ^ (if j = c / 10 then mM v j + 1 else mM v j) ≤ Fx
        rw [if_neg (fun y => q y.symm)]; exact e6) c2
      refine ⟨n' + 1, by omega, (alr_ex okd).mpr ⟨c, ?_, h2⟩⟩
      unfold canB at c1 ⊢
      rw [e3]; exact c1
theorem amu_m {f g : Nat} (hfg : f ≤ g / 2) (lk l1 l2 : Bool) : amu f lk l1 ≤ amu g lk l2 := by
  unfold amu
  cases lk <;> cases l1 <;> cases l2 <;> simp <;> omega
theorem lau_0 {D : HDt} {m t f i j a : Nat} (q : lauF D m t f i j a = 0) {o : Nat} (ho : o < dL D) (hm : (othF m i).testBit o = true) : ¬ hdF D t o ≤ amu f (likes D o j) (o == a) := by
  intro z
  have := bit_0 q o
  unfold lauF at this
  rw [lset_bit, decide_eq_true ho, hm, decide_eq_true z] at this
  cases this
theorem clF_0 {D : HDt} {t my : Nat} : clF D t my 0 = 0 := IsCl.eq ⟨sub_rfl _, fun i hi _ _ z => by
  have h1 := hdF_1 D t i
  have h2 : besN D 0 i = 0 := cnt_0 _ (fun k _ => by rw [Nat.zero_testBit, Bool.false_and])
  rw [h2] at z
  omega, fun Y q _ => q⟩
theorem dead_of {D : HDt} {m t i j a0 : Nat} {tm : Nat → Nat} (z : falF D m t tm i j a0 = 0) : deadJ D t m i j (dF D j / 2 ^ tm j / 2) := by
  intro m' a tm' hs hf
  have so : sub (othF m' i) (othF m i) := fun k hk => by
    unfold othF at hk ⊢
    rw [nd_bit, Bool.and_eq_true] at hk ⊢
    exact ⟨hs k hk.1, hk.2⟩
  have hu : undF D m' i j ≤ undF D m i j := cnt_mono _ (fun k _ y => by
    rw [Bool.and_eq_true] at y ⊢
    exact ⟨so k y.1, y.2⟩)
  unfold falF at z ⊢
  by_cases c : undF D m i j < dU D
  · rw [if_pos (by omega)]
  · rw [if_neg c] at z
    by_cases c2 : undF D m' i j < dU D
    · rw [if_pos c2]
    · rw [if_neg c2]
      have hx := (clF_is D t (othF m i) (lauF D m t (dF D j / 2 ^ tm j) i j a0) (lset_lt _ _)).1
      rw [z] at hx
      have hl : lauF D m t (dF D j / 2 ^ tm j) i j a0 = 0 := sub_eq hx (fun k hk => by rw [Nat.zero_testBit] at hk; cases hk)
      have hl2 : lauF D m' t (dF D j / 2 ^ tm' j) i j a = 0 := Nat.eq_of_testBit_eq fun k => by
        rw [Nat.zero_testBit]
        unfold lauF
        rw [lset_bit]
        by_cases ck : k < dL D
        · cases cm : (othF m' i).testBit k with
          | false => simp
          | true =>
            have h1 := lau_0 hl ck (so k cm)
            have h2 := amu_m hf (likes D k j) (k == a) (k == a0)
            rw [decide_eq_false (show ¬ hdF D t k ≤ amu (dF D j / 2 ^ tm' j) (likes D k j) (k == a) by omega)]
            simp
        · rw [decide_eq_false ck]; rfl
      rw [hl2]
      exact clF_0
/-- a telling at which nobody falls is in no shortest row -/
theorem alr_prune {D : HDt} (okd : okD D) {i r c : Nat} {u : Mom} (hno : ∀ k, k ≤ r → alr D i k u = none) (z : falF D (mI u) (mN u) (mM u) i (c / 10) (c % 10) = 0) : alr D i r (tl D u i c) = none := by
  apply Classical.byContradiction
  intro y
  have hI : mI (tl D u i c) = mI u := by
    show nd (mI u) (falF D (mI u) (mN u) (mM u) i (c / 10) (c % 10)) = mI u
    rw [z, nd_0]
  obtain ⟨n', h1, h2⟩ := dead_row okd (dead_of z) r u (tl D u i c) rfl rfl hI.symm (by rw [hI]; exact sub_rfl _) (fun k hk => by
    show mM u k = (if k = c / 10 then mM u k + 1 else mM u k)
    rw [if_neg hk]) (by
    show dF D (c / 10) / 2 ^ (if c / 10 = c / 10 then mM u (c / 10) + 1 else mM u (c / 10)) ≤ _
    rw [if_pos rfl, Nat.pow_succ, ← Nat.div_div_eq_div_mul]
    exact Nat.le_refl _) y
  exact h2 (hno n' h1)
theorem alr_below {D : HDt} (okd : okD D) {i r c : Nat} {u : Mom} (hno : ∀ k, k ≤ r → alr D i k u = none) (hc : canB D u i c = true) : ∀ k, k < r → alr D i k (tl D u i c) = none := by
  intro k hk
  apply Classical.byContradiction
  intro y
  exact (alr_ex okd).mpr ⟨c, hc, y⟩ (hno (k + 1) (by omega))
theorem tl_same {D : HDt} {i j a b : Nat} {u : Mom} (ha : a < 10) (hb : b < 10) (e : falF D (mI u) (mN u) (mM u) i j a = falF D (mI u) (mN u) (mM u) i j b) : tl D u i (10 * j + a) = tl D u i (10 * j + b) := by
  unfold tl tellA
  rw [show (10 * j + a) / 10 = j by omega, show (10 * j + a) % 10 = a by omega, show (10 * j + b) / 10 = j by omega, show (10 * j + b) % 10 = b by omega, e]
