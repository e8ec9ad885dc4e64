variable {l : Launch} {E : Ev} {h : Hp}
theorem clH_le {t : Nat → Int32} {n p : Nat} {x : (Nat × Nat) × Nat} (hp : p ≤ n) (e : clH t n p = .inr x) : x.2 ≤ n := by
  unfold clH at e
  cases h1 : rdN t n 0 5 p with
  | inl z => rw [bnd_l h1] at e; cases e
  | inr a =>
    rw [bnd_r h1] at e
    obtain ⟨p1, p2⟩ := rdN_ge hp h1
    cases h2 : rdN t n 0 3 a.2 with
    | inl z => rw [bnd_l h2] at e; cases e
    | inr b =>
      rw [bnd_r h2] at e
      obtain ⟨p3, p4⟩ := rdN_ge p2 h2
      cases h3 : rdE t n b.2 with
      | inl z => rw [bnd_l h3] at e; cases e
      | inr q =>
        rw [bnd_r h3] at e
        have := (rdE_gt p4 h3).2
        cases e
        show q ≤ n
        omega
theorem clJ_le {t : Nat → Int32} {n p : Nat} {x : (Nat × Nat) × Nat} (hp : p ≤ n) (e : clJ t n p = .inr x) : x.2 ≤ n := by
  unfold clJ at e
  cases h1 : rdN t n 0 3 p with
  | inl z => rw [bnd_l h1] at e; cases e
  | inr a =>
    rw [bnd_r h1] at e
    obtain ⟨p1, p2⟩ := rdN_ge hp h1
    cases h2 : rdN t n 1 30 a.2 with
    | inl z => rw [bnd_l h2] at e; cases e
    | inr b =>
      rw [bnd_r h2] at e
      obtain ⟨p3, p4⟩ := rdN_ge p2 h2
      cases h3 : rdE t n b.2 with
      | inl z => rw [bnd_l h3] at e; cases e
      | inr q =>
        rw [bnd_r h3] at e
        have := (rdE_gt p4 h3).2
        cases e
        show q ≤ n
        omega
theorem clL_le {t : Nat → Int32} {n p : Nat} {x : (Nat × Nat × Nat) × Nat} (hp : p ≤ n) (e : clL t n p = .inr x) : x.2 ≤ n := by
  unfold clL at e
  cases h1 : rdN t n 0 2 p with
  | inl z => rw [bnd_l h1] at e; cases e
  | inr a =>
    rw [bnd_r h1] at e
    obtain ⟨p1, p2⟩ := rdN_ge hp h1
    cases h2 : rdN t n 1 20 a.2 with
    | inl z => rw [bnd_l h2] at e; cases e
    | inr b =>
      rw [bnd_r h2] at e
      obtain ⟨p3, p4⟩ := rdN_ge p2 h2
      cases h3 : rdN t n 0 15 b.2 with
      | inl z => rw [bnd_l h3] at e; cases e
      | inr c =>
        rw [bnd_r h3] at e
        obtain ⟨p5, p6⟩ := rdN_ge p4 h3
        cases h4 : rdE t n c.2 with
        | inl z => rw [bnd_l h4] at e; cases e
        | inr q =>
          rw [bnd_r h4] at e
          have := (rdE_gt p6 h4).2
          cases e
          show q ≤ n
          omega
theorem clz_le {t : Nat → Int32} {n q : Nat} {hh : Bool} {D : HDt} {x : (Bool × HDt) × Nat} (hq : q < n) (e : clzF t n q hh D = .inr x) : x.2 ≤ n := by
  unfold clzF at e
  split at e
  · split at e
    · cases e
    · cases h1 : clH t n (q + 1) with
      | inl z => rw [bnd_l h1] at e; cases e
      | inr y => rw [bnd_r h1] at e; have := clH_le (by omega) h1; cases e; show y.2 ≤ n; omega
  · split at e
    · cases e
    · split at e
      · cases h1 : (if dL D = 6 then (.inl (q, 3) : Rd ((Nat × Nat × Nat) × Nat)) else clL t n (q + 1)) with
        | inl z => rw [bnd_l h1] at e; cases e
        | inr y =>
          rw [bnd_r h1] at e
          split at h1
          · cases h1
          · have := clL_le (by omega) h1; cases e; show y.2 ≤ n; omega
      · split at e
        · cases h1 : (if dJ D = 6 then (.inl (q, 3) : Rd ((Nat × Nat) × Nat)) else clJ t n (q + 1)) with
          | inl z => rw [bnd_l h1] at e; cases e
          | inr y =>
            rw [bnd_r h1] at e
            split at h1
            · cases h1
            · have := clJ_le (by omega) h1; cases e; show y.2 ≤ n; omega
        · cases e
theorem skp_cg {t u : Nat → Int32} {n : Nat} (e : ∀ k, k < n → t k = u k) : ∀ f p, skp t n f p = skp u n f p
  | 0, p => rfl
  | f + 1, p => by
    show (if p < n ∧ t p = 32 then skp t n f (p + 1) else p) = (if p < n ∧ u p = 32 then skp u n f (p + 1) else p)
    by_cases c : p < n
    · rw [e p c, skp_cg e f (p + 1)]
    · rw [if_neg (fun z => c z.1), if_neg (fun z => c z.1)]
theorem sk_cg {t u : Nat → Int32} {n : Nat} (e : ∀ k, k < n → t k = u k) (p : Nat) : sk t n p = sk u n p := skp_cg e _ _
theorem dgN_cg {t u : Nat → Int32} {n : Nat} (e : ∀ k, k < n → t k = u k) : ∀ f p, dgN t n f p = dgN u n f p
  | 0, p => rfl
  | f + 1, p => by
    show (if p < n ∧ isDg (t p) then dgN t n f (p + 1) + 1 else 0) = (if p < n ∧ isDg (u p) then dgN u n f (p + 1) + 1 else 0)
    by_cases c : p < n
    · rw [e p c, dgN_cg e f (p + 1)]
    · rw [if_neg (fun z => c z.1), if_neg (fun z => c z.1)]
theorem dg_cg {t u : Nat → Int32} {n : Nat} (e : ∀ k, k < n → t k = u k) (p : Nat) : dg t n p = dg u n p := dgN_cg e _ _
theorem vl_cg {t u : Nat → Int32} {n : Nat} (e : ∀ k, k < n → t k = u k) {q : Nat} : ∀ f, q + f ≤ n → vl t q f = vl u q f
  | 0, _ => rfl
  | f + 1, z => by
    show (if f < 3 then 10 * vl t q f + ((t (q + f)).toNatClampNeg - 48) else vl t q f) = (if f < 3 then 10 * vl u q f + ((u (q + f)).toNatClampNeg - 48) else vl u q f)
    rw [vl_cg e f (by omega), e (q + f) (by omega)]
theorem rdN_cg {t u : Nat → Int32} {n : Nat} (e : ∀ k, k < n → t k = u k) (lo hi p : Nat) : rdN t n lo hi p = rdN u n lo hi p := by
  unfold rdN
  rw [sk_cg e p]
  generalize sk u n p = q
  by_cases c : q < n
  · have hd := dg_le (t := u) (n := n) (q := q) (by omega)
    rw [e q c, dg_cg e q, vl_cg e _ hd]
  · rw [if_neg (fun z => c z.1), if_neg (fun z => c z.1)]
theorem rdE_cg {t u : Nat → Int32} {n : Nat} (e : ∀ k, k < n → t k = u k) (p : Nat) : rdE t n p = rdE u n p := by
  unfold rdE
  rw [sk_cg e p]
  generalize sk u n p = q
  by_cases c : q < n
  · rw [e q c]
  · rw [if_neg (fun z => c z.1), if_neg (fun z => c z.1)]
theorem rdN_cf {t u : Nat → Int32} {n : Nat} (e : ∀ k, k < n → t k = u k) : rdN t n = rdN u n := funext fun a => funext fun b => funext fun p => rdN_cg e a b p
theorem rdE_cf {t u : Nat → Int32} {n : Nat} (e : ∀ k, k < n → t k = u k) : rdE t n = rdE u n := funext fun p => rdE_cg e p
theorem clz_cg {t u : Nat → Int32} {n : Nat} (e : ∀ k, k < n → t k = u k) {q : Nat} (hq : q < n) (hh : Bool) (D : HDt) : clzF t n q hh D = clzF u n q hh D := by
  unfold clzF clH clL clJ
  rw [rdN_cf e, rdE_cf e, e q hq]
theorem prs_cg {t u : Nat → Int32} {n : Nat} (e : ∀ k, k < n → t k = u k) : ∀ f p hh D, p ≤ n → prs t n f p hh D = prs u n f p hh D
  | 0, _, _, _, _ => rfl
  | f + 1, p, hh, D, hp => by
    show (if sk t n p = n then .inr (hh, D) else bnd (clzF t n (sk t n p) hh D) fun x => prs t n f x.2 x.1.1 x.1.2) = (if sk u n p = n then .inr (hh, D) else bnd (clzF u n (sk u n p) hh D) fun x => prs u n f x.2 x.1.1 x.1.2)
    rw [sk_cg e p]
    have hs := sk_le (t := u) hp
    generalize sk u n p = q at *
    by_cases c : q = n
    · rw [if_pos c, if_pos c]
    · rw [if_neg c, if_neg c, clz_cg e (by omega)]
      cases hx : clzF u n q hh D with
      | inl z => rfl
      | inr x => exact prs_cg e f x.2 x.1.1 x.1.2 (clz_le (by omega) hx)
def opHall (A : At) : Int32 × At := match prs (fun k => (aX A).getD k 0) (aX A).length ((aX A).length + 1) 0 false D0 with
  | .inl e => (-10 - nI e.2, ([], nI e.1, aH A, aD A, aS A, aU A, aB A, aI A, aG A, aE A))
  | .inr x => (nI (dL x.2), ([], -1, x.1, x.2, aS A, beginA x.2, [], (fun _ => none), [], []))
theorem MA_rd {g : Hp} {A : At} {x : Int32} (hA : MA h A) (s : pP h g) (e : g 49 7 = x) : MA (up g 49 0 0) ([], x, aH A, aD A, aS A, aU A, aB A, aI A, aG A, aE A) := by
  obtain ⟨⟨a1, a2, a3, a4, a5, a6, a7, a8, a9, a10, a11, a12⟩, ⟨b1, b2⟩, b3, b4, b5, b6, b7, ⟨b8, b9⟩, b10, ⟨b11, b12⟩, b13, b14⟩ := id hA
  obtain ⟨okd, e16, e17, e540, e541, eL, eJ⟩ := id b5
  have r : ∀ a, 53 < a → up g 49 0 0 a = h a := fun a ha => by rw [up_row _ _ _ _ (by omega)]; exact s.1 a (by omega) (by omega) (by omega) (by omega)
  have k : ∀ k, 11 < k → up g 49 0 0 49 k = h 49 k := fun k hk => by rw [up_off _ _ _ _ (by omega)]; exact s.2 k (by omega)
  refine ⟨⟨Nat.zero_le _, a2, a3, a4, a5, a6, a7, a8, a9, a10, a11, a12⟩, ⟨rfl, (fun k x q => (no_nil q).elim)⟩, e, (k 15 (by decide)).trans b4, ⟨okd, (k 16 (by decide)).trans e16, (k 17 (by decide)).trans e17, ?_, ?_, ?_, ?_⟩, (k 30 (by decide)).trans b6, ?_, ⟨(k 26 (by decide)).trans b8, ?_⟩, ?_, ⟨(k 31 (by decide)).trans b11, ?_⟩, (k 33 (by decide)).trans b13, ?_⟩
  · rw [r 54 (by decide)]; exact e540
  · rw [r 54 (by decide)]; exact e541
  · rw [r 55 (by decide)]; exact eL
  · rw [r 56 (by decide)]; exact eJ
  · rw [r 57 (by decide)]; exact b7
  · rw [r 61 (by decide)]; exact b9
  · rw [r 62 (by decide), r 63 (by decide), r 64 (by decide)]; exact b10
  · rw [r 65 (by decide)]; exact b12
  · rw [r 66 (by decide)]; exact b14
def hC (h g : Hp) (hh : Bool) (D : HDt) : Prop := (∀ a, a ≠ 49 → a < 51 ∨ 56 < a → g a = h a) ∧ (∀ k, 17 < k → g 49 k = h 49 k) ∧ g 49 0 = 0 ∧ g 49 7 = -1 ∧ g 49 15 = b01 hh ∧ MH g D
def hallE (g : Hp) : Hp := up (up (up (up (up (upr g 57 (begR (g 49 16) (g 57))) 49 31 0) 49 33 0) 64 0 0) 64 1 0) 49 26 0
theorem MomR_beg {D : HDt} (o1 : dL D ≤ 6) {L : Int32} (e : L = nI (dL D)) (f : Nat → Int32) : MomR (begR L f) (beginA D) := by
  refine ⟨?_, rfl, rfl, rfl, fun i hi => ?_, fun j hj => ?_⟩
  · exact every_nI o1 e
  · show begR L f (1 + i) = -1
    unfold begR begK
    rw [if_neg (by omega), if_pos (by omega), if_pos (by omega)]
  · show begR L f (10 + j) = nI 0
    unfold begR begK
    rw [if_neg (by omega), if_pos (by omega), if_neg (by omega)]
    rfl
theorem hall_end {g : Hp} {A : At} {hh : Bool} {D : HDt} (hA : MA h A) (q : hC h g hh D) (hd : hh = false → dL D = 0 ∧ dJ D = 0 ∧ dU D = 0 ∧ dN D = 0) : MA (hallE g) ([], -1, hh, D, aS A, beginA D, [], (fun _ => none), [], []) ∧ ∀ a, a < 49 → hallE g a = h a := by
  obtain ⟨⟨a1, a2, a3, a4, a5, a6, a7, a8, a9, a10, a11, a12⟩, ⟨b1, b2⟩, b3, b4, b5, b6, b7, ⟨b8, b9⟩, b10, ⟨b11, b12⟩, b13, b14⟩ := id hA
  obtain ⟨q1, q2, q3, q4, q5, q6⟩ := q
  obtain ⟨okd, e16, e17, e540, e541, eL, eJ⟩ := id q6
  have p2 : 0 < 2 ^ dL D := Nat.two_pow_pos _
  refine ⟨⟨⟨Nat.zero_le _, okd, hd, a4, ⟨by show 2 ^ dL D - 1 < 2 ^ dL D; omega, (show 0 < 64 by decide), (show 0 ≤ 9041 by decide), (show 0 ≤ 920 + 0 by decide), (fun j => Nat.zero_le _), (fun j _ => rfl)⟩, Nat.zero_le _, (fun _ z => absurd z List.not_mem_nil), (fun i u s z => by cases z), Nat.zero_le _, (fun _ z => absurd z List.not_mem_nil), Nat.zero_le _, (fun _ z => absurd z List.not_mem_nil)⟩, ⟨q3, (fun k x z => (no_nil z).elim)⟩, q4, q5, ⟨okd, e16, e17, e540, e541, eL, eJ⟩, (q2 30 (by decide)).trans b6, ?_, ⟨rfl, (fun r u z => (no_nil z).elim)⟩, (fun i hi => ⟨?_, (fun u s z => by cases z)⟩), ⟨rfl, (fun r u z => (no_nil z).elim)⟩, rfl, (fun r u z => (no_nil z).elim)⟩, fun a ha => ?_⟩
  · exact MomR_beg okd.1 e16 (g 57)
  · have : i = 0 ∨ i = 1 := by omega
    rcases this with rfl | rfl
    · rfl
    · rfl
  · unfold hallE
    rw [up_row _ _ _ _ (by omega), up_row _ _ _ _ (by omega), up_row _ _ _ _ (by omega), up_row _ _ _ _ (by omega), up_row _ _ _ _ (by omega), upr_row _ _ _ (by omega)]
    exact q1 a (by omega) (by omega)
def fil (f v : Nat → Int32) (k : Nat) : Nat → Int32 := fun j => if j < k then v j else f j
theorem fil_s (f v : Nat → Int32) (k : Nat) {x : Int32} (e : x = v k) : upd (fil f v k) k x = fil f v (k + 1) := funext fun j => by
  subst e
  unfold upd fil
  by_cases c : j = k
  · subst c
    rw [if_pos rfl, if_pos (show j < j + 1 by omega)]
  · rw [if_neg c]
    by_cases z : j < k
    · rw [if_pos z, if_pos (show j < k + 1 by omega)]
    · rw [if_neg z, if_neg (show ¬ j < k + 1 by omega)]
theorem fil_0 (f v : Nat → Int32) : fil f v 0 = f := funext fun j => if_neg (by omega)
theorem fil_lt {f v : Nat → Int32} {k j : Nat} (q : j < k) : fil f v k j = v j := if_pos q
