variable {l : Launch} {E : Ev} {h : Hp}
/-! ===== before the first hall: the class's row of who was out by what is 0, the model's is NONE; nobody can see it ===== -/
def gM (u : Mom) : Mom := (mI u, mN u, mT u, mL u, (fun _ => 0), mM u)
def gI (o : Option (Mom × Nat)) : Option (Mom × Nat) := match o with
  | none => none
  | some q => some (gM q.1, q.2)
def fA (A : At) : At := (aX A, aF A, aH A, aD A, aS A, gM (aU A), aB A, (fun i => gI (aI A i)), aG A, aE A)
def Ph (A : At) : Prop := aD A = D0 ∧ aH A = false ∧ aB A = []
def Rel (r r' : Int32 × At) : Prop := r'.1 = r.1 ∧ (r'.2 = r.2 ∨ (Ph r.2 ∧ r'.2 = fA r.2))
theorem rel_same {A : At} (hP : Ph A) {v v' : Int32} (e : v' = v) : Rel (v, A) (v', fA A) := ⟨e, Or.inr ⟨hP, rfl⟩⟩
theorem rel_ite {p : Prop} [Decidable p] {a b a' b' : Int32 × At} (h1 : p → Rel a a') (h2 : ¬ p → Rel b b') : Rel (if p then a else b) (if p then a' else b') := by
  by_cases c : p
  · rw [if_pos c, if_pos c]; exact h1 c
  · rw [if_neg c, if_neg c]; exact h2 c
theorem no_in (x : Int32) : ¬ inP x 0 (nI 0 - 1) := fun z => absurd (Int32.le_trans z.1 z.2) (by decide)
theorem Ph.nl {A : At} (hP : Ph A) (x : Int32) : ¬ inP x 0 (nI (dL (aD A)) - 1) := by rw [hP.1]; exact no_in x
theorem Ph.nj {A : At} (hP : Ph A) (x : Int32) : ¬ inP x 0 (nI (dJ (aD A)) - 1) := by rw [hP.1]; exact no_in x
theorem rel_first {A : At} (hP : Ph A) {f : At → Int32} {v : Int32} (h1 : f A = v) (h2 : f (fA A) = v) : Rel (f A, A) (f (fA A), fA A) := by rw [h1, h2]; exact rel_same hP rfl
section PHASE
theorem rl_feed {A : At} (hP : Ph A) {x : Int32} : Rel (opFeed A x) (opFeed (fA A) x) := rel_ite (fun _ => rel_same hP rfl) (fun _ => rel_ite (fun _ => rel_same hP rfl) (fun _ => ⟨rfl, Or.inr ⟨hP, rfl⟩⟩))
theorem rl_hall {A : At} (hP : Ph A) : Rel (opHall A) (opHall (fA A)) := by
  have e : opHall (fA A) = match prs (fun k => (aX A).getD k 0) (aX A).length ((aX A).length + 1) 0 false D0 with
    | .inl e => (-10 - nI e.2, ([], nI e.1, aH A, aD A, aS A, gM (aU A), aB A, (fun i => gI (aI A i)), aG A, aE A))
    | .inr x => (nI (dL x.2), ([], -1, x.1, x.2, aS A, beginA x.2, [], (fun _ => none), [], [])) := rfl
  rw [e]
  unfold opHall
  cases prs (fun k => (aX A).getD k 0) (aX A).length ((aX A).length + 1) 0 false D0 with
  | inl e => exact ⟨rfl, Or.inr ⟨hP, rfl⟩⟩
  | inr e => exact ⟨rfl, Or.inl rfl⟩
theorem rl_fault {A : At} (hP : Ph A) : Rel (aF A, A) (aF (fA A), fA A) := rel_same hP rfl
theorem rl_told {A : At} (hP : Ph A) {w : Int32} : Rel (vTold A w, A) (vTold (fA A) w, fA A) := rel_same hP rfl
theorem rl_lord {A : At} (hP : Ph A) {x w : Int32} : Rel (vLord A x w, A) (vLord (fA A) x w, fA A) := rel_first hP (f := fun A => vLord A x w) (if_pos (hP.nl x)) (if_pos (hP.nl x))
theorem rl_joke {A : At} (hP : Ph A) {x w : Int32} : Rel (vJoke A x w, A) (vJoke (fA A) x w, fA A) := rel_first hP (f := fun A => vJoke A x w) (if_pos (hP.nj x)) (if_pos (hP.nj x))
theorem rl_tell {A : At} (hP : Ph A) {x y z : Int32} : Rel (opTell A x y z) (opTell (fA A) x y z) := by
  have e1 : opTell A x y z = (-1000000001, A) := if_pos (fun q => hP.nl x q.1)
  have e2 : opTell (fA A) x y z = (-1000000001, fA A) := if_pos (fun q => hP.nl x q.1)
  rw [e1, e2]; exact rel_same hP rfl
theorem rl_night {A : At} (hP : Ph A) {x : Int32} : Rel (opNight A x) (opNight (fA A) x) := rel_ite (fun _ => rel_same hP rfl) (fun _ => rel_ite (fun _ => rel_same hP rfl) (fun q => absurd hP.2.1 q))
theorem rl_drift {A : At} (hP : Ph A) {x : Int32} : Rel (opDrift A x) (opDrift (fA A) x) := rel_ite (fun _ => rel_same hP rfl) (fun _ => rel_ite (fun _ => rel_same hP rfl) (fun q => absurd hP.2.1 q))
theorem un_nil {x : Int32} {B : At} (hB : aB B = []) (c : inP x 1 30) : opUndo B x = (-1000000003, B) := by
  unfold opUndo
  rw [if_neg (not_not_intro c), hB]
  rfl
theorem rl_undo {A : At} (hP : Ph A) {x : Int32} : Rel (opUndo A x) (opUndo (fA A) x) := by
  by_cases c : inP x 1 30
  · rw [un_nil hP.2.2 c, un_nil (B := fA A) hP.2.2 c]; exact rel_same hP rfl
  · have e1 : opUndo A x = (-1000000002, A) := if_pos c
    have e2 : opUndo (fA A) x = (-1000000002, fA A) := if_pos c
    rw [e1, e2]; exact rel_same hP rfl
theorem rl_falls {A : At} (hP : Ph A) {x y z : Int32} : Rel (vFalls A x y z, A) (vFalls (fA A) x y z, fA A) := rel_first hP (f := fun A => vFalls A x y z) (if_pos (fun q => hP.nl x q.1)) (if_pos (fun q => hP.nl x q.1))
theorem rl_alone {A : At} (hP : Ph A) {x z : Int32} : Rel (vAlone A x z, A) (vAlone (fA A) x z, fA A) := rel_first hP (f := fun A => vAlone A x z) (if_pos (hP.nl x)) (if_pos (hP.nl x))
theorem rl_duel {A : At} (hP : Ph A) {x y z w : Int32} : Rel (vDuel A x y z w, A) (vDuel (fA A) x y z w, fA A) := rel_first hP (f := fun A => vDuel A x y z w) (if_pos (fun q => hP.nl x q.1)) (if_pos (fun q => hP.nl x q.1))
theorem rl_safe {A : At} (hP : Ph A) : Rel (vSafe A, A) (vSafe (fA A), fA A) := by
  have e : ∀ B : At, dL (aD B) = 0 → vSafe B = nI (nd (mI (aU B)) 0) := fun B hB => by unfold vSafe; rw [hB]; rfl
  refine rel_same hP ?_
  rw [e A (by rw [hP.1]; rfl), e (fA A) (show dL (aD A) = 0 by rw [hP.1]; rfl)]
  rfl
theorem rl_draws {A : At} (hP : Ph A) {x : Int32} : Rel (vDraws A x, A) (vDraws (fA A) x, fA A) := rel_first hP (f := fun A => vDraws A x) (if_pos (hP.nl x)) (if_pos (hP.nl x))
theorem rl_cover {A : At} (hP : Ph A) {x : Int32} : Rel (vCover A x, A) (vCover (fA A) x, fA A) := rel_first hP (f := fun A => vCover A x) (if_pos (hP.nl x)) (if_pos (hP.nl x))
theorem rl_toldBy {A : At} (hP : Ph A) {x y z : Int32} : Rel (vToldBy A x y z, A) (vToldBy (fA A) x y z, fA A) := rel_first hP (f := fun A => vToldBy A x y z) (if_pos (fun q => hP.nl x q.1)) (if_pos (fun q => hP.nl x q.1))
theorem rl_sure {A : At} (hP : Ph A) {x y : Int32} : Rel (vSure A x y, A) (vSure (fA A) x y, fA A) := rel_first hP (f := fun A => vSure A x y) (if_pos (fun q => hP.nl x q.1)) (if_pos (fun q => hP.nl x q.1))
theorem rl_wired {A : At} (hP : Ph A) {y : Int32} : Rel (vWired A y, A) (vWired (fA A) y, fA A) := by
  have e : ∀ (B : At) (t : Nat), dL (aD B) = 0 → wirF B t = 0 := fun B t hB => by unfold wirF; rw [hB]; rfl
  refine rel_same hP ?_
  unfold vWired
  rw [e A _ (by rw [hP.1]; rfl), e (fA A) _ (show dL (aD A) = 0 by rw [hP.1]; rfl)]
  rfl
theorem rl_see {A : At} (hP : Ph A) {x y z : Int32} : Rel (opSee A x y z) (opSee (fA A) x y z) := by
  have e1 : opSee A x y z = (-1000000001, A) := if_pos (fun q => hP.nl x q.1)
  have e2 : opSee (fA A) x y z = (-1000000001, fA A) := if_pos (fun q => hP.nl x q.1)
  rw [e1, e2]; exact rel_same hP rfl
theorem rl_tastes {A : At} (hP : Ph A) {x : Int32} : Rel (vTastes A x, A) (vTastes (fA A) x, fA A) := rel_first hP (f := fun A => vTastes A x) (if_pos (hP.nl x)) (if_pos (hP.nl x))
theorem rl_sads {A : At} (hP : Ph A) {x w : Int32} : Rel (vSads A x w, A) (vSads (fA A) x w, fA A) := rel_first hP (f := fun A => vSads A x w) (if_pos (hP.nl x)) (if_pos (hP.nl x))
theorem rl_write {A : At} (hP : Ph A) {x y : Int32} : Rel (opWrite A x y) (opWrite (fA A) x y) := rel_ite (fun _ => rel_same hP rfl) (fun _ => rel_ite (fun _ => rel_same hP rfl) (fun _ => rel_ite (fun _ => rel_same hP rfl) (fun _ => ⟨rfl, Or.inr ⟨hP, rfl⟩⟩)))
theorem rl_judge {A : At} (hP : Ph A) : Rel (vJudge A, A) (vJudge (fA A), fA A) := rel_same hP rfl
theorem rl_tear {A : At} (hP : Ph A) : Rel (opTear A) (opTear (fA A)) := ⟨rfl, Or.inr ⟨hP, rfl⟩⟩
theorem rl_seed {A : At} (hP : Ph A) {x : Int32} : Rel (opSeed A x) (opSeed (fA A) x) := rel_ite (fun _ => rel_same hP rfl) (fun _ => ⟨rfl, Or.inr ⟨hP, rfl⟩⟩)
theorem rl_keep {A : At} (hP : Ph A) {x : Int32} : Rel (opKeep A x) (opKeep (fA A) x) := by
  refine rel_ite (fun _ => rel_same hP rfl) (fun _ => ⟨rfl, Or.inr ⟨⟨hP.1, hP.2.1, rfl⟩, ?_⟩⟩)
  have e : (fun i => if i = cl x then some (gM (aU A), aS A) else gI (aI A i)) = fun i => gI (if i = cl x then some (aU A, aS A) else aI A i) := funext fun i => by
    by_cases c : i = cl x
    · rw [if_pos c, if_pos c]; rfl
    · rw [if_neg c, if_neg c]
  show (aX A, aF A, aH A, aD A, aS A, gM (aU A), [], (fun i => if i = cl x then some (gM (aU A), aS A) else gI (aI A i)), aG A, aE A) = _
  rw [e]
  rfl
theorem rl_back {A : At} (hP : Ph A) {x : Int32} : Rel (opBack A x) (opBack (fA A) x) := by
  by_cases c : inP x 0 1
  · have e2 : opBack (fA A) x = match gI (aI A (cl x)) with
      | none => (-1000000003, fA A)
      | some q => (1, (aX A, aF A, aH A, aD A, q.2, q.1, [], (fun i => gI (aI A i)), aG A, aE A)) := if_neg (not_not_intro c)
    have e1 : opBack A x = match aI A (cl x) with
      | none => (-1000000003, A)
      | some q => (1, (aX A, aF A, aH A, aD A, q.2, q.1, [], aI A, aG A, aE A)) := if_neg (not_not_intro c)
    rw [e1, e2]
    cases aI A (cl x) with
    | none => exact rel_same hP rfl
    | some q => exact ⟨rfl, Or.inr ⟨⟨hP.1, hP.2.1, rfl⟩, rfl⟩⟩
  · have e1 : opBack A x = (-1000000001, A) := if_pos c
    have e2 : opBack (fA A) x = (-1000000001, fA A) := if_pos c
    rw [e1, e2]; exact rel_same hP rfl
end PHASE
/-! the start -/
def A0 : At := ([], -1, false, D0, 0, beginA D0, [], (fun _ => none), [], [])
theorem Ph0 : Ph A0 := ⟨rfl, rfl, rfl⟩
theorem okD_0 : okD D0 := ⟨by decide, by decide, by decide, by decide, (fun i hi => absurd hi (Nat.not_lt_zero i)), (fun i hi => absurd hi (Nat.not_lt_zero i))⟩
theorem okA_0 (u : Mom) (hu : okM D0 u) : okA ([], -1, false, D0, 0, u, [], (fun _ => none), [], []) := ⟨Nat.zero_le _, okD_0, (fun _ => ⟨rfl, rfl, rfl, rfl⟩), (by decide : 0 < 2147483648), hu, Nat.zero_le _, (fun _ q => absurd q List.not_mem_nil), (fun i u s q => by cases q), Nat.zero_le _, (fun _ q => absurd q List.not_mem_nil), Nat.zero_le _, (fun _ q => absurd q List.not_mem_nil)⟩
def hC0 : Hp := up (up (up (up (up (up (up (fun _ _ => 0) 0 1 (nI 4)) 0 2 (nI 12)) 25 0 (nI 26)) 25 1 (nI 28)) 36 0 (nI 37)) 0 8 0) 0 9 (-1)
def hM0 : Hp := upr (up hC0 49 7 (-1)) 57 (begR (up hC0 49 7 (-1) 49 16) (up hC0 49 7 (-1) 57))
theorem CA_0 : CA hC0 (fA A0) := by
  refine ⟨4, okA_0 (gM (beginA D0)) ⟨by decide, by decide, by decide, by decide, fun _ => Nat.zero_le _, fun _ _ => rfl⟩, ⟨rfl, fun k x q => (no_nil q).elim⟩, rfl, ⟨rfl, rfl, Or.inl rfl⟩, ⟨rfl, okD_0, rfl, rfl, rfl, rfl, (fun i hi => absurd hi (Nat.not_lt_zero i)), (fun i hi => absurd hi (Nat.not_lt_zero i)), fun b hb => rfl, fun b hb => rfl⟩, rfl, ⟨rfl, rfl, rfl, rfl, fun i hi => rfl, fun j hj => rfl⟩, ⟨Nat.zero_le _, rfl, 0, by decide, rfl, fun r u q => (no_nil q).elim⟩, ⟨rfl, rfl, fun i hi => ⟨?_, fun u s q => by cases q⟩⟩, ⟨rfl, fun r u q => (no_nil q).elim⟩, ⟨rfl, fun r u q => (no_nil q).elim⟩⟩
  rcases (show i = 0 ∨ i = 1 by omega) with rfl | rfl
  · rfl
  · rfl
theorem hM0_low : ∀ a, a < 49 → hM0 a = hC0 a := fun a ha => by
  unfold hM0
  rw [upr_row _ _ _ (by omega), up_row _ _ _ _ (by omega)]
theorem MA_0 : MA hM0 A0 := by
  refine ⟨okA_0 (beginA D0) okM_beg, ⟨rfl, fun k x q => (no_nil q).elim⟩, rfl, rfl, ⟨okD_0, rfl, rfl, rfl, rfl, (fun i hi => absurd hi (Nat.not_lt_zero i)), (fun i hi => absurd hi (Nat.not_lt_zero i))⟩, rfl, ?_, ⟨rfl, fun r u q => (no_nil q).elim⟩, (fun i hi => ⟨rfl, fun u s q => by cases q⟩), ⟨rfl, fun r u q => (no_nil q).elim⟩, ⟨rfl, fun r u q => (no_nil q).elim⟩⟩
  have e : up hC0 49 7 (-1) 49 16 = nI (dL D0) := by rw [up_off _ _ _ _ (by decide)]; rfl
  have e2 : hM0 57 = begR (up hC0 49 7 (-1) 49 16) (up hC0 49 7 (-1) 57) := upr_self _ _ _
  rw [e2]
  exact MomR_beg (D := D0) (L := up hC0 49 7 (-1) 49 16) (by decide) e (up hC0 49 7 (-1) 57)
theorem CA_low {g : Hp} {A : At} (q : CA h A) (e : ∀ a, a < 49 → g a = h a) : CA g A := by
  obtain ⟨o, w⟩ := q
  exact ⟨o, CAo_tr w (fun a ha => e a (by omega))⟩
/-- both hold the same, as far as it can be seen -/
def Both (h : Hp) : Prop := ∃ A A', MA h A ∧ CA h A' ∧ (A' = A ∨ (Ph A ∧ A' = fA A))
theorem Both_0 : Both hM0 := ⟨A0, fA A0, MA_0, CA_low CA_0 hM0_low, Or.inr ⟨Ph0, rfl⟩⟩
