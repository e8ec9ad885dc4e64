variable {l : Launch} {E : Ev} {h : Hp}
noncomputable def raF (D : HDt) (m t : Nat) (tm : Nat → Nat) (i s : Nat) : Nat := orN (fun j => if s.testBit j = true then orN (rF D m t tm i j) 6 else 0) (dJ D)
theorem raF_lt {D : HDt} (q : okD D) (m t : Nat) (tm : Nat → Nat) (i s : Nat) : raF D m t tm i s < 2 ^ 6 := orN_lt _ 6 _ (fun k _ => by
  split
  · exact orN_lt _ 6 _ (fun a _ => rF_lt q m t tm i k a)
  · decide)
noncomputable def okC (D : HDt) (m t : Nat) (tm : Nat → Nat) (i M s : Nat) : Bool := decide (nd M (raF D m t tm i s) = 0)
def fwN : Option Nat → Nat
  | none => 7
  | some b => pc b 6
theorem fwN_le : ∀ r, fwN r ≤ 7
  | none => Nat.le_refl _
  | some b => by have := pc_le b 6; show pc b 6 ≤ 7; omega
theorem cov_up {ok : Nat → Bool} {s : Nat} {r : Option Nat} (hr : covC ok s 0 r) (hn : ok s = false ∨ fwN r ≤ pc s 6) : covC ok (s + 1) 0 r := by
  cases r with
  | none =>
    intro k h1 h2
    by_cases e : k = s
    · rw [e]
      rcases hn with c | c
      · exact c
      · have := pc_le s 6
        exact absurd (show 7 ≤ pc s 6 from c) (by omega)
    · exact hr k h1 (by omega)
  | some b =>
    obtain ⟨a1, a2, a3, a4⟩ := hr
    refine ⟨a1, by omega, a3, fun k h1 h2 h3 => ?_⟩
    by_cases e : k = s
    · subst e
      rcases hn with c | c
      · rw [c] at h3; cases h3
      · have c : pc b 6 ≤ pc k 6 := c
        omega
    · exact a4 k h1 (by omega) h3
theorem cov_new {ok : Nat → Bool} {s : Nat} {r : Option Nat} (hr : covC ok s 0 r) (hok : ok s = true) (hn : pc s 6 < fwN r) : covC ok (s + 1) 0 (some s) := by
  refine ⟨Nat.zero_le _, Nat.lt_succ_self _, hok, fun k h1 h2 h3 => ?_⟩
  by_cases e : k = s
  · subst e; exact Or.inr ⟨rfl, Nat.le_refl _⟩
  · cases r with
    | none => rw [hr k h1 (by omega)] at h3; cases h3
    | some b =>
      have := hr.2.2.2 k h1 (by omega) h3
      have hn : pc s 6 < pc b 6 := hn
      omega
set_option maxHeartbeats 4000000 in
theorem s5_fewestJokesFor {o : Nat} {D : HDt} (hO : isH o) (hH : CHl h o D) {m t : Nat} {tm : Nat → Nat} {i : Nat} (ho : o ≤ 12) (q1 : h 36 0 = nI o) (hV : ∀ c, c < 60 → h 47 c = thT D m t tm i c) {M : Nat} (hM : M < 64) : Sp l E SHP 2 M5_fewestJokesFor [.ref (E.1 + 36), .int (nI M)] h (PD (some (.int (oI (covF (okC D m t tm i M) (2 ^ dJ D))))) h) := by
  refine Sp.of (by decide) (Nat.le_of_ble_eq_true rfl) (fun X C F => ?_)
  have C : Ok X E RX5 cX5_fewestJokesFor 6 := C
  have F : Fn X l E SHP 2 (some FieldType.int) (PD (some (.int (oI (covF (okC D m t tm i M) (2 ^ dJ D))))) h) := F
  show G X E SHP (0, 0) 0 [(0, .ref (E.1 + 36)), (1, .int (nI M))] [] h
  obtain ⟨okd, e1, e2, e3, e4, eL, eJ, eB, eF⟩ := id hH
  obtain ⟨o1, o2, o3, o4, o5, o6⟩ := id okd
  have p6 : 2 ^ dJ D ≤ 64 := Nat.pow_le_pow_right (n := 2) (by decide) o2
  have Lp : ∀ s, s ≤ 2 ^ dJ D → ∀ r, covC (okC D m t tm i M) s 0 r → G X E SHP (0, 0) 8 [(0, .ref (E.1 + 36)), (1, .int (nI M)), (2, .int (oI r)), (3, .int (nI (fwN r))), (4, .int (nI s))] [] h := by
    refine loopN (2 ^ dJ D) _ (fun s hs ih r hr => ?_)
    have hfw := fwN_le r
    have hpc := pc_le s 6
    refine r_iload C dX5_fewestJokesFor_8 rfl ?_
    refine r_iconst (1) C dX5_fewestJokesFor_10 rfl ?_
    refine r_aload_n C dX5_fewestJokesFor_11 rfl ?_
    refine r_getV (o) C dX5_fewestJokesFor_12 flX5_12 (rfl) rfl (q1) (by first | decide | omega) ?_
    refine r_getI C dX5_fewestJokesFor_15 flX5_44 (hO.1) rfl ?_
    refine r_ishl C dX5_fewestJokesFor_18 ?_
    rw [e4, shl1_nI (by omega)]
    refine r_icmp_ge 60 C dX5_fewestJokesFor_19 (by decide) (fun c_19 => ?_) (fun c_19 => ?_)
    · rw [cLe (x := nI (2 ^ dJ D)) (c := nI s) (i := 2 ^ dJ D) (n := s) (rfl) (rfl) (by omega) (by omega)] at c_19
      refine r_iload_n C dX5_fewestJokesFor_60 rfl ?_
      exact r_iret C F dX5_fewestJokesFor_61 (pd_i (by rw [show s = 2 ^ dJ D by omega] at hr; rw [covC_eq hr]) rfl)
    · rw [cLe (x := nI (2 ^ dJ D)) (c := nI s) (i := 2 ^ dJ D) (n := s) (rfl) (rfl) (by omega) (by omega)] at c_19
      refine r_iload C dX5_fewestJokesFor_22 rfl ?_
      refine r_cSi C F dX5_fewestJokesFor_24 (sJ6_bitCount (n := s) (by omega)) tw_435 mJ6_bitCount (by decide) rfl (Nat.le_of_ble_eq_true rfl) ?_
      refine r_istore C dX5_fewestJokesFor_27 (by decide) rfl ?_
      refine r_iload C dX5_fewestJokesFor_29 rfl ?_
      refine r_iload_n C dX5_fewestJokesFor_31 rfl ?_
      refine r_icmp_ge 54 C dX5_fewestJokesFor_32 (by decide) (fun c_32 => ?_) (fun c_32 => ?_)
      · rw [cLe (x := nI (fwN r)) (c := nI (pc s 6)) (i := fwN r) (n := pc s 6) (rfl) (rfl) (by omega) (by omega)] at c_32
        refine r_inc (1) C dX5_fewestJokesFor_54 rfl (by decide) rfl rfl ?_
        refine r_goto 8 C dX5_fewestJokesFor_57 (by decide) ?_
        exact (ih (by omega) r (cov_up hr (Or.inr c_32))).sub ⟨rfl, rfl, rfl, rfl, by rw [nI_succ]; rfl, trivial⟩
      · rw [cLe (x := nI (fwN r)) (c := nI (pc s 6)) (i := fwN r) (n := pc s 6) (rfl) (rfl) (by omega) (by omega)] at c_32
        refine r_iload_n C dX5_fewestJokesFor_35 rfl ?_
        refine r_aload_n C dX5_fewestJokesFor_36 rfl ?_
        refine r_iload C dX5_fewestJokesFor_37 rfl ?_
        refine r_cVi C F dX5_fewestJokesFor_39 (s5_reachOfAll hO hH ho q1 hV (s := s) (by omega)) tw_569 m5_reachOfAll (rfl) rfl (by decide) rfl (Nat.le_of_ble_eq_true rfl) ?_
        refine r_iconst (-1) C dX5_fewestJokesFor_42 rfl ?_
        refine r_ixor C dX5_fewestJokesFor_43 ?_
        refine r_iand C dX5_fewestJokesFor_44 ?_
        rw [show nI (orN (fun j => if s.testBit j = true then orN (rF D m t tm i j) 6 else 0) (dJ D)) = nI (raF D m t tm i s) from rfl, nx_nd]
        refine r_if_ne 54 C dX5_fewestJokesFor_45 (by decide) (fun c_45 => ?_) (fun c_45 => ?_)
        · have c_45 : ¬ nd M (raF D m t tm i s) = 0 := fun z => c_45 (by rw [z]; rfl)
          refine r_inc (1) C dX5_fewestJokesFor_54 rfl (by decide) rfl rfl ?_
          refine r_goto 8 C dX5_fewestJokesFor_57 (by decide) ?_
          exact (ih (by omega) r (cov_up hr (Or.inl (decide_eq_false c_45)))).sub ⟨rfl, rfl, rfl, rfl, by rw [nI_succ]; rfl, trivial⟩
        · have c_45 := nI_z (Nat.lt_trans (nd_lt (n := 6) hM) (by decide)) c_45
          refine r_iload C dX5_fewestJokesFor_48 rfl ?_
          refine r_istore_n C dX5_fewestJokesFor_50 (by decide) rfl ?_
          refine r_iload C dX5_fewestJokesFor_51 rfl ?_
          refine r_istore_n C dX5_fewestJokesFor_53 (by decide) rfl ?_
          refine r_inc (1) C dX5_fewestJokesFor_54 rfl (by decide) rfl rfl ?_
          refine r_goto 8 C dX5_fewestJokesFor_57 (by decide) ?_
          exact (ih (by omega) (some s) (cov_new hr (decide_eq_true c_45) (by omega))).sub ⟨rfl, rfl, rfl, rfl, by rw [nI_succ]; rfl, trivial⟩
  refine r_iconst (-1) C dX5_fewestJokesFor_0 rfl ?_
  refine r_istore_n C dX5_fewestJokesFor_1 (by decide) rfl ?_
  refine r_bipush (7) C dX5_fewestJokesFor_2 rfl ?_
  refine r_istore_n C dX5_fewestJokesFor_4 (by decide) rfl ?_
  refine r_iconst (0) C dX5_fewestJokesFor_5 rfl ?_
  refine r_istore C dX5_fewestJokesFor_6 (by decide) rfl ?_
  exact (Lp 0 (Nat.zero_le _) none (fun k _ hk => absurd hk (Nat.not_lt_zero k))).sub ⟨rfl, rfl, rfl, rfl, rfl, trivial⟩
set_option maxHeartbeats 4000000 in
theorem s5_howManyFit {x : Int32} : Sp l E SHP 0 M5_howManyFit [.ref (E.1 + 36), .int x] h (PD (some (.int (nI (cnt (fun c => decide (h 47 c = x)) 60)))) h) := by
  refine Sp.of (by decide) (Nat.le_of_ble_eq_true rfl) (fun X C F => ?_)
  have C : Ok X E RX5 cX5_howManyFit 4 := C
  have F : Fn X l E SHP 0 (some FieldType.int) (PD (some (.int (nI (cnt (fun c => decide (h 47 c = x)) 60)))) h) := F
  show G X E SHP (0, 0) 0 [(0, .ref (E.1 + 36)), (1, .int x)] [] h
  have Lp : ∀ k, k ≤ 60 → G X E SHP (0, 0) 4 [(0, .ref (E.1 + 36)), (1, .int x), (2, .int (nI (cnt (fun c => decide (h 47 c = x)) k))), (3, .int (nI k))] [] h := by
    refine loopN 60 _ (fun k hk ih => ?_)
    refine r_iload_n C dX5_howManyFit_4 rfl ?_
    refine r_bipush (60) C dX5_howManyFit_5 rfl ?_
    refine r_icmp_ge 29 C dX5_howManyFit_7 (by decide) (fun c_7 => ?_) (fun c_7 => ?_)
    · rw [cLe (x := 60) (c := nI k) (i := 60) (n := k) (rfl) (rfl) (by omega) (by omega)] at c_7
      refine r_iload_n C dX5_howManyFit_29 rfl ?_
      exact r_iret C F dX5_howManyFit_30 (pd_i (by rw [show k = 60 by omega]) (rfl))
    · rw [cLe (x := 60) (c := nI k) (i := 60) (n := k) (rfl) (rfl) (by omega) (by omega)] at c_7
      refine r_aload_n C dX5_howManyFit_10 rfl ?_
      refine r_getR C dX5_howManyFit_11 flX5_25 (rfl) rfl ?_
      refine r_iload_n C dX5_howManyFit_14 rfl ?_
      refine r_iald (k) C dX5_howManyFit_15 (rfl) (rfl) (by omega) (by first | decide | omega) ?_
      refine r_iload_n C dX5_howManyFit_16 rfl ?_
      refine r_icmp_ne 23 C dX5_howManyFit_17 (by decide) (fun c_17 => ?_) (fun c_17 => ?_)
      · refine r_inc (1) C dX5_howManyFit_23 rfl (by decide) rfl rfl ?_
        refine r_goto 4 C dX5_howManyFit_26 (by decide) ?_
        exact (ih (by omega)).sub ⟨rfl, rfl, by show _ = some (Value.int (nI (cnt (fun c => decide (h 47 c = x)) k + if decide (h 47 k = x) = true then 1 else 0))); rw [if_neg (by simp [c_17])]; rfl, by rw [nI_succ]; rfl, trivial⟩
      · refine r_inc (1) C dX5_howManyFit_20 rfl (by decide) rfl rfl ?_
        refine r_inc (1) C dX5_howManyFit_23 rfl (by decide) rfl rfl ?_
        refine r_goto 4 C dX5_howManyFit_26 (by decide) ?_
        exact (ih (by omega)).sub ⟨rfl, rfl, by show _ = some (Value.int (nI (cnt (fun c => decide (h 47 c = x)) k + if decide (h 47 k = x) = true then 1 else 0))); rw [if_pos (by simp [c_17]), nI_succ]; rfl, by rw [nI_succ]; rfl, trivial⟩
  refine r_iconst (0) C dX5_howManyFit_0 rfl ?_
  refine r_istore_n C dX5_howManyFit_1 (by decide) rfl ?_
  refine r_iconst (0) C dX5_howManyFit_2 rfl ?_
  refine r_istore_n C dX5_howManyFit_3 (by decide) rfl ?_
  exact (Lp 0 (by decide)).sub ⟨rfl, rfl, rfl, rfl, trivial⟩
theorem wh_no {p : Nat → Bool} {x : Int32} : ∀ n, (∀ k, k < n → ¬ (p k = true ∧ nI (cnt p k) = x)) → whF p x n = -1
  | 0, _ => rfl
  | n + 1, e => by
    show (if p n = true ∧ nI (cnt p n) = x then nI n else whF p x n) = -1
    rw [if_neg (e n (by omega))]
    exact wh_no n (fun k hk => e k (by omega))
theorem cnt_mn (p : Nat → Bool) {k : Nat} : ∀ n, k ≤ n → cnt p k ≤ cnt p n
  | 0, h => by rw [show k = 0 by omega]; exact Nat.le_refl _
  | n + 1, h => by
    by_cases c : k = n + 1
    · rw [c]; exact Nat.le_refl _
    · have := cnt_mn p n (show k ≤ n by omega)
      show cnt p k ≤ cnt p n + (if p n then 1 else 0)
      omega
theorem wh_at {p : Nat → Bool} {x : Int32} {k : Nat} (h1 : p k = true) (h2 : nI (cnt p k) = x) : ∀ n, n ≤ 60 → k < n → whF p x n = nI k
  | 0, _, h => absurd h (Nat.not_lt_zero k)
  | n + 1, hn, h => by
    show (if p n = true ∧ nI (cnt p n) = x then nI n else whF p x n) = nI k
    by_cases c : k = n
    · subst c; rw [if_pos ⟨h1, h2⟩]
    · rw [if_neg, wh_at h1 h2 n (by omega) (by omega)]
      intro z
      have a1 := cnt_mn p n (show k + 1 ≤ n by omega)
      have a2 : cnt p (k + 1) = cnt p k + 1 := by show cnt p k + (if p k then 1 else 0) = _; rw [h1]; rfl
      have a3 := cnt_le p n
      have a4 := cnt_le p k
      have := (cEq (x := nI (cnt p n)) (c := nI (cnt p k)) (i := cnt p n) (n := cnt p k) rfl rfl (by omega) (by omega)).mp (z.2.trans h2.symm)
      omega
set_option maxHeartbeats 4000000 in
theorem s5_fittingThing {x y : Int32} : Sp l E SHP 0 M5_fittingThing [.ref (E.1 + 36), .int x, .int y] h (PD (some (.int (whF (fun c => decide (h 47 c = x)) y 60))) h) := by
  refine Sp.of (by decide) (Nat.le_of_ble_eq_true rfl) (fun X C F => ?_)
  have C : Ok X E RX5 cX5_fittingThing 5 := C
  have F : Fn X l E SHP 0 (some FieldType.int) (PD (some (.int (whF (fun c => decide (h 47 c = x)) y 60))) h) := F
  show G X E SHP (0, 0) 0 [(0, .ref (E.1 + 36)), (1, .int x), (2, .int y)] [] h
  have Lp : ∀ k, k ≤ 60 → (∀ r, r < k → ¬ ((fun c => decide (h 47 c = x)) r = true ∧ nI (cnt (fun c => decide (h 47 c = x)) r) = y)) → G X E SHP (0, 0) 5 [(0, .ref (E.1 + 36)), (1, .int x), (2, .int y), (3, .int (nI (cnt (fun c => decide (h 47 c = x)) k))), (4, .int (nI k))] [] h := by
    refine loopN 60 _ (fun k hk ih hno => ?_)
    refine r_iload C dX5_fittingThing_5 rfl ?_
    refine r_bipush (60) C dX5_fittingThing_7 rfl ?_
    refine r_icmp_ge 43 C dX5_fittingThing_9 (by decide) (fun c_9 => ?_) (fun c_9 => ?_)
    · rw [cLe (x := 60) (c := nI k) (i := 60) (n := k) (rfl) (rfl) (by omega) (by omega)] at c_9
      refine r_iconst (-1) C dX5_fittingThing_43 rfl ?_
      exact r_iret C F dX5_fittingThing_44 (pd_i (wh_no 60 (fun r hr => hno r (by omega))).symm rfl)
    · rw [cLe (x := 60) (c := nI k) (i := 60) (n := k) (rfl) (rfl) (by omega) (by omega)] at c_9
      refine r_aload_n C dX5_fittingThing_12 rfl ?_
      refine r_getR C dX5_fittingThing_13 flX5_25 (rfl) rfl ?_
      refine r_iload C dX5_fittingThing_16 rfl ?_
      refine r_iald (k) C dX5_fittingThing_18 (rfl) (rfl) (by omega) (by first | decide | omega) ?_
      refine r_iload_n C dX5_fittingThing_19 rfl ?_
      refine r_icmp_eq 26 C dX5_fittingThing_20 (by decide) (fun c_20 => ?_) (fun c_20 => ?_)
      · refine r_iload_n C dX5_fittingThing_26 rfl ?_
        refine r_iload_n C dX5_fittingThing_27 rfl ?_
        refine r_icmp_ne 34 C dX5_fittingThing_28 (by decide) (fun c_28 => ?_) (fun c_28 => ?_)
        · refine r_inc (1) C dX5_fittingThing_34 rfl (by decide) rfl rfl ?_
          refine r_inc (1) C dX5_fittingThing_37 rfl (by decide) rfl rfl ?_
          refine r_goto 5 C dX5_fittingThing_40 (by decide) ?_
          exact (ih (by omega) (fun r hr z => by by_cases e : r = k; (subst e; exact c_28 z.2); exact hno r (by omega) z)).sub ⟨rfl, rfl, rfl, by show _ = some (Value.int (nI (cnt (fun c => decide (h 47 c = x)) k + if decide (h 47 k = x) = true then 1 else 0))); rw [if_pos (by simp [c_20]), nI_succ]; rfl, by rw [nI_succ]; rfl, trivial⟩
        · refine r_iload C dX5_fittingThing_31 rfl ?_
          exact r_iret C F dX5_fittingThing_33 (pd_i (wh_at (decide_eq_true c_20) c_28 60 (by decide) (by omega)).symm rfl)
      · refine r_goto 37 C dX5_fittingThing_23 (by decide) ?_
        refine r_inc (1) C dX5_fittingThing_37 rfl (by decide) rfl rfl ?_
        refine r_goto 5 C dX5_fittingThing_40 (by decide) ?_
        exact (ih (by omega) (fun r hr z => by by_cases e : r = k; (subst e; exact c_20 (of_decide_eq_true z.1)); exact hno r (by omega) z)).sub ⟨rfl, rfl, rfl, by show _ = some (Value.int (nI (cnt (fun c => decide (h 47 c = x)) k + if decide (h 47 k = x) = true then 1 else 0))); rw [if_neg (by simp [c_20])]; rfl, by rw [nI_succ]; rfl, trivial⟩
  refine r_iconst (0) C dX5_fittingThing_0 rfl ?_
  refine r_istore_n C dX5_fittingThing_1 (by decide) rfl ?_
  refine r_iconst (0) C dX5_fittingThing_2 rfl ?_
  refine r_istore C dX5_fittingThing_3 (by decide) rfl ?_
  exact (Lp 0 (by decide) (fun r hr => absurd hr (Nat.not_lt_zero r))).sub ⟨rfl, rfl, rfl, rfl, rfl, trivial⟩
set_option maxHeartbeats 4000000 in
theorem s5_fittingJokes {x : Int32} : Sp l E SHP 0 M5_fittingJokes [.ref (E.1 + 36), .int x] h (PD (some (.int (nI (orN (fun c => if decide (h 47 c = x) = true then 2 ^ (c / 10) else 0) 60)))) h) := by
  refine Sp.of (by decide) (Nat.le_of_ble_eq_true rfl) (fun X C F => ?_)
  have C : Ok X E RX5 cX5_fittingJokes 4 := C
  have F : Fn X l E SHP 0 (some FieldType.int) (PD (some (.int (nI (orN (fun c => if decide (h 47 c = x) = true then 2 ^ (c / 10) else 0) 60)))) h) := F
  show G X E SHP (0, 0) 0 [(0, .ref (E.1 + 36)), (1, .int x)] [] h
  have Lp : ∀ k, k ≤ 60 → G X E SHP (0, 0) 4 [(0, .ref (E.1 + 36)), (1, .int x), (2, .int (nI (orN (fun c => if decide (h 47 c = x) = true then 2 ^ (c / 10) else 0) k))), (3, .int (nI k))] [] h := by
    refine loopN 60 _ (fun k hk ih => ?_)
    refine r_iload_n C dX5_fittingJokes_4 rfl ?_
    refine r_bipush (60) C dX5_fittingJokes_5 rfl ?_
    refine r_icmp_ge 35 C dX5_fittingJokes_7 (by decide) (fun c_7 => ?_) (fun c_7 => ?_)
    · rw [cLe (x := 60) (c := nI k) (i := 60) (n := k) (rfl) (rfl) (by omega) (by omega)] at c_7
      refine r_iload_n C dX5_fittingJokes_35 rfl ?_
      exact r_iret C F dX5_fittingJokes_36 (pd_i (by rw [show k = 60 by omega]) (rfl))
    · rw [cLe (x := 60) (c := nI k) (i := 60) (n := k) (rfl) (rfl) (by omega) (by omega)] at c_7
      refine r_aload_n C dX5_fittingJokes_10 rfl ?_
      refine r_getR C dX5_fittingJokes_11 flX5_25 (rfl) rfl ?_
      refine r_iload_n C dX5_fittingJokes_14 rfl ?_
      refine r_iald (k) C dX5_fittingJokes_15 (rfl) (rfl) (by omega) (by first | decide | omega) ?_
      refine r_iload_n C dX5_fittingJokes_16 rfl ?_
      refine r_icmp_ne 29 C dX5_fittingJokes_17 (by decide) (fun c_17 => ?_) (fun c_17 => ?_)
      · refine r_inc (1) C dX5_fittingJokes_29 rfl (by decide) rfl rfl ?_
        refine r_goto 4 C dX5_fittingJokes_32 (by decide) ?_
        exact (ih (by omega)).sub ⟨rfl, rfl, by show _ = some (Value.int (nI (orN (fun c => if decide (h 47 c = x) = true then 2 ^ (c / 10) else 0) k ||| if decide (h 47 k = x) = true then 2 ^ (k / 10) else 0))); rw [if_neg (by simp [c_17]), Nat.or_zero]; rfl, by rw [nI_succ]; rfl, trivial⟩
      · refine r_iload_n C dX5_fittingJokes_20 rfl ?_
        refine r_iconst (1) C dX5_fittingJokes_21 rfl ?_
        refine r_iload_n C dX5_fittingJokes_22 rfl ?_
        refine r_bipush (10) C dX5_fittingJokes_23 rfl ?_
        refine r_idiv C dX5_fittingJokes_25 (by decide) ?_
        rw [show nI k / 10 = nI (k / 10) from pk_div (by omega) (by decide) (by decide)]
        refine r_ishl C dX5_fittingJokes_26 ?_
        rw [shl1_nI (by omega)]
        refine r_ior C dX5_fittingJokes_27 ?_
        refine r_istore_n C dX5_fittingJokes_28 (by decide) rfl ?_
        refine r_inc (1) C dX5_fittingJokes_29 rfl (by decide) rfl rfl ?_
        refine r_goto 4 C dX5_fittingJokes_32 (by decide) ?_
        exact (ih (by omega)).sub ⟨rfl, rfl, by show _ = some (Value.int (nI (orN (fun c => if decide (h 47 c = x) = true then 2 ^ (c / 10) else 0) k ||| if decide (h 47 k = x) = true then 2 ^ (k / 10) else 0))); rw [if_pos (by simp [c_17]), ← nx_or]; rfl, by rw [nI_succ]; rfl, trivial⟩
  refine r_iconst (0) C dX5_fittingJokes_0 rfl ?_
  refine r_istore_n C dX5_fittingJokes_1 (by decide) rfl ?_
  refine r_iconst (0) C dX5_fittingJokes_2 rfl ?_
  refine r_istore_n C dX5_fittingJokes_3 (by decide) rfl ?_
  exact (Lp 0 (by decide)).sub ⟨rfl, rfl, rfl, rfl, trivial⟩
