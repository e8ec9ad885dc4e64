variable {l : Launch} {E : Ev} {h : Hp}
/-! numbers up to the clause's end -/
def rdR (t : Nat → Int32) (n : Nat) (lo hi : Nat → Nat) : Nat → Nat → (Nat → Nat) → Nat → Rd ((Nat → Nat) × Nat)
  | 0, _, v, p => bnd (rdE t n p) fun q => .inr (v, q)
  | f + 1, i, v, p => bnd (rdN t n (lo i) (hi i) p) fun a => rdR t n lo hi f (i + 1) (fun k => if k = i then a.1 else v k) a.2
def RS (h g : Hp) (t : Nat → Int32) (n : Nat) : Prop := g 2 = t ∧ g 1 2 = nI n ∧ ∀ a, a ≠ 1 → a ≠ 3 → g a = h a
def QN (h : Hp) (t : Nat → Int32) (n len : Nat) (R : Rd ((Nat → Nat) × Nat)) : Pst := fun v g => RS h g t n ∧ match R with
  | .inl e => v = some (.int 0) ∧ g 1 3 = nI e.2 ∧ ¬ g 1 3 = 0 ∧ g 1 4 = nI e.1 ∧ ∃ p, g 1 5 = nI p ∧ p ≤ 201
  | .inr x => v = some (.int 1) ∧ g 1 3 = 0 ∧ g 1 4 = h 1 4 ∧ g 1 5 = nI x.2 ∧ x.2 ≤ n ∧ ∀ k, k < len → g 3 k = nI (x.1 k)
theorem rdN_bad {t : Nat → Int32} {n lo hi p : Nat} {e : Nat × Nat} (q : rdN t n lo hi p = .inl e) : e.2 = 1 ∨ e.2 = 2 := by
  unfold rdN at q
  split at q
  · split at q
    · cases q
    · cases q; exact Or.inr rfl
  · cases q; exact Or.inl rfl
theorem rdN_val {t : Nat → Int32} {n lo hi p : Nat} {a : Nat × Nat} (q : rdN t n lo hi p = .inr a) : a.1 = vl t (sk t n p) (dg t n (sk t n p)) ∧ a.2 = sk t n p + dg t n (sk t n p) := by
  unfold rdN at q
  split at q
  · split at q
    · cases q; exact ⟨rfl, rfl⟩
    · cases q
  · cases q
theorem nI_12 {a : Nat} (q : a = 1 ∨ a = 2) : ¬ nI a = 0 := by
  rcases q with rfl | rfl <;> decide
theorem s4_skipB2 {n p : Nat} (hn : h 1 2 = nI n) (hl : n ≤ 200) (hx : h 1 5 = nI p) (hp : n ≤ p) (hp2 : p ≤ 1000) : Sp l E SHP 0 M4_skipBlanks [.ref (E.1 + 1)] h (PD none h) := by
  refine Sp.of (by decide) (Nat.le_of_ble_eq_true rfl) (fun X C F => ?_)
  have C : Ok X E RX4 cX4_skipBlanks 1 := C
  have F : Fn X l E SHP 0 none (PD none h) := F
  show G X E SHP (0, 0) 0 [(0, .ref (E.1 + 1))] [] h
  refine r_aload_n C dX4_skipBlanks_0 rfl ?_
  refine r_getI C dX4_skipBlanks_1 flX4_33 (rfl) rfl ?_
  refine r_aload_n C dX4_skipBlanks_4 rfl ?_
  refine r_getI C dX4_skipBlanks_5 flX4_18 (rfl) rfl ?_
  refine r_icmp_ge 38 C dX4_skipBlanks_8 (by decide) (fun c_8 => ?_) (fun c_8 => ?_)
  · exact r_vret C F dX4_skipBlanks_38 (pd_v (rfl))
  · exact absurd ((cLe (x := h 1 2) (c := h 1 5) (i := n) (n := p) hn hx (by omega) (by omega)).mpr hp) c_8
set_option maxHeartbeats 4000000 in
theorem s4_readNumbers {t : Nat → Int32} {n p il im : Nat} {lo hi : Nat → Nat} {R : Rd ((Nat → Nat) × Nat)} (ht : h 2 = t) (hn : h 1 2 = nI n) (hl : n ≤ 200) (h3 : h 1 3 = 0) (hx : h 1 5 = nI p) (hp : p ≤ n) (hil : il < 6) (him : im < 6) (hle : stL im = stL il) (hl3 : stL il ≤ 3) (hlo : ∀ k, k < stL il → stV il k = nI (lo k)) (hhi : ∀ k, k < stL il → stV im k = nI (hi k)) (hb : ∀ k, lo k ≤ 100 ∧ hi k ≤ 100) (hR : rdR t n lo hi (stL il) 0 (fun _ => 0) p = R) : Sp l E SHP 2 M4_readNumbers [.ref (E.1 + 1), .ref (E.2.2.2 il), .ref (E.2.2.2 im)] h (QN h t n (stL il) R) := by
  refine Sp.of (by decide) (Nat.le_of_ble_eq_true rfl) (fun X C F => ?_)
  have C : Ok X E RX4 cX4_readNumbers 4 := C
  have F : Fn X l E SHP 2 (some FieldType.boolean) (QN h t n (stL il) R) := F
  show G X E SHP (0, 0) 0 [(0, .ref (E.1 + 1)), (1, .ref (E.2.2.2 il)), (2, .ref (E.2.2.2 im))] [] h
  have TE : ∀ (g : Hp) (e : Nat × Nat) (p : Nat), RS h g t n → g 1 3 = nI e.2 → ¬ g 1 3 = 0 → g 1 4 = nI e.1 → g 1 5 = nI p → p ≤ n → R = .inl e → G X E SHP (0, 0) 37 [(0, .ref (E.1 + 1))] [] g := by
    intro g e p hS f3 f3n f4 f5 hp hR
    subst hR
    obtain ⟨s1, s2, s3⟩ := hS
    have hs := sk_le (t := t) hp
    refine r_aload_n C dX4_readNumbers_37 rfl ?_
    refine r_cVv C F dX4_readNumbers_38 (s4_skipBlanks (t := t) s1 s2 hl f5 hp) tw_292 m4_skipBlanks (rfl) rfl (by decide) rfl (Nat.le_of_ble_eq_true rfl) ?_
    refine r_aload_n C dX4_readNumbers_41 rfl ?_
    refine r_getI C dX4_readNumbers_42 flX4_33 (rfl) rfl ?_
    refine r_aload_n C dX4_readNumbers_45 rfl ?_
    refine r_getI C dX4_readNumbers_46 flX4_18 (rfl) rfl ?_
    refine r_icmp_ge 66 C dX4_readNumbers_49 (by decide) (fun c_49 => ?_) (fun c_49 => ?_)
    · have c_49 : n ≤ sk t n p := (cLe (x := g 1 2) (c := nI (sk t n p)) (i := n) (n := sk t n p) s2 rfl (by omega) (by omega)).mp c_49
      refine r_aload_n C dX4_readNumbers_66 rfl ?_
      refine r_iconst (1) C dX4_readNumbers_67 rfl ?_
      refine r_aload_n C dX4_readNumbers_68 rfl ?_
      refine r_getI C dX4_readNumbers_69 flX4_33 (rfl) rfl ?_
      refine r_cVv C F dX4_readNumbers_72 (s4_noteFault) tw_304 m4_noteFault (rfl) rfl (by decide) rfl (Nat.le_of_ble_eq_true rfl) ?_
      first | rw [if_neg (show ¬ up g 1 5 (nI (sk t n p)) 1 3 = 0 from f3n)] | skip
      refine r_aload_n C dX4_readNumbers_75 rfl ?_
      refine r_dup C dX4_readNumbers_76 rfl ?_
      refine r_getI C dX4_readNumbers_77 flX4_33 (rfl) rfl ?_
      refine r_iconst (1) C dX4_readNumbers_80 rfl ?_
      refine r_iadd C dX4_readNumbers_81 ?_
      refine r_putI C dX4_readNumbers_82 fwX4_33 (rfl) rfl ?_
      refine r_aload_n C dX4_readNumbers_85 rfl ?_
      refine r_getI C dX4_readNumbers_86 flX4_27 (rfl) rfl ?_
      refine r_if_ne 96 C dX4_readNumbers_89 (by decide) (fun c_89 => ?_) (fun c_89 => ?_)
      · refine r_iconst (0) C dX4_readNumbers_96 rfl ?_
        exact r_zret C F dX4_readNumbers_97 rfl ⟨⟨s1, s2, fun a h1 h2 => by rw [up_row _ _ _ _ h1, up_row _ _ _ _ h1]; exact s3 a h1 h2⟩, rfl, f3, f3n, f4, sk t n p + 1, (nI_succ _).symm, by omega⟩
      · exact absurd c_89 f3n
    · have c_49 : ¬ n ≤ sk t n p := fun z => c_49 ((cLe (x := g 1 2) (c := nI (sk t n p)) (i := n) (n := sk t n p) s2 rfl (by omega) (by omega)).mpr z)
      refine r_aload_n C dX4_readNumbers_52 rfl ?_
      refine r_getR C dX4_readNumbers_53 flX4_9 (rfl) rfl ?_
      refine r_aload_n C dX4_readNumbers_56 rfl ?_
      refine r_getI C dX4_readNumbers_57 flX4_33 (rfl) rfl ?_
      refine r_iald (sk t n p) C dX4_readNumbers_60 (rfl) (rfl) (by omega) (by first | decide | omega) ?_
      refine r_bipush (59) C dX4_readNumbers_61 rfl ?_
      refine r_icmp_eq 75 C dX4_readNumbers_63 (by decide) (fun c_63 => ?_) (fun c_63 => ?_)
      · first | rw [if_neg (show ¬ up g 1 5 (nI (sk t n p)) 1 3 = 0 from f3n)] | skip
        refine r_aload_n C dX4_readNumbers_75 rfl ?_
        refine r_dup C dX4_readNumbers_76 rfl ?_
        refine r_getI C dX4_readNumbers_77 flX4_33 (rfl) rfl ?_
        refine r_iconst (1) C dX4_readNumbers_80 rfl ?_
        refine r_iadd C dX4_readNumbers_81 ?_
        refine r_putI C dX4_readNumbers_82 fwX4_33 (rfl) rfl ?_
        refine r_aload_n C dX4_readNumbers_85 rfl ?_
        refine r_getI C dX4_readNumbers_86 flX4_27 (rfl) rfl ?_
        refine r_if_ne 96 C dX4_readNumbers_89 (by decide) (fun c_89 => ?_) (fun c_89 => ?_)
        · refine r_iconst (0) C dX4_readNumbers_96 rfl ?_
          exact r_zret C F dX4_readNumbers_97 rfl ⟨⟨s1, s2, fun a h1 h2 => by rw [up_row _ _ _ _ h1, up_row _ _ _ _ h1]; exact s3 a h1 h2⟩, rfl, f3, f3n, f4, sk t n p + 1, (nI_succ _).symm, by omega⟩
        · exact absurd c_89 f3n
      · refine r_aload_n C dX4_readNumbers_66 rfl ?_
        refine r_iconst (1) C dX4_readNumbers_67 rfl ?_
        refine r_aload_n C dX4_readNumbers_68 rfl ?_
        refine r_getI C dX4_readNumbers_69 flX4_33 (rfl) rfl ?_
        refine r_cVv C F dX4_readNumbers_72 (s4_noteFault) tw_304 m4_noteFault (rfl) rfl (by decide) rfl (Nat.le_of_ble_eq_true rfl) ?_
        first | rw [if_neg (show ¬ up g 1 5 (nI (sk t n p)) 1 3 = 0 from f3n)] | skip
        refine r_aload_n C dX4_readNumbers_75 rfl ?_
        refine r_dup C dX4_readNumbers_76 rfl ?_
        refine r_getI C dX4_readNumbers_77 flX4_33 (rfl) rfl ?_
        refine r_iconst (1) C dX4_readNumbers_80 rfl ?_
        refine r_iadd C dX4_readNumbers_81 ?_
        refine r_putI C dX4_readNumbers_82 fwX4_33 (rfl) rfl ?_
        refine r_aload_n C dX4_readNumbers_85 rfl ?_
        refine r_getI C dX4_readNumbers_86 flX4_27 (rfl) rfl ?_
        refine r_if_ne 96 C dX4_readNumbers_89 (by decide) (fun c_89 => ?_) (fun c_89 => ?_)
        · refine r_iconst (0) C dX4_readNumbers_96 rfl ?_
          exact r_zret C F dX4_readNumbers_97 rfl ⟨⟨s1, s2, fun a h1 h2 => by rw [up_row _ _ _ _ h1, up_row _ _ _ _ h1]; exact s3 a h1 h2⟩, rfl, f3, f3n, f4, sk t n p + 1, (nI_succ _).symm, by omega⟩
        · exact absurd c_89 f3n
  have TO : ∀ (g : Hp) (v : Nat → Nat) (p : Nat), RS h g t n → g 1 3 = 0 → g 1 4 = h 1 4 → g 1 5 = nI p → p ≤ n → (∀ k, k < stL il → g 3 k = nI (v k)) → bnd (rdE t n p) (fun q => .inr (v, q)) = R → G X E SHP (0, 0) 37 [(0, .ref (E.1 + 1))] [] g := by
    intro g v p hS f3 f4 f5 hp hv hR
    obtain ⟨s1, s2, s3⟩ := hS
    have hs := sk_le (t := t) hp
    refine r_aload_n C dX4_readNumbers_37 rfl ?_
    refine r_cVv C F dX4_readNumbers_38 (s4_skipBlanks (t := t) s1 s2 hl f5 hp) tw_292 m4_skipBlanks (rfl) rfl (by decide) rfl (Nat.le_of_ble_eq_true rfl) ?_
    refine r_aload_n C dX4_readNumbers_41 rfl ?_
    refine r_getI C dX4_readNumbers_42 flX4_33 (rfl) rfl ?_
    refine r_aload_n C dX4_readNumbers_45 rfl ?_
    refine r_getI C dX4_readNumbers_46 flX4_18 (rfl) rfl ?_
    refine r_icmp_ge 66 C dX4_readNumbers_49 (by decide) (fun c_49 => ?_) (fun c_49 => ?_)
    · have c_49 : n ≤ sk t n p := (cLe (x := g 1 2) (c := nI (sk t n p)) (i := n) (n := sk t n p) s2 rfl (by omega) (by omega)).mp c_49
      refine r_aload_n C dX4_readNumbers_66 rfl ?_
      refine r_iconst (1) C dX4_readNumbers_67 rfl ?_
      refine r_aload_n C dX4_readNumbers_68 rfl ?_
      refine r_getI C dX4_readNumbers_69 flX4_33 (rfl) rfl ?_
      refine r_cVv C F dX4_readNumbers_72 (s4_noteFault) tw_304 m4_noteFault (rfl) rfl (by decide) rfl (Nat.le_of_ble_eq_true rfl) ?_
      first | rw [if_pos (show up g 1 5 (nI (sk t n p)) 1 3 = 0 from f3)] | skip
      refine r_aload_n C dX4_readNumbers_75 rfl ?_
      refine r_dup C dX4_readNumbers_76 rfl ?_
      refine r_getI C dX4_readNumbers_77 flX4_33 (rfl) rfl ?_
      refine r_iconst (1) C dX4_readNumbers_80 rfl ?_
      refine r_iadd C dX4_readNumbers_81 ?_
      refine r_putI C dX4_readNumbers_82 fwX4_33 (rfl) rfl ?_
      refine r_aload_n C dX4_readNumbers_85 rfl ?_
      refine r_getI C dX4_readNumbers_86 flX4_27 (rfl) rfl ?_
      refine r_if_ne 96 C dX4_readNumbers_89 (by decide) (fun c_89 => ?_) (fun c_89 => ?_)
      · refine r_iconst (0) C dX4_readNumbers_96 rfl ?_
        have er : rdE t n p = .inl (sk t n p, 1) := if_neg (fun z => by omega)
        rw [er] at hR
        have hR : Sum.inl (sk t n p, 1) = R := hR
        subst hR
        exact r_zret C F dX4_readNumbers_97 rfl ⟨⟨s1, s2, fun a h1 h2 => by rw [up_row _ _ _ _ h1, up_row _ _ _ _ h1, up_row _ _ _ _ h1, up_row _ _ _ _ h1]; exact s3 a h1 h2⟩, rfl, rfl, (show ¬ (1 : Int32) = 0 by decide), rfl, sk t n p + 1, (nI_succ _).symm, by omega⟩
      · exact absurd (show (1 : Int32) = 0 from c_89) (by decide)
    · have c_49 : ¬ n ≤ sk t n p := fun z => c_49 ((cLe (x := g 1 2) (c := nI (sk t n p)) (i := n) (n := sk t n p) s2 rfl (by omega) (by omega)).mpr z)
      refine r_aload_n C dX4_readNumbers_52 rfl ?_
      refine r_getR C dX4_readNumbers_53 flX4_9 (rfl) rfl ?_
      refine r_aload_n C dX4_readNumbers_56 rfl ?_
      refine r_getI C dX4_readNumbers_57 flX4_33 (rfl) rfl ?_
      refine r_iald (sk t n p) C dX4_readNumbers_60 (rfl) (rfl) (by omega) (by first | decide | omega) ?_
      refine r_bipush (59) C dX4_readNumbers_61 rfl ?_
      refine r_icmp_eq 75 C dX4_readNumbers_63 (by decide) (fun c_63 => ?_) (fun c_63 => ?_)
      · first | rw [if_pos (show up g 1 5 (nI (sk t n p)) 1 3 = 0 from f3)] | skip
        refine r_aload_n C dX4_readNumbers_75 rfl ?_
        refine r_dup C dX4_readNumbers_76 rfl ?_
        refine r_getI C dX4_readNumbers_77 flX4_33 (rfl) rfl ?_
        refine r_iconst (1) C dX4_readNumbers_80 rfl ?_
        refine r_iadd C dX4_readNumbers_81 ?_
        refine r_putI C dX4_readNumbers_82 fwX4_33 (rfl) rfl ?_
        refine r_aload_n C dX4_readNumbers_85 rfl ?_
        refine r_getI C dX4_readNumbers_86 flX4_27 (rfl) rfl ?_
        refine r_if_ne 96 C dX4_readNumbers_89 (by decide) (fun c_89 => ?_) (fun c_89 => ?_)
        · exact absurd f3 c_89
        · refine r_iconst (1) C dX4_readNumbers_92 rfl ?_
          refine r_goto 97 C dX4_readNumbers_93 (by decide) ?_
          have er : rdE t n p = .inr (sk t n p + 1) := if_pos ⟨by omega, by have c63 : g 2 (sk t n p) = 59 := c_63; rw [s1] at c63; exact c63⟩
          rw [er] at hR
          have hR : Sum.inr (v, sk t n p + 1) = R := hR
          subst hR
          exact r_zret C F dX4_readNumbers_97 rfl ⟨⟨s1, s2, fun a h1 h2 => by rw [up_row _ _ _ _ h1, up_row _ _ _ _ h1]; exact s3 a h1 h2⟩, rfl, f3, f4, (nI_succ _).symm, (by show sk t n p + 1 ≤ n; omega), hv⟩
      · refine r_aload_n C dX4_readNumbers_66 rfl ?_
        refine r_iconst (1) C dX4_readNumbers_67 rfl ?_
        refine r_aload_n C dX4_readNumbers_68 rfl ?_
        refine r_getI C dX4_readNumbers_69 flX4_33 (rfl) rfl ?_
        refine r_cVv C F dX4_readNumbers_72 (s4_noteFault) tw_304 m4_noteFault (rfl) rfl (by decide) rfl (Nat.le_of_ble_eq_true rfl) ?_
        first | rw [if_pos (show up g 1 5 (nI (sk t n p)) 1 3 = 0 from f3)] | skip
        refine r_aload_n C dX4_readNumbers_75 rfl ?_
        refine r_dup C dX4_readNumbers_76 rfl ?_
        refine r_getI C dX4_readNumbers_77 flX4_33 (rfl) rfl ?_
        refine r_iconst (1) C dX4_readNumbers_80 rfl ?_
        refine r_iadd C dX4_readNumbers_81 ?_
        refine r_putI C dX4_readNumbers_82 fwX4_33 (rfl) rfl ?_
        refine r_aload_n C dX4_readNumbers_85 rfl ?_
        refine r_getI C dX4_readNumbers_86 flX4_27 (rfl) rfl ?_
        refine r_if_ne 96 C dX4_readNumbers_89 (by decide) (fun c_89 => ?_) (fun c_89 => ?_)
        · refine r_iconst (0) C dX4_readNumbers_96 rfl ?_
          have er : rdE t n p = .inl (sk t n p, 1) := if_neg (fun z => c_63 (show g 2 (sk t n p) = 59 by rw [s1]; exact z.2))
          rw [er] at hR
          have hR : Sum.inl (sk t n p, 1) = R := hR
          subst hR
          exact r_zret C F dX4_readNumbers_97 rfl ⟨⟨s1, s2, fun a h1 h2 => by rw [up_row _ _ _ _ h1, up_row _ _ _ _ h1, up_row _ _ _ _ h1, up_row _ _ _ _ h1]; exact s3 a h1 h2⟩, rfl, rfl, (show ¬ (1 : Int32) = 0 by decide), rfl, sk t n p + 1, (nI_succ _).symm, by omega⟩
        · exact absurd (show (1 : Int32) = 0 from c_89) (by decide)
  have ER : ∀ (g : Hp) (e : Nat × Nat) (p i : Nat), RS h g t n → g 1 3 = nI e.2 → ¬ g 1 3 = 0 → g 1 4 = nI e.1 → g 1 5 = nI p → p ≤ n → R = .inl e → G X E SHP (0, 0) 2 [(0, .ref (E.1 + 1)), (1, .ref (E.2.2.2 il)), (2, .ref (E.2.2.2 im)), (3, .int (nI i))] [] g := by
    intro g e p i hS f3 f3n f4 f5 hp hR
    refine r_iload_n C dX4_readNumbers_2 rfl ?_
    refine r_aload_n C dX4_readNumbers_3 rfl ?_
    refine r_tlen C dX4_readNumbers_4 (hil) ?_
    refine r_icmp_ge 37 C dX4_readNumbers_5 (by decide) (fun c_5 => ?_) (fun c_5 => ?_)
    · exact (TE g e p hS f3 f3n f4 f5 hp hR).sub ⟨rfl, trivial⟩
    · refine r_aload_n C dX4_readNumbers_8 rfl ?_
      refine r_getI C dX4_readNumbers_9 flX4_27 (rfl) rfl ?_
      refine r_if_ne 37 C dX4_readNumbers_12 (by decide) (fun c_12 => ?_) (fun c_12 => ?_)
      · exact (TE g e p hS f3 f3n f4 f5 hp hR).sub ⟨rfl, trivial⟩
      · exact absurd c_12 f3n
  have Lp : ∀ i, i ≤ stL il → ∀ (g : Hp) (v : Nat → Nat) (p : Nat), RS h g t n → g 1 3 = 0 → g 1 4 = h 1 4 → g 1 5 = nI p → p ≤ n → (∀ k, k < i → g 3 k = nI (v k)) → rdR t n lo hi (stL il - i) i v p = R → G X E SHP (0, 0) 2 [(0, .ref (E.1 + 1)), (1, .ref (E.2.2.2 il)), (2, .ref (E.2.2.2 im)), (3, .int (nI i))] [] g := by
    refine loopN (stL il) _ (fun i hi' ih g v p hS f3 f4 f5 hp hv hR => ?_)
    obtain ⟨s1, s2, s3⟩ := id hS
    have hs := sk_le (t := t) hp
    have hdl := dg_le (t := t) hs.2
    refine r_iload_n C dX4_readNumbers_2 rfl ?_
    refine r_aload_n C dX4_readNumbers_3 rfl ?_
    refine r_tlen C dX4_readNumbers_4 (hil) ?_
    refine r_icmp_ge 37 C dX4_readNumbers_5 (by decide) (fun c_5 => ?_) (fun c_5 => ?_)
    · rw [cLe (x := nI (stL il)) (c := nI i) (i := stL il) (n := i) (rfl) (rfl) (by omega) (by omega)] at c_5
      have hi2 : i = stL il := by omega
      exact (TO g v p hS f3 f4 f5 hp (by rw [← hi2]; exact hv) (by rw [hi2, Nat.sub_self] at hR; exact hR)).sub ⟨rfl, trivial⟩
    · rw [cLe (x := nI (stL il)) (c := nI i) (i := stL il) (n := i) (rfl) (rfl) (by omega) (by omega)] at c_5
      refine r_aload_n C dX4_readNumbers_8 rfl ?_
      refine r_getI C dX4_readNumbers_9 flX4_27 (rfl) rfl ?_
      refine r_if_ne 37 C dX4_readNumbers_12 (by decide) (fun c_12 => ?_) (fun c_12 => ?_)
      · exact absurd f3 c_12
      · refine r_aload_n C dX4_readNumbers_15 rfl ?_
        refine r_getR C dX4_readNumbers_16 flX4_15 (rfl) rfl ?_
        refine r_iload_n C dX4_readNumbers_19 rfl ?_
        refine r_aload_n C dX4_readNumbers_20 rfl ?_
        refine r_aload_n C dX4_readNumbers_21 rfl ?_
        refine r_iload_n C dX4_readNumbers_22 rfl ?_
        refine r_tald (i) C dX4_readNumbers_23 (hil) (rfl) (by omega) ?_
        refine r_aload_n C dX4_readNumbers_24 rfl ?_
        refine r_iload_n C dX4_readNumbers_25 rfl ?_
        refine r_tald (i) C dX4_readNumbers_26 (him) (rfl) (by omega) ?_
        rw [hlo i (by omega), hhi i (by omega)]
        refine r_cVi C F dX4_readNumbers_27 (s4_readNumber (lo := lo i) (hi := hi i) s2 hl f5 hp (hb i).1 (hb i).2) tw_316 m4_readNumber (rfl) rfl (by decide) rfl (Nat.le_of_ble_eq_true rfl) ?_
        rw [s1]
        refine r_iast (i) C dX4_readNumbers_30 (rfl) (rfl) (by omega) (by first | decide | omega) ?_
        refine r_inc (1) C dX4_readNumbers_31 rfl (by decide) rfl rfl ?_
        refine r_goto 2 C dX4_readNumbers_34 (by decide) ?_
        have hR2 : bnd (rdN t n (lo i) (hi i) p) (fun a => rdR t n lo hi (stL il - (i + 1)) (i + 1) (fun k => if k = i then a.1 else v k) a.2) = R := by rw [← hR, show stL il - i = (stL il - (i + 1)) + 1 by omega]; rfl
        cases hr : rdN t n (lo i) (hi i) p with
        | inl e =>
          rw [hr] at hR2
          have hR2 : Sum.inl e = R := hR2
          rw [show rnH (up g 1 5 (nI (sk t n p + dg t n (sk t n p)))) (Sum.inl e) = up (up (up g 1 5 (nI (sk t n p + dg t n (sk t n p)))) 1 3 (nI e.2)) 1 4 (nI e.1) from if_pos f3]
          exact (ER (up (up (up (up g 1 5 (nI (sk t n p + dg t n (sk t n p)))) 1 3 (nI e.2)) 1 4 (nI e.1)) 3 i (nI (vl t (sk t n p) (dg t n (sk t n p))))) e (sk t n p + dg t n (sk t n p)) (i + 1) ⟨s1, s2, fun a h1 h2 => by rw [up_row _ _ _ _ h2, up_row _ _ _ _ h1, up_row _ _ _ _ h1, up_row _ _ _ _ h1]; exact s3 a h1 h2⟩ rfl (nI_12 (rdN_bad hr)) rfl rfl hdl hR2.symm).sub ⟨rfl, rfl, rfl, by rw [nI_succ]; rfl, trivial⟩
        | inr a =>
          rw [hr] at hR2
          obtain ⟨y1, y2⟩ := rdN_val hr
          have hR2 : rdR t n lo hi (stL il - (i + 1)) (i + 1) (fun k => if k = i then a.1 else v k) a.2 = R := hR2
          rw [← y1, ← y2]
          rw [← y2] at hdl
          refine (ih (by omega) (up (up g 1 5 (nI a.2)) 3 i (nI a.1)) (fun k => if k = i then a.1 else v k) a.2 ⟨s1, s2, fun b h1 h2 => by rw [up_row _ _ _ _ h2, up_row _ _ _ _ h1]; exact s3 b h1 h2⟩ f3 f4 rfl hdl (fun k hk => ?_) hR2).sub ⟨rfl, rfl, rfl, by rw [nI_succ]; rfl, trivial⟩
          rw [up_if]
          by_cases c : k = i
          · rw [if_pos c, if_pos c]
          · rw [if_neg c, if_neg c]; exact hv k (by omega)
  refine r_iconst (0) C dX4_readNumbers_0 rfl ?_
  refine r_istore_n C dX4_readNumbers_1 (by decide) rfl ?_
  exact (Lp 0 (Nat.zero_le _) h (fun _ => 0) p ⟨ht, hn, fun _ _ _ => rfl⟩ h3 rfl hx hp (fun k hk => absurd hk (Nat.not_lt_zero k)) (by rw [Nat.sub_zero]; exact hR)).sub ⟨rfl, rfl, rfl, rfl, trivial⟩
