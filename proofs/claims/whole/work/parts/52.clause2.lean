variable {l : Launch} {E : Ev} {h : Hp}
theorem CH_cg {g : Hp} {o : Nat} {D : HDt} (q : CHl h o D) (e : ∀ a, o ≤ a → a ≤ o + 7 → g a = h a) : CHl g o D := by
  unfold CHl at *
  rw [e o (by omega) (by omega), e (o + 1) (by omega) (by omega), e (o + 2) (by omega) (by omega), e (o + 3) (by omega) (by omega), e (o + 4) (by omega) (by omega), e (o + 5) (by omega) (by omega), e (o + 6) (by omega) (by omega), e (o + 7) (by omega) (by omega)]
  exact q
def lH (_ : Nat) : Nat := 0
def bH (k : Nat) : Nat := if k = 0 then 5 else 3
def lL (k : Nat) : Nat := if k = 1 then 1 else 0
def bL (k : Nat) : Nat := if k = 0 then 2 else if k = 1 then 20 else 15
def lJ (k : Nat) : Nat := if k = 0 then 0 else 1
def bJ (k : Nat) : Nat := if k = 0 then 3 else 30
theorem bnd_H (k : Nat) : lH k ≤ 100 ∧ bH k ≤ 100 := by unfold lH bH; split <;> omega
theorem bnd_L (k : Nat) : lL k ≤ 100 ∧ bL k ≤ 100 := by unfold lL bL; (repeat' split) <;> omega
theorem bnd_J (k : Nat) : lJ k ≤ 100 ∧ bJ k ≤ 100 := by unfold lJ bJ; split <;> omega
theorem two {P : Nat → Prop} (a : P 0) (b : P 1) : ∀ k, k < 2 → P k
  | 0, _ => a
  | 1, _ => b
theorem three {P : Nat → Prop} (a : P 0) (b : P 1) (c : P 2) : ∀ k, k < 3 → P k
  | 0, _ => a
  | 1, _ => b
  | 2, _ => c
theorem clH_R (t : Nat → Int32) (n p : Nat) : clH t n p = bnd (rdR t n lH bH 2 0 (fun _ => 0) p) fun x => .inr ((x.1 0, x.1 1), x.2) := by
  show bnd (rdN t n 0 5 p) _ = bnd (bnd (rdN t n 0 5 p) fun a => bnd (rdN t n 0 3 a.2) _) _
  cases rdN t n 0 5 p with
  | inl e => rfl
  | inr a =>
    show bnd (rdN t n 0 3 a.2) _ = bnd (bnd (rdN t n 0 3 a.2) _) _
    cases rdN t n 0 3 a.2 with
    | inl e => rfl
    | inr b =>
      show bnd (rdE t n b.2) _ = bnd (bnd (rdE t n b.2) _) _
      cases rdE t n b.2 <;> rfl
theorem clJ_R (t : Nat → Int32) (n p : Nat) : clJ t n p = bnd (rdR t n lJ bJ 2 0 (fun _ => 0) p) fun x => .inr ((x.1 0, x.1 1), x.2) := by
  show bnd (rdN t n 0 3 p) _ = bnd (bnd (rdN t n 0 3 p) fun a => bnd (rdN t n 1 30 a.2) _) _
  cases rdN t n 0 3 p with
  | inl e => rfl
  | inr a =>
    show bnd (rdN t n 1 30 a.2) _ = bnd (bnd (rdN t n 1 30 a.2) _) _
    cases rdN t n 1 30 a.2 with
    | inl e => rfl
    | inr b =>
      show bnd (rdE t n b.2) _ = bnd (bnd (rdE t n b.2) _) _
      cases rdE t n b.2 <;> rfl
theorem clL_R (t : Nat → Int32) (n p : Nat) : clL t n p = bnd (rdR t n lL bL 3 0 (fun _ => 0) p) fun x => .inr ((x.1 0, x.1 1, x.1 2), x.2) := by
  show bnd (rdN t n 0 2 p) _ = bnd (bnd (rdN t n 0 2 p) fun a => bnd (rdN t n 1 20 a.2) _) _
  cases rdN t n 0 2 p with
  | inl e => rfl
  | inr a =>
    show bnd (rdN t n 1 20 a.2) _ = bnd (bnd (rdN t n 1 20 a.2) fun b => bnd (rdN t n 0 15 b.2) _) _
    cases rdN t n 1 20 a.2 with
    | inl e => rfl
    | inr b =>
      show bnd (rdN t n 0 15 b.2) _ = bnd (bnd (rdN t n 0 15 b.2) _) _
      cases rdN t n 0 15 b.2 with
      | inl e => rfl
      | inr c =>
        show bnd (rdE t n c.2) _ = bnd (bnd (rdE t n c.2) _) _
        cases rdE t n c.2 <;> rfl
theorem fwF_le (x : Int32) (hh : Bool) (D : HDt) : fwF x hh D ≤ 3 := by
  unfold fwF
  repeat' split
  all_goals decide
theorem fwF_0 {x : Int32} {hh : Bool} {D : HDt} (q : nI (fwF x hh D) = 0) : (x = 104 ∧ hh = false) ∨ (x = 108 ∧ hh = true ∧ ¬ dL D = 6) ∨ (x = 106 ∧ hh = true ∧ ¬ dJ D = 6) := by
  have q := nI_z (by have := fwF_le x hh D; omega) q
  unfold fwF at q
  by_cases c1 : x = 104
  · rw [if_pos c1] at q
    cases hh
    · exact Or.inl ⟨c1, rfl⟩
    · cases q
  · rw [if_neg c1] at q
    cases hh
    · cases q
    · rw [if_neg (by decide)] at q
      by_cases c2 : x = 108
      · rw [if_pos c2] at q
        refine Or.inr (Or.inl ⟨c2, rfl, fun z => ?_⟩)
        rw [if_pos z] at q
        cases q
      · rw [if_neg c2] at q
        by_cases c3 : x = 106
        · rw [if_pos c3] at q
          refine Or.inr (Or.inr ⟨c3, rfl, fun z => ?_⟩)
          rw [if_pos z] at q
          cases q
        · rw [if_neg c3] at q
          cases q
theorem fwF_n {t : Nat → Int32} {n q : Nat} {hh : Bool} {D : HDt} (z : ¬ nI (fwF (t q) hh D) = 0) : clzF t n q hh D = .inl (q, fwF (t q) hh D) := by
  have z : ¬ fwF (t q) hh D = 0 := fun y => z (by rw [y]; rfl)
  unfold fwF at z ⊢
  unfold clzF
  by_cases c1 : t q = 104
  · cases hh
    · simp [c1] at z
    · simp [c1]
  · cases hh
    · simp [c1]
    · by_cases c2 : t q = 108
      · by_cases c4 : dL D = 6
        · simp [c2, c4, bnd]
        · simp [c2, c4] at z
      · by_cases c3 : t q = 106
        · by_cases c4 : dJ D = 6
          · simp [c3, c4, bnd]
          · simp [c3, c4] at z
        · simp [c1, c2, c3]
def QC (h : Hp) (t : Nat → Int32) (n o : Nat) (R : Rd ((Bool × HDt) × Nat)) : Pst := fun v g => v = none ∧ g 2 = t ∧ g 1 2 = nI n ∧ (∀ a, a ≠ 1 → a ≠ 3 → a < o ∨ o + 7 < a → g a = h a) ∧ match R with
  | .inl e => g 1 3 = nI e.2 ∧ ¬ g 1 3 = 0 ∧ g 1 4 = nI e.1 ∧ ∃ p, g 1 5 = nI p ∧ p ≤ 201
  | .inr x => g 1 3 = 0 ∧ g 1 4 = h 1 4 ∧ g 1 5 = nI x.2 ∧ x.2 ≤ n ∧ g o 0 = b01 x.1.1 ∧ CHl g o x.1.2
set_option maxHeartbeats 4000000 in
theorem s4_readClause {o : Nat} {D : HDt} (hO : isH o) (hH : CHl h o D) {t : Nat → Int32} {n q : Nat} {hh : Bool} (ho : 4 ≤ o) (hb : h o 0 = b01 hh) (ht : h 2 = t) (hn : h 1 2 = nI n) (hl : n ≤ 200) (h3 : h 1 3 = 0) (hx : h 1 5 = nI q) (hp : q < n) : Sp l E SHP 3 M4_readClause [.ref (E.1 + 1), .ref (E.1 + o)] h (QC h t n o (clzF t n q hh D)) := by
  refine Sp.of (by decide) (Nat.le_of_ble_eq_true rfl) (fun X C F => ?_)
  have C : Ok X E RX4 cX4_readClause 4 := C
  have F : Fn X l E SHP 3 none (QC h t n o (clzF t n q hh D)) := F
  show G X E SHP (0, 0) 0 [(0, .ref (E.1 + 1)), (1, .ref (E.1 + o))] [] h
  obtain ⟨okd, e1, e2, e3, e4, eL, eJ, eB, eF⟩ := id hH
  obtain ⟨o1, o2, o3, o4, o5, o6⟩ := id okd
  refine r_aload_n C dX4_readClause_0 rfl ?_
  refine r_getR C dX4_readClause_1 flX4_9 (rfl) rfl ?_
  refine r_aload_n C dX4_readClause_4 rfl ?_
  refine r_getI C dX4_readClause_5 flX4_33 (rfl) rfl ?_
  refine r_iald (q) C dX4_readClause_8 (rfl) (hx) (by omega) (by first | decide | omega) ?_
  rw [ht]
  refine r_istore_n C dX4_readClause_9 (by decide) rfl ?_
  refine r_aload_n C dX4_readClause_10 rfl ?_
  refine r_aload_n C dX4_readClause_11 rfl ?_
  refine r_iload_n C dX4_readClause_12 rfl ?_
  refine r_cVi C F dX4_readClause_13 (s4_faultOfWord hO hH hb) tw_300 m4_faultOfWord (rfl) rfl (by decide) rfl (Nat.le_of_ble_eq_true rfl) ?_
  refine r_istore_n C dX4_readClause_16 (by decide) rfl ?_
  refine r_iload_n C dX4_readClause_17 rfl ?_
  refine r_if_eq 31 C dX4_readClause_18 (by decide) (fun c_18 => ?_) (fun c_18 => ?_)
  · show G X E SHP (0, 0) 31 _ [] h
    refine r_aload_n C dX4_readClause_31 rfl ?_
    refine r_dup C dX4_readClause_32 rfl ?_
    refine r_getI C dX4_readClause_33 flX4_33 (rfl) rfl ?_
    refine r_iconst (1) C dX4_readClause_36 rfl ?_
    refine r_iadd C dX4_readClause_37 ?_
    refine r_putI C dX4_readClause_38 fwX4_33 (rfl) rfl ?_
    rw [show h 1 5 + 1 = nI (q + 1) by rw [hx]; exact (nI_succ _).symm]
    refine r_iload_n C dX4_readClause_41 rfl ?_
    rcases fwF_0 c_18 with ⟨hx1, hx2⟩ | ⟨hx1, hx2, hx3⟩ | ⟨hx1, hx2, hx3⟩
    · rw [hx1]
      refine r_tsw_in 76 C dX4_readClause_42 (by decide) (by decide) rfl (by decide) ?_
      refine r_aload_n C dX4_readClause_76 rfl ?_
      refine r_gets 0 C dX4_readClause_77 (by decide) rfl rfl ?_
      refine r_gets 1 C dX4_readClause_80 (by decide) rfl rfl ?_
      refine r_callV C F dX4_readClause_83 (s4_readNumbers (t := t) (p := q + 1) (il := 0) (im := 1) (lo := lH) (hi := bH) (R := rdR t n lH bH 2 0 (fun _ => 0) (q + 1)) ht hn hl h3 rfl (by omega) (by decide) (by decide) rfl (by decide) (two rfl rfl) (two rfl rfl) bnd_H rfl) tw_312 m4_readNumbers (rfl) rfl (by decide) rfl (Nat.le_of_ble_eq_true rfl) (fun v g q1 => ?_)
      obtain ⟨⟨s1, s2, s3⟩, qq⟩ := q1
      cases hr : rdR t n lH bH 2 0 (fun _ => 0) (q + 1) with
      | inl e =>
        rw [hr] at qq
        obtain ⟨rfl, f3, f3n, f4, p', f5, hp'⟩ := qq
        have hcz : clzF t n q hh D = .inl e := by unfold clzF; rw [if_pos hx1, hx2, if_neg (by decide), clH_R]; rw [hr]; rfl
        show G X E SHP (0, 0) 86 _ [.int 0] g
        refine r_if_eq 178 C dX4_readClause_86 (by decide) (fun c_86 => ?_) (fun c_86 => ?_)
        · refine r_vret C F dX4_readClause_178 ⟨rfl, s1, s2, fun a h1 h2 h4 => ?_, ?_⟩
          · rw [s3 a h1 h2, up_row _ _ _ _ h1]
          · rw [hcz]
            exact ⟨f3, f3n, f4, p', f5, hp'⟩
        · exact absurd rfl c_86
      | inr y =>
        rw [hr] at qq
        obtain ⟨rfl, f3, f4, f5, f8, f6⟩ := qq
        have hcz : clzF t n q hh D = .inr ((true, setH D (y.1 0) (y.1 1)), y.2) := by unfold clzF; rw [if_pos hx1, hx2, if_neg (by decide), clH_R]; rw [hr]; rfl
        have hin : y.1 0 ≤ 5 ∧ y.1 1 ≤ 3 := clH_in (t := t) (n := n) (p := q + 1) (x := ((y.1 0, y.1 1), y.2)) (by rw [clH_R, hr]; rfl)
        have hH2 : CHl g o D := CH_cg hH (fun a h1 h2 => by rw [s3 a (by omega) (by omega), up_row _ _ _ _ (by omega)])
        show G X E SHP (0, 0) 86 _ [.int 1] g
        refine r_if_eq 178 C dX4_readClause_86 (by decide) (fun c_86 => ?_) (fun c_86 => ?_)
        · exact absurd c_86 (by decide)
        · refine r_aload_n C dX4_readClause_89 rfl ?_
          refine r_aload_n C dX4_readClause_90 rfl ?_
          refine r_getR C dX4_readClause_91 flX4_15 (rfl) rfl ?_
          refine r_iconst (0) C dX4_readClause_94 rfl ?_
          refine r_iald (0) C dX4_readClause_95 (rfl) (rfl) (by decide) (by first | decide | omega) ?_
          refine r_aload_n C dX4_readClause_96 rfl ?_
          refine r_getR C dX4_readClause_97 flX4_15 (rfl) rfl ?_
          refine r_iconst (1) C dX4_readClause_100 rfl ?_
          refine r_iald (1) C dX4_readClause_101 (rfl) (rfl) (by decide) (by first | decide | omega) ?_
          rw [f6 0 (by decide), f6 1 (by decide)]
          refine r_callV C F dX4_readClause_102 (s0_open hO hH2 (u := y.1 0) (v := y.1 1) (okD_setH okd hin.1 hin.2)) tw_323 m0_open (hO.1) rfl (by decide) rfl (Nat.le_of_ble_eq_true rfl) (fun v2 g2 q2 => ?_)
          obtain ⟨rfl, z1, z2, z3⟩ := q2
          show G X E SHP (0, 0) 105 _ [] g2
          refine r_goto 178 C dX4_readClause_105 (by decide) ?_
          refine r_vret C F dX4_readClause_178 ⟨rfl, ?_, ?_, fun a h1 h2 h4 => ?_, ?_⟩
          · rw [z3 2 (by omega)]; exact s1
          · rw [z3 1 (by omega)]; exact s2
          · rw [z3 a (by omega), s3 a h1 h2, up_row _ _ _ _ h1]
          · rw [hcz]
            refine ⟨?_, ?_, ?_, f8, ?_, z2⟩
            · rw [z3 1 (by omega)]; exact f3
            · rw [z3 1 (by omega)]; exact f4
            · rw [z3 1 (by omega)]; exact f5
            · exact z1
    · rw [hx1]
      refine r_tsw_in 108 C dX4_readClause_42 (by decide) (by decide) rfl (by decide) ?_
      refine r_aload_n C dX4_readClause_108 rfl ?_
      refine r_gets 2 C dX4_readClause_109 (by decide) rfl rfl ?_
      refine r_gets 3 C dX4_readClause_112 (by decide) rfl rfl ?_
      refine r_callV C F dX4_readClause_115 (s4_readNumbers (t := t) (p := q + 1) (il := 2) (im := 3) (lo := lL) (hi := bL) (R := rdR t n lL bL 3 0 (fun _ => 0) (q + 1)) ht hn hl h3 rfl (by omega) (by decide) (by decide) rfl (by decide) (three rfl rfl rfl) (three rfl rfl rfl) bnd_L rfl) tw_312 m4_readNumbers (rfl) rfl (by decide) rfl (Nat.le_of_ble_eq_true rfl) (fun v g q1 => ?_)
      obtain ⟨⟨s1, s2, s3⟩, qq⟩ := q1
      cases hr : rdR t n lL bL 3 0 (fun _ => 0) (q + 1) with
      | inl e =>
        rw [hr] at qq
        obtain ⟨rfl, f3, f3n, f4, p', f5, hp'⟩ := qq
        have hcz : clzF t n q hh D = .inl e := by unfold clzF; rw [hx1, if_neg (by decide), hx2, if_neg (by decide), if_pos rfl, if_neg hx3, clL_R]; rw [hr]; rfl
        show G X E SHP (0, 0) 118 _ [.int 0] g
        refine r_if_eq 178 C dX4_readClause_118 (by decide) (fun c_118 => ?_) (fun c_118 => ?_)
        · refine r_vret C F dX4_readClause_178 ⟨rfl, s1, s2, fun a h1 h2 h4 => ?_, ?_⟩
          · rw [s3 a h1 h2, up_row _ _ _ _ h1]
          · rw [hcz]
            exact ⟨f3, f3n, f4, p', f5, hp'⟩
        · exact absurd rfl c_118
      | inr y =>
        rw [hr] at qq
        obtain ⟨rfl, f3, f4, f5, f8, f6⟩ := qq
        have hcz : clzF t n q hh D = .inr ((true, addL D (y.1 0) (y.1 1) (y.1 2)), y.2) := by unfold clzF; rw [hx1, if_neg (by decide), hx2, if_neg (by decide), if_pos rfl, if_neg hx3, clL_R]; rw [hr]; rfl
        have hin : y.1 0 ≤ 2 ∧ 1 ≤ y.1 1 ∧ y.1 1 ≤ 20 ∧ y.1 2 ≤ 15 := clL_in (t := t) (n := n) (p := q + 1) (x := ((y.1 0, y.1 1, y.1 2), y.2)) (by rw [clL_R, hr]; rfl)
        have hH2 : CHl g o D := CH_cg hH (fun a h1 h2 => by rw [s3 a (by omega) (by omega), up_row _ _ _ _ (by omega)])
        show G X E SHP (0, 0) 118 _ [.int 1] g
        refine r_if_eq 178 C dX4_readClause_118 (by decide) (fun c_118 => ?_) (fun c_118 => ?_)
        · exact absurd c_118 (by decide)
        · refine r_aload_n C dX4_readClause_121 rfl ?_
          refine r_aload_n C dX4_readClause_122 rfl ?_
          refine r_getR C dX4_readClause_123 flX4_15 (rfl) rfl ?_
          refine r_iconst (0) C dX4_readClause_126 rfl ?_
          refine r_iald (0) C dX4_readClause_127 (rfl) (rfl) (by decide) (by first | decide | omega) ?_
          refine r_aload_n C dX4_readClause_128 rfl ?_
          refine r_getR C dX4_readClause_129 flX4_15 (rfl) rfl ?_
          refine r_iconst (1) C dX4_readClause_132 rfl ?_
          refine r_iald (1) C dX4_readClause_133 (rfl) (rfl) (by decide) (by first | decide | omega) ?_
          refine r_aload_n C dX4_readClause_134 rfl ?_
          refine r_getR C dX4_readClause_135 flX4_15 (rfl) rfl ?_
          refine r_iconst (2) C dX4_readClause_138 rfl ?_
          refine r_iald (2) C dX4_readClause_139 (rfl) (rfl) (by decide) (by first | decide | omega) ?_
          rw [f6 0 (by decide), f6 1 (by decide), f6 2 (by decide)]
          refine r_callV C F dX4_readClause_140 (s0_addLord hO hH2 (b := y.1 0) (s := y.1 1) (t := y.1 2) (okD_addL okd hx3 hin) (by omega) (by have := hin.1; omega) hin.2.2.2) tw_331 m0_addLord (hO.1) rfl (by decide) rfl (Nat.le_of_ble_eq_true rfl) (fun v2 g2 q2 => ?_)
          obtain ⟨rfl, z1, z2, z3⟩ := q2
          show G X E SHP (0, 0) 143 _ [] g2
          refine r_goto 178 C dX4_readClause_143 (by decide) ?_
          refine r_vret C F dX4_readClause_178 ⟨rfl, ?_, ?_, fun a h1 h2 h4 => ?_, ?_⟩
          · rw [z3 2 (by omega)]; exact s1
          · rw [z3 1 (by omega)]; exact s2
          · rw [z3 a (by omega), s3 a h1 h2, up_row _ _ _ _ h1]
          · rw [hcz]
            refine ⟨?_, ?_, ?_, f8, ?_, z2⟩
            · rw [z3 1 (by omega)]; exact f3
            · rw [z3 1 (by omega)]; exact f4
            · rw [z3 1 (by omega)]; exact f5
            · rw [z1, s3 o (by omega) (by omega), up_row _ _ _ _ (by omega), hb, hx2]
    · rw [hx1]
      refine r_tsw_in 146 C dX4_readClause_42 (by decide) (by decide) rfl (by decide) ?_
      refine r_aload_n C dX4_readClause_146 rfl ?_
      refine r_gets 4 C dX4_readClause_147 (by decide) rfl rfl ?_
      refine r_gets 5 C dX4_readClause_150 (by decide) rfl rfl ?_
      refine r_callV C F dX4_readClause_153 (s4_readNumbers (t := t) (p := q + 1) (il := 4) (im := 5) (lo := lJ) (hi := bJ) (R := rdR t n lJ bJ 2 0 (fun _ => 0) (q + 1)) ht hn hl h3 rfl (by omega) (by decide) (by decide) rfl (by decide) (two rfl rfl) (two rfl rfl) bnd_J rfl) tw_312 m4_readNumbers (rfl) rfl (by decide) rfl (Nat.le_of_ble_eq_true rfl) (fun v g q1 => ?_)
      obtain ⟨⟨s1, s2, s3⟩, qq⟩ := q1
      cases hr : rdR t n lJ bJ 2 0 (fun _ => 0) (q + 1) with
      | inl e =>
        rw [hr] at qq
        obtain ⟨rfl, f3, f3n, f4, p', f5, hp'⟩ := qq
        have hcz : clzF t n q hh D = .inl e := by unfold clzF; rw [hx1, if_neg (by decide), hx2, if_neg (by decide), if_neg (by decide), if_pos rfl, if_neg hx3, clJ_R]; rw [hr]; rfl
        show G X E SHP (0, 0) 156 _ [.int 0] g
        refine r_if_eq 178 C dX4_readClause_156 (by decide) (fun c_156 => ?_) (fun c_156 => ?_)
        · refine r_vret C F dX4_readClause_178 ⟨rfl, s1, s2, fun a h1 h2 h4 => ?_, ?_⟩
          · rw [s3 a h1 h2, up_row _ _ _ _ h1]
          · rw [hcz]
            exact ⟨f3, f3n, f4, p', f5, hp'⟩
        · exact absurd rfl c_156
      | inr y =>
        rw [hr] at qq
        obtain ⟨rfl, f3, f4, f5, f8, f6⟩ := qq
        have hcz : clzF t n q hh D = .inr ((true, addJ D (y.1 0) (y.1 1)), y.2) := by unfold clzF; rw [hx1, if_neg (by decide), hx2, if_neg (by decide), if_neg (by decide), if_pos rfl, if_neg hx3, clJ_R]; rw [hr]; rfl
        have hin : y.1 0 ≤ 3 ∧ 1 ≤ y.1 1 ∧ y.1 1 ≤ 30 := clJ_in (t := t) (n := n) (p := q + 1) (x := ((y.1 0, y.1 1), y.2)) (by rw [clJ_R, hr]; rfl)
        have hH2 : CHl g o D := CH_cg hH (fun a h1 h2 => by rw [s3 a (by omega) (by omega), up_row _ _ _ _ (by omega)])
        show G X E SHP (0, 0) 156 _ [.int 1] g
        refine r_if_eq 178 C dX4_readClause_156 (by decide) (fun c_156 => ?_) (fun c_156 => ?_)
        · exact absurd c_156 (by decide)
        · refine r_aload_n C dX4_readClause_159 rfl ?_
          refine r_aload_n C dX4_readClause_160 rfl ?_
          refine r_getR C dX4_readClause_161 flX4_15 (rfl) rfl ?_
          refine r_iconst (0) C dX4_readClause_164 rfl ?_
          refine r_iald (0) C dX4_readClause_165 (rfl) (rfl) (by decide) (by first | decide | omega) ?_
          refine r_aload_n C dX4_readClause_166 rfl ?_
          refine r_getR C dX4_readClause_167 flX4_15 (rfl) rfl ?_
          refine r_iconst (1) C dX4_readClause_170 rfl ?_
          refine r_iald (1) C dX4_readClause_171 (rfl) (rfl) (by decide) (by first | decide | omega) ?_
          rw [f6 0 (by decide), f6 1 (by decide)]
          refine r_callV C F dX4_readClause_172 (s0_addJoke hO hH2 (k := y.1 0) (f := y.1 1) (okD_addJ okd hx3 hin) (by omega) (by have := hin.1; omega)) tw_339 m0_addJoke (hO.1) rfl (by decide) rfl (Nat.le_of_ble_eq_true rfl) (fun v2 g2 q2 => ?_)
          obtain ⟨rfl, z1, z2, z3⟩ := q2
          show G X E SHP (0, 0) 175 _ [] g2
          refine r_goto 178 C dX4_readClause_175 (by decide) ?_
          refine r_vret C F dX4_readClause_178 ⟨rfl, ?_, ?_, fun a h1 h2 h4 => ?_, ?_⟩
          · rw [z3 2 (by omega)]; exact s1
          · rw [z3 1 (by omega)]; exact s2
          · rw [z3 a (by omega), s3 a h1 h2, up_row _ _ _ _ h1]
          · rw [hcz]
            refine ⟨?_, ?_, ?_, f8, ?_, z2⟩
            · rw [z3 1 (by omega)]; exact f3
            · rw [z3 1 (by omega)]; exact f4
            · rw [z3 1 (by omega)]; exact f5
            · rw [z1, s3 o (by omega) (by omega), up_row _ _ _ _ (by omega), hb, hx2]
  · refine r_aload_n C dX4_readClause_21 rfl ?_
    refine r_iload_n C dX4_readClause_22 rfl ?_
    refine r_aload_n C dX4_readClause_23 rfl ?_
    refine r_getI C dX4_readClause_24 flX4_33 (rfl) rfl ?_
    refine r_cVv C F dX4_readClause_27 (s4_noteFault) tw_304 m4_noteFault (rfl) rfl (by decide) rfl (Nat.le_of_ble_eq_true rfl) ?_
    rw [if_pos h3]
    refine r_vret C F dX4_readClause_30 ⟨rfl, ht, hn, fun a h1 h2 h4 => ?_, ?_⟩
    · rw [up_row _ _ _ _ h1, up_row _ _ _ _ h1]
    · rw [fwF_n c_18]
      exact ⟨rfl, c_18, hx, q, hx, by omega⟩
