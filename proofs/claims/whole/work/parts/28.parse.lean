variable {l : Launch} {E : Ev} {h : Hp}
/-! ===== the text ===== -/
abbrev isDg (x : Int32) : Prop := inP x 48 57
def skp (t : Nat → Int32) (n : Nat) : Nat → Nat → Nat
  | 0, p => p
  | f + 1, p => if p < n ∧ t p = 32 then skp t n f (p + 1) else p
def sk (t : Nat → Int32) (n p : Nat) : Nat := skp t n (n - p) p
def dgN (t : Nat → Int32) (n : Nat) : Nat → Nat → Nat
  | 0, _ => 0
  | f + 1, p => if p < n ∧ isDg (t p) then dgN t n f (p + 1) + 1 else 0
def dg (t : Nat → Int32) (n q : Nat) : Nat := dgN t n (n - q) q
/-- the number of the first three of f figures from q on -/
def vl (t : Nat → Int32) (q : Nat) : Nat → Nat
  | 0 => 0
  | k + 1 => if k < 3 then 10 * vl t q k + ((t (q + k)).toNatClampNeg - 48) else vl t q k
theorem skp_le {t : Nat → Int32} {n : Nat} : ∀ f p, p + f ≤ n → p ≤ skp t n f p ∧ skp t n f p ≤ n
  | 0, p, q => ⟨Nat.le_refl _, by show p ≤ n; omega⟩
  | f + 1, p, q => by
    show p ≤ (if p < n ∧ t p = 32 then skp t n f (p + 1) else p) ∧ (if p < n ∧ t p = 32 then skp t n f (p + 1) else p) ≤ n
    have := skp_le (t := t) (n := n) f (p + 1) (by omega)
    split <;> omega
theorem sk_le {t : Nat → Int32} {n p : Nat} (hp : p ≤ n) : p ≤ sk t n p ∧ sk t n p ≤ n := skp_le _ _ (by omega)
theorem dgN_le {t : Nat → Int32} {n : Nat} : ∀ f p, dgN t n f p ≤ f
  | 0, p => Nat.le_refl _
  | f + 1, p => by
    show (if p < n ∧ isDg (t p) then dgN t n f (p + 1) + 1 else 0) ≤ f + 1
    have := dgN_le (t := t) (n := n) f (p + 1)
    split <;> omega
theorem dg_le {t : Nat → Int32} {n q : Nat} (hq : q ≤ n) : q + dg t n q ≤ n := by
  have := dgN_le (t := t) (n := n) (n - q) q
  unfold dg
  omega
theorem isDg_nI {x : Int32} (q : isDg x) : ∃ d, 48 ≤ d ∧ d ≤ 57 ∧ x = nI d := by
  obtain ⟨d, hd, rfl⟩ := inP_of (n := 57) rfl (by decide) ⟨Int32.le_trans (by decide) q.1, q.2⟩
  exact ⟨d, (cLe (x := 48) (i := 48) rfl rfl (by omega) (by omega)).mp q.1, hd, rfl⟩
/-- what nextToken leaves -/
def TK (h : Hp) (q : Nat) (tok : Int32) (v f p2 : Nat) (g : Hp) : Prop := (∀ a, a ≠ 49 → g a = h a) ∧ (∀ k, ¬ (2 ≤ k ∧ k ≤ 6) → g 49 k = h 49 k) ∧ g 49 2 = nI p2 ∧ g 49 3 = nI q ∧ g 49 4 = tok ∧ g 49 5 = nI v ∧ g 49 6 = nI f
def tkT (t : Nat → Int32) (n q : Nat) : Int32 × Nat × Nat × Nat := if q = n then (-2, 0, 0, q) else if isDg (t q) then (-1, vl t q (dg t n q), dg t n q, q + dg t n q) else (t q, 0, 0, q + 1)
def vlB (t : Nat → Int32) (q : Nat) (ht : ∀ k, 0 ≤ t k) : True := trivial
theorem vl_lt {t : Nat → Int32} {q : Nat} : ∀ k, (∀ j, j < k → isDg (t (q + j))) → vl t q k < 1000 ∧ (k ≤ 3 → vl t q k < 10 ^ k)
  | 0, _ => ⟨by show 0 < 1000; decide, fun _ => by show 0 < 10 ^ 0; decide⟩
  | k + 1, hq => by
    obtain ⟨i1, i2⟩ := vl_lt (t := t) (q := q) k (fun j hj => hq j (by omega))
    obtain ⟨d, d1, d2, e⟩ := isDg_nI (hq k (by omega))
    have e2 : (t (q + k)).toNatClampNeg = d := by rw [e]; exact nI_clamp (by omega)
    show (if k < 3 then 10 * vl t q k + ((t (q + k)).toNatClampNeg - 48) else vl t q k) < 1000 ∧ (k + 1 ≤ 3 → (if k < 3 then 10 * vl t q k + ((t (q + k)).toNatClampNeg - 48) else vl t q k) < 10 ^ (k + 1))
    by_cases c : k < 3
    · rw [if_pos c, e2]
      have i3 := i2 (by omega)
      have hp : 10 ^ (k + 1) = 10 ^ k * 10 := Nat.pow_succ 10 k
      have hk : 10 ^ (k + 1) ≤ 1000 := Nat.pow_le_pow_right (n := 10) (by decide) (show k + 1 ≤ 3 by omega)
      exact ⟨by omega, fun _ => by omega⟩
    · rw [if_neg c]
      exact ⟨i1, fun z => absurd z (by omega)⟩
set_option maxHeartbeats 4000000 in
theorem s8_nextToken {n p : Nat} (hn : h 49 0 = nI n) (hn2 : n ≤ 200) (hp0 : h 49 2 = nI p) (hp : p ≤ n) : Sp l E SHP 1 M8_nextToken [.ref (E.1 + 49)] h (fun v g => v = none ∧ TK h (sk (h 50) n p) (tkT (h 50) n (sk (h 50) n p)).1 (tkT (h 50) n (sk (h 50) n p)).2.1 (tkT (h 50) n (sk (h 50) n p)).2.2.1 (tkT (h 50) n (sk (h 50) n p)).2.2.2 g) := by
  refine Sp.of (by decide) (Nat.le_of_ble_eq_true rfl) (fun X C F => ?_)
  have C : Ok X E RX8 cX8_nextToken 1 := C
  have F : Fn X l E SHP 1 none (fun v g => v = none ∧ TK h (sk (h 50) n p) (tkT (h 50) n (sk (h 50) n p)).1 (tkT (h 50) n (sk (h 50) n p)).2.1 (tkT (h 50) n (sk (h 50) n p)).2.2.1 (tkT (h 50) n (sk (h 50) n p)).2.2.2 g) := F
  show G X E SHP (0, 0) 0 [(0, .ref (E.1 + 49))] [] h
  have hsk := sk_le (t := h 50) hp
  generalize hQ : sk (h 50) n p = q at hsk
  have DG : q < n → isDg (h 50 q) → ∀ f, f ≤ n - q → (∀ m, m < f → isDg (h 50 (q + m))) → dgN (h 50) n (n - (q + f)) (q + f) + f = dg (h 50) n q → G X E SHP (0, 0) 95 [(0, .ref (E.1 + 49))] [] (up (up (up (up h 49 3 (nI q)) 49 5 (nI (vl (h 50) q f))) 49 6 (nI f)) 49 2 (nI (q + f))) := by
    intro hqn hdq
    refine loopN (n - q) _ (fun f hf ih hall hcnt => ?_)
    have hvl := (vl_lt (t := h 50) (q := q) f hall).1
    refine r_aload_n C dX8_nextToken_95 rfl ?_
    refine r_getI C dX8_nextToken_96 flX8_91 (rfl) rfl ?_
    refine r_aload_n C dX8_nextToken_99 rfl ?_
    refine r_getI C dX8_nextToken_100 flX8_87 (rfl) rfl ?_
    refine r_icmp_ge 187 C dX8_nextToken_103 (by decide) (fun c_103 => ?_) (fun c_103 => ?_)
    · rw [show (up (up (up (up h 49 3 (nI q)) 49 5 (nI (vl (h 50) q f))) 49 6 (nI f)) 49 2 (nI (q + f))) 49 0 = nI n from hn, up_self] at c_103
      rw [cLe (x := nI n) (c := nI (q + f)) (i := n) (n := q + f) (rfl) (rfl) (by omega) (by omega)] at c_103
      refine r_aload_n C dX8_nextToken_187 rfl ?_
      refine r_iconst (-1) C dX8_nextToken_188 rfl ?_
      refine r_putI C dX8_nextToken_189 fwX8_103 (rfl) rfl ?_
      refine r_goto 218 C dX8_nextToken_192 (by decide) ?_
      refine r_vret C F dX8_nextToken_218 ⟨rfl, ?_⟩
      have hff : dg (h 50) n q = f := by rw [← hcnt, show n - (q + f) = 0 by omega]; show 0 + f = f; omega
      have ht : tkT (h 50) n q = (-1, vl (h 50) q f, f, q + f) := by unfold tkT; rw [if_neg (by omega), if_pos hdq, hff]
      rw [hQ, ht]
      exact ⟨fun a ha => by rw [up_row _ _ _ _ ha, up_row _ _ _ _ ha, up_row _ _ _ _ ha, up_row _ _ _ _ ha, up_row _ _ _ _ ha], fun k hk => by rw [up_off _ _ _ _ (by omega), up_off _ _ _ _ (by omega), up_off _ _ _ _ (by omega), up_off _ _ _ _ (by omega), up_off _ _ _ _ (by omega)], by rw [up_off _ _ _ _ (by decide), up_self], by rw [up_off _ _ _ _ (by decide), up_off _ _ _ _ (by decide), up_off _ _ _ _ (by decide), up_off _ _ _ _ (by decide), up_self], by rw [up_self], by rw [up_off _ _ _ _ (by decide), up_off _ _ _ _ (by decide), up_off _ _ _ _ (by decide), up_self], by rw [up_off _ _ _ _ (by decide), up_off _ _ _ _ (by decide), up_self]⟩
    · rw [show (up (up (up (up h 49 3 (nI q)) 49 5 (nI (vl (h 50) q f))) 49 6 (nI f)) 49 2 (nI (q + f))) 49 0 = nI n from hn, up_self] at c_103
      rw [cLe (x := nI n) (c := nI (q + f)) (i := n) (n := q + f) (rfl) (rfl) (by omega) (by omega)] at c_103
      refine r_aload_n C dX8_nextToken_106 rfl ?_
      refine r_getR C dX8_nextToken_107 flX8_7 (rfl) rfl ?_
      refine r_aload_n C dX8_nextToken_110 rfl ?_
      refine r_getI C dX8_nextToken_111 flX8_91 (rfl) rfl ?_
      refine r_iald (q + f) C dX8_nextToken_114 (rfl) (up_self _ _ _ _) (by omega) (by decide) ?_
      refine r_bipush (48) C dX8_nextToken_115 rfl ?_
      refine r_bipush (57) C dX8_nextToken_117 rfl ?_
      refine r_cSi C F dX8_nextToken_119 (s8_in) tw_790 m8_in (by decide) rfl (Nat.le_of_ble_eq_true rfl) ?_
      refine r_if_eq 187 C dX8_nextToken_122 (by decide) (fun c_122 => ?_) (fun c_122 => ?_)
      · rw [bz_eq0, show (up (up (up (up h 49 3 (nI q)) 49 5 (nI (vl (h 50) q f))) 49 6 (nI f)) 49 2 (nI (q + f))) 50 (q + f) = h 50 (q + f) from rfl] at c_122
        refine r_aload_n C dX8_nextToken_187 rfl ?_
        refine r_iconst (-1) C dX8_nextToken_188 rfl ?_
        refine r_putI C dX8_nextToken_189 fwX8_103 (rfl) rfl ?_
        refine r_goto 218 C dX8_nextToken_192 (by decide) ?_
        refine r_vret C F dX8_nextToken_218 ⟨rfl, ?_⟩
        have hff : dg (h 50) n q = f := by rw [← hcnt]; rcases hz : n - (q + f) with _ | z; (show 0 + f = f; omega); (show (if q + f < n ∧ isDg (h 50 (q + f)) then _ else 0) + f = f; rw [if_neg (fun z => c_122 z.2)]; omega)
        have ht : tkT (h 50) n q = (-1, vl (h 50) q f, f, q + f) := by unfold tkT; rw [if_neg (by omega), if_pos hdq, hff]
        rw [hQ, ht]
        exact ⟨fun a ha => by rw [up_row _ _ _ _ ha, up_row _ _ _ _ ha, up_row _ _ _ _ ha, up_row _ _ _ _ ha, up_row _ _ _ _ ha], fun k hk => by rw [up_off _ _ _ _ (by omega), up_off _ _ _ _ (by omega), up_off _ _ _ _ (by omega), up_off _ _ _ _ (by omega), up_off _ _ _ _ (by omega)], by rw [up_off _ _ _ _ (by decide), up_self], by rw [up_off _ _ _ _ (by decide), up_off _ _ _ _ (by decide), up_off _ _ _ _ (by decide), up_off _ _ _ _ (by decide), up_self], by rw [up_self], by rw [up_off _ _ _ _ (by decide), up_off _ _ _ _ (by decide), up_off _ _ _ _ (by decide), up_self], by rw [up_off _ _ _ _ (by decide), up_off _ _ _ _ (by decide), up_self]⟩
      · rw [bz_ne0, show (up (up (up (up h 49 3 (nI q)) 49 5 (nI (vl (h 50) q f))) 49 6 (nI f)) 49 2 (nI (q + f))) 50 (q + f) = h 50 (q + f) from rfl] at c_122
        obtain ⟨d, hd1, hd2, hd3⟩ := isDg_nI c_122
        refine r_aload_n C dX8_nextToken_125 rfl ?_
        refine r_aload_n C dX8_nextToken_126 rfl ?_
        refine r_getI C dX8_nextToken_127 flX8_100 (rfl) rfl ?_
        refine r_iconst (3) C dX8_nextToken_130 rfl ?_
        refine r_icmp_ge 157 C dX8_nextToken_131 (by decide) (fun c_131 => ?_) (fun c_131 => ?_)
        · rw [show (up (up (up (up h 49 3 (nI q)) 49 5 (nI (vl (h 50) q f))) 49 6 (nI f)) 49 2 (nI (q + f))) 49 6 = nI f from rfl] at c_131
          rw [cLe (x := 3) (c := nI f) (i := 3) (n := f) (rfl) (rfl) (by omega) (by omega)] at c_131
          refine r_aload_n C dX8_nextToken_157 rfl ?_
          refine r_getI C dX8_nextToken_158 flX8_97 (rfl) rfl ?_
          refine r_putI C dX8_nextToken_161 fwX8_97 (rfl) rfl ?_
          refine r_aload_n C dX8_nextToken_164 rfl ?_
          refine r_dup C dX8_nextToken_165 rfl ?_
          refine r_getI C dX8_nextToken_166 flX8_100 (rfl) rfl ?_
          refine r_iconst (1) C dX8_nextToken_169 rfl ?_
          refine r_iadd C dX8_nextToken_170 ?_
          refine r_putI C dX8_nextToken_171 fwX8_100 (rfl) rfl ?_
          refine r_aload_n C dX8_nextToken_174 rfl ?_
          refine r_dup C dX8_nextToken_175 rfl ?_
          refine r_getI C dX8_nextToken_176 flX8_91 (rfl) rfl ?_
          refine r_iconst (1) C dX8_nextToken_179 rfl ?_
          refine r_iadd C dX8_nextToken_180 ?_
          refine r_putI C dX8_nextToken_181 fwX8_91 (rfl) rfl ?_
          refine r_goto 95 C dX8_nextToken_184 (by decide) ?_
          have hvs : vl (h 50) q (f + 1) = vl (h 50) q f := by
            show (if f < 3 then 10 * vl (h 50) q f + ((h 50 (q + f)).toNatClampNeg - 48) else vl (h 50) q f) = _
            rw [if_neg (by omega)]
          refine G.eq (ih (by omega) (fun m hm => by by_cases e : m = f; (rw [e]; exact c_122); exact hall m (by omega)) (by rw [← hcnt, show n - (q + f) = (n - (q + (f + 1))) + 1 by omega]; show _ = (if q + f < n ∧ isDg (h 50 (q + f)) then dgN (h 50) n (n - (q + (f + 1))) (q + f + 1) + 1 else 0) + f; rw [if_pos ⟨by omega, c_122⟩, show q + f + 1 = q + (f + 1) by omega]; omega)) rfl rfl ?_
          rw [hvs]
          refine hp_ext fun a k => ?_
          simp only [up_at]
          by_cases ca : a = 49
          · subst ca
            by_cases c2 : k = 2
            · subst c2; simp [nI_succ]; first | rfl | (rw [show q + (f + 1) = q + f + 1 by omega, nI_succ])
            · by_cases c6 : k = 6
              · subst c6; simp [nI_succ]
              · by_cases c5 : k = 5
                · subst c5; simp 
                · simp [c2, c6, c5]
          · simp [ca]
        · rw [show (up (up (up (up h 49 3 (nI q)) 49 5 (nI (vl (h 50) q f))) 49 6 (nI f)) 49 2 (nI (q + f))) 49 6 = nI f from rfl] at c_131
          rw [cLe (x := 3) (c := nI f) (i := 3) (n := f) (rfl) (rfl) (by omega) (by omega)] at c_131
          have hval : (10 : Int32) * nI (vl (h 50) q f) + h 50 (q + f) - 48 = nI (10 * vl (h 50) q f + (d - 48)) := by rw [hd3, show (10 : Int32) * nI (vl (h 50) q f) = nI (10 * vl (h 50) q f) from pk_mul 10 _, nI_add, show (48 : Int32) = nI 48 from rfl, pk_sub (by omega)]; congr 1; omega
          refine r_bipush (10) C dX8_nextToken_134 rfl ?_
          refine r_aload_n C dX8_nextToken_136 rfl ?_
          refine r_getI C dX8_nextToken_137 flX8_97 (rfl) rfl ?_
          refine r_imul C dX8_nextToken_140 ?_
          refine r_aload_n C dX8_nextToken_141 rfl ?_
          refine r_getR C dX8_nextToken_142 flX8_7 (rfl) rfl ?_
          refine r_aload_n C dX8_nextToken_145 rfl ?_
          refine r_getI C dX8_nextToken_146 flX8_91 (rfl) rfl ?_
          refine r_iald (q + f) C dX8_nextToken_149 (rfl) (up_self _ _ _ _) (by omega) (by decide) ?_
          refine r_iadd C dX8_nextToken_150 ?_
          refine r_bipush (48) C dX8_nextToken_151 rfl ?_
          refine r_isub C dX8_nextToken_153 ?_
          rw [show (up (up (up (up h 49 3 (nI q)) 49 5 (nI (vl (h 50) q f))) 49 6 (nI f)) 49 2 (nI (q + f))) 49 5 = nI (vl (h 50) q f) from rfl, show (up (up (up (up h 49 3 (nI q)) 49 5 (nI (vl (h 50) q f))) 49 6 (nI f)) 49 2 (nI (q + f))) 50 (q + f) = h 50 (q + f) from rfl, hval]
          refine r_goto 161 C dX8_nextToken_154 (by decide) ?_
          refine r_putI C dX8_nextToken_161 fwX8_97 (rfl) rfl ?_
          refine r_aload_n C dX8_nextToken_164 rfl ?_
          refine r_dup C dX8_nextToken_165 rfl ?_
          refine r_getI C dX8_nextToken_166 flX8_100 (rfl) rfl ?_
          refine r_iconst (1) C dX8_nextToken_169 rfl ?_
          refine r_iadd C dX8_nextToken_170 ?_
          refine r_putI C dX8_nextToken_171 fwX8_100 (rfl) rfl ?_
          refine r_aload_n C dX8_nextToken_174 rfl ?_
          refine r_dup C dX8_nextToken_175 rfl ?_
          refine r_getI C dX8_nextToken_176 flX8_91 (rfl) rfl ?_
          refine r_iconst (1) C dX8_nextToken_179 rfl ?_
          refine r_iadd C dX8_nextToken_180 ?_
          refine r_putI C dX8_nextToken_181 fwX8_91 (rfl) rfl ?_
          refine r_goto 95 C dX8_nextToken_184 (by decide) ?_
          have hvs : vl (h 50) q (f + 1) = 10 * vl (h 50) q f + (d - 48) := by
            show (if f < 3 then 10 * vl (h 50) q f + ((h 50 (q + f)).toNatClampNeg - 48) else vl (h 50) q f) = _
            rw [if_pos (by omega), hd3, show (nI d).toNatClampNeg = d from nI_clamp (by omega)]
          refine G.eq (ih (by omega) (fun m hm => by by_cases e : m = f; (rw [e]; exact c_122); exact hall m (by omega)) (by rw [← hcnt, show n - (q + f) = (n - (q + (f + 1))) + 1 by omega]; show _ = (if q + f < n ∧ isDg (h 50 (q + f)) then dgN (h 50) n (n - (q + (f + 1))) (q + f + 1) + 1 else 0) + f; rw [if_pos ⟨by omega, c_122⟩, show q + f + 1 = q + (f + 1) by omega]; omega)) rfl rfl ?_
          rw [hvs]
          refine hp_ext fun a k => ?_
          simp only [up_at]
          by_cases ca : a = 49
          · subst ca
            by_cases c2 : k = 2
            · subst c2; simp [nI_succ]; first | rfl | (rw [show q + (f + 1) = q + f + 1 by omega, nI_succ])
            · by_cases c6 : k = 6
              · subst c6; simp [nI_succ]
              · by_cases c5 : k = 5
                · subst c5; simp 
                · simp [c2, c6, c5]
          · simp [ca]
  have AFT : G X E SHP (0, 0) 38 [(0, .ref (E.1 + 49))] [] (up h 49 2 (nI q)) := by
    refine r_aload_n C dX8_nextToken_38 rfl ?_
    refine r_aload_n C dX8_nextToken_39 rfl ?_
    refine r_getI C dX8_nextToken_40 flX8_91 (rfl) rfl ?_
    rw [up_self]
    refine r_putI C dX8_nextToken_43 fwX8_94 (rfl) rfl ?_
    refine r_aload_n C dX8_nextToken_46 rfl ?_
    refine r_iconst (0) C dX8_nextToken_47 rfl ?_
    refine r_putI C dX8_nextToken_48 fwX8_97 (rfl) rfl ?_
    refine r_aload_n C dX8_nextToken_51 rfl ?_
    refine r_iconst (0) C dX8_nextToken_52 rfl ?_
    refine r_putI C dX8_nextToken_53 fwX8_100 (rfl) rfl ?_
    refine r_aload_n C dX8_nextToken_56 rfl ?_
    refine r_getI C dX8_nextToken_57 flX8_91 (rfl) rfl ?_
    refine r_aload_n C dX8_nextToken_60 rfl ?_
    refine r_getI C dX8_nextToken_61 flX8_87 (rfl) rfl ?_
    refine r_icmp_ne 76 C dX8_nextToken_64 (by decide) (fun c_64 => ?_) (fun c_64 => ?_)
    · rw [show (up (up (up (up h 49 2 (nI q)) 49 3 (nI q)) 49 5 0) 49 6 0) 49 2 = nI q from rfl, show (up (up (up (up h 49 2 (nI q)) 49 3 (nI q)) 49 5 0) 49 6 0) 49 0 = nI n from hn] at c_64
      rw [cEq (x := nI q) (c := nI n) (i := q) (n := n) (rfl) (rfl) (by omega) (by omega)] at c_64
      refine r_aload_n C dX8_nextToken_76 rfl ?_
      refine r_getR C dX8_nextToken_77 flX8_7 (rfl) rfl ?_
      refine r_aload_n C dX8_nextToken_80 rfl ?_
      refine r_getI C dX8_nextToken_81 flX8_91 (rfl) rfl ?_
      refine r_iald (q) C dX8_nextToken_84 (rfl) (rfl) (by omega) (by decide) ?_
      refine r_bipush (48) C dX8_nextToken_85 rfl ?_
      refine r_bipush (57) C dX8_nextToken_87 rfl ?_
      refine r_cSi C F dX8_nextToken_89 (s8_in) tw_790 m8_in (by decide) rfl (Nat.le_of_ble_eq_true rfl) ?_
      refine r_if_eq 195 C dX8_nextToken_92 (by decide) (fun c_92 => ?_) (fun c_92 => ?_)
      · rw [bz_eq0, show (up (up (up (up h 49 2 (nI q)) 49 3 (nI q)) 49 5 0) 49 6 0) 50 q = h 50 q from rfl] at c_92
        refine r_aload_n C dX8_nextToken_195 rfl ?_
        refine r_aload_n C dX8_nextToken_196 rfl ?_
        refine r_getR C dX8_nextToken_197 flX8_7 (rfl) rfl ?_
        refine r_aload_n C dX8_nextToken_200 rfl ?_
        refine r_getI C dX8_nextToken_201 flX8_91 (rfl) rfl ?_
        refine r_iald (q) C dX8_nextToken_204 (rfl) (rfl) (by omega) (by decide) ?_
        refine r_putI C dX8_nextToken_205 fwX8_103 (rfl) rfl ?_
        refine r_aload_n C dX8_nextToken_208 rfl ?_
        refine r_dup C dX8_nextToken_209 rfl ?_
        refine r_getI C dX8_nextToken_210 flX8_91 (rfl) rfl ?_
        refine r_iconst (1) C dX8_nextToken_213 rfl ?_
        refine r_iadd C dX8_nextToken_214 ?_
        refine r_putI C dX8_nextToken_215 fwX8_91 (rfl) rfl ?_
        refine r_vret C F dX8_nextToken_218 ⟨rfl, ?_⟩
        have ht2 : tkT (h 50) n q = (h 50 q, 0, 0, q + 1) := by unfold tkT; rw [if_neg c_64, if_neg c_92]
        rw [hQ, ht2]
        exact ⟨fun a ha => by simp only [up_row _ _ _ _ ha], fun k hk => by simp only [up_at]; simp [show ¬ k = 2 by omega, show ¬ k = 3 by omega, show ¬ k = 4 by omega, show ¬ k = 5 by omega, show ¬ k = 6 by omega], (by rw [up_self]; show nI q + 1 = nI (q + 1); exact nI_1 q), rfl, rfl, rfl, rfl⟩
      · rw [bz_ne0, show (up (up (up (up h 49 2 (nI q)) 49 3 (nI q)) 49 5 0) 49 6 0) 50 q = h 50 q from rfl] at c_92
        refine G.eq (DG (by omega) c_92 0 (by omega) (fun m hm => absurd hm (by omega)) (by unfold dg; rfl)) rfl rfl ?_
        rw [show up (up (up (up h 49 2 (nI q)) 49 3 (nI q)) 49 5 0) 49 6 0 = up (up (up (up h 49 3 (nI q)) 49 5 0) 49 6 0) 49 2 (nI q) by rw [up_comm h _ _ (by decide), up_comm (up h 49 3 (nI q)) _ _ (by decide), up_comm (up (up h 49 3 (nI q)) 49 5 0) _ _ (by decide)]]
        rfl
    · rw [show (up (up (up (up h 49 2 (nI q)) 49 3 (nI q)) 49 5 0) 49 6 0) 49 2 = nI q from rfl, show (up (up (up (up h 49 2 (nI q)) 49 3 (nI q)) 49 5 0) 49 6 0) 49 0 = nI n from hn] at c_64
      rw [cEq (x := nI q) (c := nI n) (i := q) (n := n) (rfl) (rfl) (by omega) (by omega)] at c_64
      refine r_aload_n C dX8_nextToken_67 rfl ?_
      refine r_bipush (-2) C dX8_nextToken_68 rfl ?_
      refine r_putI C dX8_nextToken_70 fwX8_103 (rfl) rfl ?_
      refine r_goto 218 C dX8_nextToken_73 (by decide) ?_
      refine r_vret C F dX8_nextToken_218 ⟨rfl, ?_⟩
      have ht2 : tkT (h 50) n q = (-2, 0, 0, q) := by unfold tkT; rw [if_pos c_64]
      rw [hQ, ht2]
      exact ⟨fun a ha => by simp only [up_row _ _ _ _ ha], fun k hk => by simp only [up_at]; simp [show ¬ k = 2 by omega, show ¬ k = 3 by omega, show ¬ k = 4 by omega, show ¬ k = 5 by omega, show ¬ k = 6 by omega], rfl, rfl, rfl, rfl, rfl⟩
  have SK : ∀ j, j ≤ n → p ≤ j → skp (h 50) n (n - j) j = q → G X E SHP (0, 0) 0 [(0, .ref (E.1 + 49))] [] (up h 49 2 (nI j)) := by
    refine loopN n _ (fun j hj ih hpj hs => ?_)
    refine r_aload_n C dX8_nextToken_0 rfl ?_
    refine r_getI C dX8_nextToken_1 flX8_91 (rfl) rfl ?_
    refine r_aload_n C dX8_nextToken_4 rfl ?_
    refine r_getI C dX8_nextToken_5 flX8_87 (rfl) rfl ?_
    refine r_icmp_ge 38 C dX8_nextToken_8 (by decide) (fun c_8 => ?_) (fun c_8 => ?_)
    · rw [up_self, show (up h 49 2 (nI j)) 49 0 = nI n from hn] at c_8
      rw [cLe (x := nI n) (c := nI j) (i := n) (n := j) (rfl) (rfl) (by omega) (by omega)] at c_8
      have hjq : j = q := by rw [← hs, show n - j = 0 by omega]; rfl
      subst hjq
      exact AFT
    · rw [up_self, show (up h 49 2 (nI j)) 49 0 = nI n from hn] at c_8
      rw [cLe (x := nI n) (c := nI j) (i := n) (n := j) (rfl) (rfl) (by omega) (by omega)] at c_8
      have hs2 : (if j < n ∧ h 50 j = 32 then skp (h 50) n (n - (j + 1)) (j + 1) else j) = q := by rw [← hs, show n - j = (n - (j + 1)) + 1 by omega]; rfl
      refine r_aload_n C dX8_nextToken_11 rfl ?_
      refine r_getR C dX8_nextToken_12 flX8_7 (rfl) rfl ?_
      refine r_aload_n C dX8_nextToken_15 rfl ?_
      refine r_getI C dX8_nextToken_16 flX8_91 (rfl) rfl ?_
      refine r_iald (j) C dX8_nextToken_19 (rfl) (up_self _ _ _ _) (by omega) (by decide) ?_
      refine r_bipush (32) C dX8_nextToken_20 rfl ?_
      refine r_icmp_ne 38 C dX8_nextToken_22 (by decide) (fun c_22 => ?_) (fun c_22 => ?_)
      · rw [show (up h 49 2 (nI j)) 50 j = h 50 j from rfl] at c_22
        have hjq : j = q := by rw [← hs2, if_neg (fun z => c_22 z.2)]
        subst hjq
        exact AFT
      · rw [show (up h 49 2 (nI j)) 50 j = h 50 j from rfl] at c_22
        rw [if_pos ⟨by omega, c_22⟩] at hs2
        refine r_aload_n C dX8_nextToken_25 rfl ?_
        refine r_dup C dX8_nextToken_26 rfl ?_
        refine r_getI C dX8_nextToken_27 flX8_91 (rfl) rfl ?_
        refine r_iconst (1) C dX8_nextToken_30 rfl ?_
        refine r_iadd C dX8_nextToken_31 ?_
        refine r_putI C dX8_nextToken_32 fwX8_91 (rfl) rfl ?_
        refine r_goto 0 C dX8_nextToken_35 (by decide) ?_
        exact G.eq (ih (by omega) (by omega) hs2) rfl rfl (by rw [up_self, up_up, nI_1])
  exact G.eq (SK p hp (Nat.le_refl _) hQ) rfl rfl (up_id hp0).symm
