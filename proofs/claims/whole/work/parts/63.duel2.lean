variable {l : Launch} {E : Ev} {h : Hp}
noncomputable def bR (D : HDt) : Nat → Mom → Nat → Nat → Option (Nat × Nat)
  | 0, _, _, _ => none
  | r + 1, u, x, y => bsK D (bF D r u x y) u x 60
def QD (h : Hp) (dp V : Nat) (R : Option (Nat × Nat)) : Pst := fun w g => w = some (.int (nI V)) ∧ (∀ a, a ≠ 48 → g a = h a) ∧ (∀ k, k < dp → g 48 k = h 48 k) ∧ ∀ q, R = some q → g 48 dp = nI q.2
theorem nI_le_m1 : ∀ n, n < 3 → ¬ nI n ≤ -1 := by decide +kernel
theorem bs_le1 {D : HDt} {f : Nat → Nat} {u : Mom} {x k : Nat} (hf : ∀ c, f c ≤ 2) (hc : canB D u x k = true) (z : nI (f k) ≤ oB (bsK D f u x k)) : bsK D f u x (k + 1) = bsK D f u x k := by
  cases hz : bsK D f u x k with
  | none => rw [hz] at z; exact absurd z (nI_le_m1 _ (by have := hf k; omega))
  | some q =>
    rw [hz] at z
    have h1 := hf k
    have h2 := (bs_le hf k q hz).1
    have z : nI (f k) ≤ nI q.1 := z
    rw [cLe (x := nI (f k)) (c := nI q.1) (i := f k) (n := q.1) rfl rfl (by omega) (by omega)] at z
    rw [bs_s hc hz, if_neg (by omega)]
theorem bs_gt1 {D : HDt} {f : Nat → Nat} {u : Mom} {x k : Nat} (hf : ∀ c, f c ≤ 2) (hc : canB D u x k = true) (z : ¬ nI (f k) ≤ oB (bsK D f u x k)) : bsK D f u x (k + 1) = some (f k, k) := by
  cases hz : bsK D f u x k with
  | none => exact bs_0 hc hz
  | some q =>
    rw [hz] at z
    have h1 := hf k
    have h2 := (bs_le hf k q hz).1
    have z : ¬ nI (f k) ≤ nI q.1 := z
    rw [cLe (x := nI (f k)) (c := nI q.1) (i := f k) (n := q.1) rfl rfl (by omega) (by omega)] at z
    rw [bs_s hc hz, if_pos (by omega)]
theorem oB_2 {R : Option (Nat × Nat)} (hq : ∀ q, R = some q → q.1 ≤ 2) (z : 2 ≤ oB R) : ∃ q, R = some q ∧ 2 ≤ q.1 := by
  cases R with
  | none => exact absurd z (by decide)
  | some q =>
    have z : 2 ≤ nI q.1 := z
    have := hq q rfl
    rw [cLe (x := 2) (c := nI q.1) (i := 2) (n := q.1) rfl rfl (by omega) (by omega)] at z
    exact ⟨q, rfl, z⟩
set_option maxHeartbeats 8000000 in
theorem s5_bestInDuel {o : Nat} {D : HDt} (hO : isH o) (ho : o ≤ 12) (okd : okD D) (r : Nat) : ∀ (h : Hp) (v : Mom) (x y dp my n : Nat), CT h o D (mN v) (mM v) → okW D v n → n + r ≤ 100 → my = dp + r → my ≤ 3 → x < 6 → y < 6 → (0 < dJ D → bth D v x y) → Sp l E SHP (4 + r) M5_bestInDuel [.ref (E.1 + 36), .int (nI (mI v)), .int (nI x), .int (nI y), .int (nI dp), .int (nI my)] h (QD h dp (bV D r v x y) (bR D r v x y)) := by
  induction r with
  | zero =>
    intro h v x y dp my n hT ok hn hmy hm3 hx hy hb
    have hmy : my = dp := hmy
    subst hmy
    refine Sp.of (by decide) (Nat.le_of_ble_eq_true rfl) (fun X C F => ?_)
    have C : Ok X E RX5 cX5_bestInDuel 14 := C
    have F : Fn X l E SHP (4) (some FieldType.int) (QD h my (bV D 0 v x y) (bR D 0 v x y)) := F
    show G X E SHP (0, 0) 0 [(0, .ref (E.1 + 36)), (1, .int (nI (mI v))), (2, .int (nI x)), (3, .int (nI y)), (4, .int (nI my)), (5, .int (nI my))] [] h
    refine r_iload C dX5_bestInDuel_0 rfl ?_
    refine r_iload C dX5_bestInDuel_2 rfl ?_
    refine r_icmp_ge 23 C dX5_bestInDuel_4 (by decide) (fun c_4 => ?_) (fun c_4 => ?_)
    · refine r_iconst (1) C dX5_bestInDuel_23 rfl ?_
      exact r_iret C F dX5_bestInDuel_24 ⟨rfl, fun _ _ => rfl, fun _ _ => rfl, fun q e => by cases e⟩
    · exact absurd (Int32.le_refl _) c_4
  | succ r IH =>
    intro h v x y dp my n hT ok hn hmy hm3 hx hy hb
    have hm64 := okW_lt okd ok
    obtain ⟨ok1, ok2, ok3⟩ := id ok
    obtain ⟨o1, o2, o3, o4, o5, o6⟩ := id okd
    have hle : ∀ k q, bsK D (bF D r v x y) v x k = some q → q.1 ≤ 2 := fun k q e => (bs_le (bF_le D r v x y) k q e).1
    refine Sp.of (by decide) (Nat.le_of_ble_eq_true rfl) (fun X C F => ?_)
    have C : Ok X E RX5 cX5_bestInDuel 14 := C
    have F : Fn X l E SHP (4 + (r + 1)) (some FieldType.int) (QD h dp (bV D (r + 1) v x y) (bR D (r + 1) v x y)) := F
    show G X E SHP (0, 0) 0 [(0, .ref (E.1 + 36)), (1, .int (nI (mI v))), (2, .int (nI x)), (3, .int (nI y)), (4, .int (nI dp)), (5, .int (nI my))] [] h
    have FIN : 0 < dJ D → ∀ g : Hp, ((∀ a, a ≠ 48 → g a = h a) ∧ ∀ k, k < dp → g 48 k = h 48 k) → G X E SHP (0, 0) 219 [(0, .ref (E.1 + 36)), (4, .int (nI dp)), (6, .int (oB (bsK D (bF D r v x y) v x 60))), (7, .int (oW (bsK D (bF D r v x y) v x 60)))] [] g := by
      intro hj0 g fr
      obtain ⟨q, hq⟩ := (hb hj0).ex (bF D r v x y)
      rw [hq]
      refine r_aload_n C dX5_bestInDuel_219 rfl ?_
      refine r_getR C dX5_bestInDuel_220 flX5_28 (rfl) rfl ?_
      refine r_iload C dX5_bestInDuel_223 rfl ?_
      refine r_iload C dX5_bestInDuel_225 rfl ?_
      refine r_iast (dp) C dX5_bestInDuel_227 (rfl) (rfl) (by omega) (by first | decide | omega) ?_
      refine r_iload C dX5_bestInDuel_228 rfl ?_
      refine r_iret C F dX5_bestInDuel_230 ⟨?_, fun b hb2 => ?_, fun k hk => ?_, fun p e => ?_⟩
      · rw [bV_s, hq]; rfl
      · rw [up_row _ _ _ _ hb2]; exact fr.1 b hb2
      · rw [up_off _ _ _ _ (by omega)]; exact fr.2 k hk
      · have e : bsK D (bF D r v x y) v x 60 = some p := e
        rw [hq] at e
        cases e
        rw [up_self]; rfl
    have OUT : ∀ j, j ≤ dJ D → 0 < dJ D → ∀ g : Hp, ((∀ a, a ≠ 48 → g a = h a) ∧ ∀ k, k < dp → g 48 k = h 48 k) → G X E SHP (0, 0) 34 [(0, .ref (E.1 + 36)), (1, .int (nI (mI v))), (2, .int (nI x)), (3, .int (nI y)), (4, .int (nI dp)), (5, .int (nI my)), (6, .int (oB (bsK D (bF D r v x y) v x (10 * j)))), (7, .int (oW (bsK D (bF D r v x y) v x (10 * j)))), (8, .int (nI j))] [] g := by
      refine loopN (dJ D) _ (fun j hj ih hj0 g fr => ?_)
      have IN : j < dJ D → ∀ a, a ≤ dL D → ∀ (g : Hp) (xx : Int64), ((∀ a, a ≠ 48 → g a = h a) ∧ ∀ k, k < dp → g 48 k = h 48 k) → (∀ S, S < 64 → lb xx S = true → ∃ b, b < a ∧ canB D v x (10 * j + b) = true ∧ falF D (mI v) (mN v) (mM v) x j b = S) → G X E SHP (0, 0) 58 [(0, .ref (E.1 + 36)), (1, .int (nI (mI v))), (2, .int (nI x)), (3, .int (nI y)), (4, .int (nI dp)), (5, .int (nI my)), (6, .int (oB (bsK D (bF D r v x y) v x (10 * j + a)))), (7, .int (oW (bsK D (bF D r v x y) v x (10 * j + a)))), (8, .int (nI j)), (9, .long xx), (11, .int (nI a))] [] g := by
        intro hj2
        refine loopN (dL D) _ (fun a ha ih2 g xx fr hxx => ?_)
        have hTg : CT g o D (mN v) (mM v) := CT_cg hT ho (fun b hb => fr.1 b (by omega))
        obtain ⟨q1, hH, q3, q4⟩ := id hTg
        obtain ⟨-, e1, e2, e3, e4, eL, eJ, eB, eF⟩ := id hH
        have hS64 : falF D (mI v) (mN v) (mM v) x j a < 64 := falF_64 okd _ _ _ _ _ _
        have hyi : (mI v).testBit y = true := (hb hj0).2.2.2.2.1
        refine r_iload C dX5_bestInDuel_58 rfl ?_
        refine r_aload_n C dX5_bestInDuel_60 rfl ?_
        refine r_getV (o) C dX5_bestInDuel_61 flX5_12 (rfl) rfl (q1) (by first | decide | omega) ?_
        refine r_getI C dX5_bestInDuel_64 flX5_31 (hO.1) rfl ?_
        refine r_icmp_ge 213 C dX5_bestInDuel_67 (by decide) (fun c_67 => ?_) (fun c_67 => ?_)
        · rw [cLe (x := g o 3) (c := nI a) (i := dL D) (n := a) (e3) (rfl) (by omega) (by omega)] at c_67
          refine r_inc (1) C dX5_bestInDuel_213 rfl (by decide) rfl rfl ?_
          refine r_goto 34 C dX5_bestInDuel_216 (by decide) ?_
          have hP : bsK D (bF D r v x y) v x (10 * (j + 1)) = bsK D (bF D r v x y) v x (10 * j + a) := bs_skip _ (by omega) (fun c h1 h2 => by
            unfold canB
            rw [decide_eq_false (show ¬ c % 10 < dL D by omega)]
            simp)
          exact (ih (by omega) hj0 g fr).sub ⟨rfl, rfl, rfl, rfl, rfl, rfl, by rw [hP]; rfl, by rw [hP]; rfl, by rw [nI_succ]; rfl, trivial⟩
        · rw [cLe (x := g o 3) (c := nI a) (i := dL D) (n := a) (e3) (rfl) (by omega) (by omega)] at c_67
          refine r_iload C dX5_bestInDuel_70 rfl ?_
          refine r_iconst (2) C dX5_bestInDuel_72 rfl ?_
          refine r_icmp_ge 213 C dX5_bestInDuel_73 (by decide) (fun c_73 => ?_) (fun c_73 => ?_)
          · refine r_inc (1) C dX5_bestInDuel_213 rfl (by decide) rfl rfl ?_
            refine r_goto 34 C dX5_bestInDuel_216 (by decide) ?_
            have hP : bsK D (bF D r v x y) v x (10 * (j + 1)) = bsK D (bF D r v x y) v x (10 * j + a) := by
              obtain ⟨q, z1, z2⟩ := oB_2 (hle (10 * j + a)) c_73
              rw [z1]
              exact bs_stop (bF_le D r v x y) z1 z2 _ (by omega)
            exact (ih (by omega) hj0 g fr).sub ⟨rfl, rfl, rfl, rfl, rfl, rfl, by rw [hP]; rfl, by rw [hP]; rfl, by rw [nI_succ]; rfl, trivial⟩
          · refine r_iload C dX5_bestInDuel_76 rfl ?_
            refine r_iload_n C dX5_bestInDuel_78 rfl ?_
            refine r_icmp_eq 207 C dX5_bestInDuel_79 (by decide) (fun c_79 => ?_) (fun c_79 => ?_)
            · rw [cEq (x := nI a) (c := nI x) (i := a) (n := x) (rfl) (rfl) (by omega) (by omega)] at c_79
              refine r_inc (1) C dX5_bestInDuel_207 rfl (by decide) rfl rfl ?_
              refine r_goto 58 C dX5_bestInDuel_210 (by decide) ?_
              have hP : bsK D (bF D r v x y) v x (10 * j + (a + 1)) = bsK D (bF D r v x y) v x (10 * j + a) := bs_n (k := 10 * j + a) (by rw [can_at (by omega), decide_eq_false (not_not_intro c_79)]; simp)
              exact (ih2 (by omega) g xx fr (fun S y1 y2 => by obtain ⟨b, b1, b2⟩ := hxx S y1 y2; exact ⟨b, by omega, b2⟩)).sub ⟨rfl, rfl, rfl, rfl, rfl, rfl, by rw [hP]; rfl, by rw [hP]; rfl, rfl, rfl, by rw [nI_succ]; rfl, trivial⟩
            · rw [cEq (x := nI a) (c := nI x) (i := a) (n := x) (rfl) (rfl) (by omega) (by omega)] at c_79
              refine r_iload_n C dX5_bestInDuel_82 rfl ?_
              refine r_iload C dX5_bestInDuel_83 rfl ?_
              refine r_ishr C dX5_bestInDuel_85 ?_
              refine r_iconst (1) C dX5_bestInDuel_86 rfl ?_
              refine r_iand C dX5_bestInDuel_87 ?_
              rw [bit_nI (by omega) (by omega)]
              refine r_if_ne 94 C dX5_bestInDuel_88 (by decide) (fun c_88 => ?_) (fun c_88 => ?_)
              · have c_88 := tb_n c_88
                have hcan : canB D v x (10 * j + a) = true := by rw [can_at (by omega), decide_eq_true hj2, decide_eq_true (show a < dL D by omega), decide_eq_true c_79, c_88]; rfl
                have hI : mI (tl D v x (10 * j + a)) = nd (mI v) (falF D (mI v) (mN v) (mM v) x j a) := by
                  show nd (mI v) (falF D (mI v) (mN v) (mM v) x ((10 * j + a) / 10) ((10 * j + a) % 10)) = _
                  rw [show (10 * j + a) / 10 = j by omega, show (10 * j + a) % 10 = a by omega]
                have hyo : (mI (tl D v x (10 * j + a))).testBit y = !(falF D (mI v) (mN v) (mM v) x j a).testBit y := by rw [hI, nd_bit, hyi, Bool.true_and]
                refine r_aload_n C dX5_bestInDuel_94 rfl ?_
                refine r_iload_n C dX5_bestInDuel_95 rfl ?_
                refine r_iload_n C dX5_bestInDuel_96 rfl ?_
                refine r_iload C dX5_bestInDuel_97 rfl ?_
                refine r_iload C dX5_bestInDuel_99 rfl ?_
                refine r_cVi C F dX5_bestInDuel_101 (s5_outBy hO ho hTg (m := mI v) (i := x) (j := j) (a := a) hm64 hx hj2 (by omega) (by have := ok3 j; omega)) tw_527 m5_outBy (rfl) rfl (by omega) rfl (Nat.le_of_ble_eq_true rfl) ?_
                refine r_istore C dX5_bestInDuel_104 (by decide) rfl ?_
                refine r_lload C dX5_bestInDuel_106 rfl ?_
                refine r_iload C dX5_bestInDuel_108 rfl ?_
                refine r_lshr C dX5_bestInDuel_110 ?_
                refine r_lconst (1) C dX5_bestInDuel_111 rfl ?_
                refine r_land C dX5_bestInDuel_112 ?_
                refine r_lconst (0) C dX5_bestInDuel_113 rfl ?_
                refine r_lcmp C dX5_bestInDuel_114 ?_
                refine r_if_eq 121 C dX5_bestInDuel_115 (by decide) (fun c_115 => ?_) (fun c_115 => ?_)
                · refine r_lload C dX5_bestInDuel_121 rfl ?_
                  refine r_lconst (1) C dX5_bestInDuel_123 rfl ?_
                  refine r_iload C dX5_bestInDuel_124 rfl ?_
                  refine r_lshl C dX5_bestInDuel_126 ?_
                  refine r_lor C dX5_bestInDuel_127 ?_
                  refine r_lstore C dX5_bestInDuel_128 (by decide) rfl ?_
                  refine r_iconst (2) C dX5_bestInDuel_130 rfl ?_
                  refine r_istore C dX5_bestInDuel_131 (by decide) rfl ?_
                  refine r_iload C dX5_bestInDuel_133 rfl ?_
                  refine r_iload_n C dX5_bestInDuel_135 rfl ?_
                  refine r_ishr C dX5_bestInDuel_136 ?_
                  refine r_iconst (1) C dX5_bestInDuel_137 rfl ?_
                  refine r_iand C dX5_bestInDuel_138 ?_
                  rw [bit_nI (by omega) (by omega)]
                  refine r_if_ne 186 C dX5_bestInDuel_139 (by decide) (fun c_139 => ?_) (fun c_139 => ?_)
                  · have c_139 := tb_n c_139
                    have hW : bF D r v x y (10 * j + a) = 2 := if_pos (by rw [hyo, c_139]; rfl)
                    refine r_iload C dX5_bestInDuel_186 rfl ?_
                    refine r_iload C dX5_bestInDuel_188 rfl ?_
                    refine r_icmp_le 207 C dX5_bestInDuel_190 (by decide) (fun c_190 => ?_) (fun c_190 => ?_)
                    · refine r_inc (1) C dX5_bestInDuel_207 rfl (by decide) rfl rfl ?_
                      refine r_goto 58 C dX5_bestInDuel_210 (by decide) ?_
                      have hP : bsK D (bF D r v x y) v x (10 * j + (a + 1)) = bsK D (bF D r v x y) v x (10 * j + a) := bs_le1 (k := 10 * j + a) (bF_le D r v x y) hcan (by rw [hW]; exact c_190)
                      refine (ih2 (by omega) g _ fr (fun S y1 y2 => ?_)).sub ⟨rfl, rfl, rfl, rfl, rfl, rfl, by rw [hP]; rfl, by rw [hP]; rfl, rfl, rfl, by rw [nI_succ]; rfl, trivial⟩
                      rw [lb_or y1 hS64, Bool.or_eq_true, decide_eq_true_eq] at y2
                      rcases y2 with y2 | y2
                      · obtain ⟨b, b1, b2⟩ := hxx S y1 y2; exact ⟨b, by omega, b2⟩
                      · exact ⟨a, by omega, hcan, y2.symm⟩
                    · refine r_iload C dX5_bestInDuel_193 rfl ?_
                      refine r_istore C dX5_bestInDuel_195 (by decide) rfl ?_
                      refine r_bipush (10) C dX5_bestInDuel_197 rfl ?_
                      refine r_iload C dX5_bestInDuel_199 rfl ?_
                      refine r_imul C dX5_bestInDuel_201 ?_
                      refine r_iload C dX5_bestInDuel_202 rfl ?_
                      refine r_iadd C dX5_bestInDuel_204 ?_
                      rw [show (10 : Int32) * nI j + nI a = nI (10 * j + a) by rw [show (10 : Int32) * nI j = nI (10 * j) from pk_mul 10 j]; exact nI_add _ _]
                      refine r_istore C dX5_bestInDuel_205 (by decide) rfl ?_
                      refine r_inc (1) C dX5_bestInDuel_207 rfl (by decide) rfl rfl ?_
                      refine r_goto 58 C dX5_bestInDuel_210 (by decide) ?_
                      have hP : bsK D (bF D r v x y) v x (10 * j + (a + 1)) = some (bF D r v x y (10 * j + a), (10 * j + a)) := bs_gt1 (k := 10 * j + a) (bF_le D r v x y) hcan (by rw [hW]; exact c_190)
                      refine (ih2 (by omega) g _ fr (fun S y1 y2 => ?_)).sub ⟨rfl, rfl, rfl, rfl, rfl, rfl, by rw [hP, hW]; rfl, by rw [hP]; rfl, rfl, rfl, by rw [nI_succ]; rfl, trivial⟩
                      rw [lb_or y1 hS64, Bool.or_eq_true, decide_eq_true_eq] at y2
                      rcases y2 with y2 | y2
                      · obtain ⟨b, b1, b2⟩ := hxx S y1 y2; exact ⟨b, by omega, b2⟩
                      · exact ⟨a, by omega, hcan, y2.symm⟩
                  · have c_139 := tb_z c_139
                    have hW : bF D r v x y (10 * j + a) = 2 - bV D r (tl D v x (10 * j + a)) y x := if_neg (by rw [hyo, c_139]; decide)
                    refine r_aload_n C dX5_bestInDuel_142 rfl ?_
                    refine r_getR C dX5_bestInDuel_143 flX5_22 (rfl) rfl ?_
                    refine r_iload C dX5_bestInDuel_146 rfl ?_
                    refine r_dup2 C dX5_bestInDuel_148 rfl rfl ?_
                    refine r_iald (j) C dX5_bestInDuel_149 (rfl) (rfl) (by omega) (by first | decide | omega) ?_
                    refine r_iconst (1) C dX5_bestInDuel_150 rfl ?_
                    refine r_iadd C dX5_bestInDuel_151 ?_
                    refine r_iast (j) C dX5_bestInDuel_152 (rfl) (rfl) (by omega) (by first | decide | omega) ?_
                    refine r_iconst (2) C dX5_bestInDuel_153 rfl ?_
                    refine r_aload_n C dX5_bestInDuel_154 rfl ?_
                    refine r_iload_n C dX5_bestInDuel_155 rfl ?_
                    refine r_iload C dX5_bestInDuel_156 rfl ?_
                    refine r_iconst (-1) C dX5_bestInDuel_158 rfl ?_
                    refine r_ixor C dX5_bestInDuel_159 ?_
                    refine r_iand C dX5_bestInDuel_160 ?_
                    rw [nx_nd]
                    refine r_iload_n C dX5_bestInDuel_161 rfl ?_
                    refine r_iload_n C dX5_bestInDuel_162 rfl ?_
                    refine r_iload C dX5_bestInDuel_163 rfl ?_
                    refine r_iconst (1) C dX5_bestInDuel_165 rfl ?_
                    refine r_iadd C dX5_bestInDuel_166 ?_
                    rw [← nI_succ]
                    refine r_iload C dX5_bestInDuel_167 rfl ?_
                    have hM : ∀ k, mM (tl D v x (10 * j + a)) k = if k = j then mM v k + 1 else mM v k := fun k => by
                      show (if k = (10 * j + a) / 10 then mM v k + 1 else mM v k) = _
                      rw [show (10 * j + a) / 10 = j by omega]
                    have g1a : ∀ b, b ≠ 46 → (up g 46 j (g 46 j + 1)) b = g b := fun b y2 => by rw [up_row _ _ _ _ y2]
                    have g1b : ∀ k, (up g 46 j (g 46 j + 1)) 46 k = if k = j then g 46 k + 1 else g 46 k := fun k => by
                      rw [up_if]
                      by_cases e : k = j
                      · rw [if_pos e, if_pos e, e]
                      · rw [if_neg e, if_neg e]
                    generalize up g 46 j (g 46 j + 1) = g1 at g1a g1b ⊢
                    have hT1 : CT g1 o D (mN (tl D v x (10 * j + a))) (mM (tl D v x (10 * j + a))) := by
                      refine ⟨?_, CH_cg hH (fun b y1 y2 => ?_), fun k hk => ?_, fun k hk => ?_⟩
                      · rw [g1a 36 (by decide)]; exact q1
                      · rw [g1a b (by omega)]
                      · rw [g1a 45 (by decide)]; exact q3 k hk
                      · rw [g1b, hM]
                        by_cases e : k = j
                        · rw [if_pos e, if_pos e, q4 k hk]; exact (nI_succ _).symm
                        · rw [if_neg e, if_neg e]; exact q4 k hk
                    have hnf : ¬ (mI (tl D v x (10 * j + a))).testBit y = false := by rw [hyo, c_139]; decide
                    have ihc := IH g1 (tl D v x (10 * j + a)) y x (dp + 1) my (n + 1) hT1 (okW_tl ok x (10 * j + a)) (by omega) (by omega) hm3 hy hx (fun z => ((hb z).nx hnf).swap)
                    rw [hI] at ihc
                    have hvle := bV_le D r (tl D v x (10 * j + a)) y x
                    refine r_callV C F dX5_bestInDuel_169 (ihc) tw_540 m5_bestInDuel (rfl) rfl (by omega) rfl (Nat.le_of_ble_eq_true rfl) (fun w2 g2 q => ?_)
                    obtain ⟨rfl, z1, z2, -⟩ := q
                    have fr3 : (∀ b, b ≠ 48 → up g2 46 j (g2 46 j - 1) b = h b) ∧ ∀ k, k < dp → up g2 46 j (g2 46 j - 1) 48 k = h 48 k := by
                      refine ⟨fun b hb => ?_, fun k hk => ?_⟩
                      · by_cases e : b = 46
                        · subst e
                          refine funext fun k => ?_
                          rw [up_if, z1 46 (by decide), g1b, g1b, ← fr.1 46 (by decide)]
                          by_cases y : k = j
                          · rw [if_pos y, if_pos rfl, i32_pm, y]
                          · rw [if_neg y, if_neg y]
                        · rw [up_row _ _ _ _ e, z1 b hb, g1a b e]; exact fr.1 b hb
                      · rw [up_row _ _ _ _ (by decide), z2 k (by omega), g1a 48 (by decide)]; exact fr.2 k hk
                    show G X E SHP (0, 0) 172 _ [.int (nI (bV D r (tl D v x (10 * j + a)) y x)), .int 2] g2
                    refine r_isub C dX5_bestInDuel_172 ?_
                    rw [show (2 : Int32) - nI (bV D r (tl D v x (10 * j + a)) y x) = nI (2 - bV D r (tl D v x (10 * j + a)) y x) from pk_sub (a := 2) hvle]
                    refine r_istore C dX5_bestInDuel_173 (by decide) rfl ?_
                    refine r_aload_n C dX5_bestInDuel_175 rfl ?_
                    refine r_getR C dX5_bestInDuel_176 flX5_22 (rfl) rfl ?_
                    refine r_iload C dX5_bestInDuel_179 rfl ?_
                    refine r_dup2 C dX5_bestInDuel_181 rfl rfl ?_
                    refine r_iald (j) C dX5_bestInDuel_182 (rfl) (rfl) (by omega) (by first | decide | omega) ?_
                    refine r_iconst (1) C dX5_bestInDuel_183 rfl ?_
                    refine r_isub C dX5_bestInDuel_184 ?_
                    refine r_iast (j) C dX5_bestInDuel_185 (rfl) (rfl) (by omega) (by first | decide | omega) ?_
                    refine r_iload C dX5_bestInDuel_186 rfl ?_
                    refine r_iload C dX5_bestInDuel_188 rfl ?_
                    refine r_icmp_le 207 C dX5_bestInDuel_190 (by decide) (fun c_190 => ?_) (fun c_190 => ?_)
                    · refine r_inc (1) C dX5_bestInDuel_207 rfl (by decide) rfl rfl ?_
                      refine r_goto 58 C dX5_bestInDuel_210 (by decide) ?_
                      have hP : bsK D (bF D r v x y) v x (10 * j + (a + 1)) = bsK D (bF D r v x y) v x (10 * j + a) := bs_le1 (k := 10 * j + a) (bF_le D r v x y) hcan (by rw [hW]; exact c_190)
                      refine (ih2 (by omega) _ _ fr3 (fun S y1 y2 => ?_)).sub ⟨rfl, rfl, rfl, rfl, rfl, rfl, by rw [hP]; rfl, by rw [hP]; rfl, rfl, rfl, by rw [nI_succ]; rfl, trivial⟩
                      rw [lb_or y1 hS64, Bool.or_eq_true, decide_eq_true_eq] at y2
                      rcases y2 with y2 | y2
                      · obtain ⟨b, b1, b2⟩ := hxx S y1 y2; exact ⟨b, by omega, b2⟩
                      · exact ⟨a, by omega, hcan, y2.symm⟩
                    · refine r_iload C dX5_bestInDuel_193 rfl ?_
                      refine r_istore C dX5_bestInDuel_195 (by decide) rfl ?_
                      refine r_bipush (10) C dX5_bestInDuel_197 rfl ?_
                      refine r_iload C dX5_bestInDuel_199 rfl ?_
                      refine r_imul C dX5_bestInDuel_201 ?_
                      refine r_iload C dX5_bestInDuel_202 rfl ?_
                      refine r_iadd C dX5_bestInDuel_204 ?_
                      rw [show (10 : Int32) * nI j + nI a = nI (10 * j + a) by rw [show (10 : Int32) * nI j = nI (10 * j) from pk_mul 10 j]; exact nI_add _ _]
                      refine r_istore C dX5_bestInDuel_205 (by decide) rfl ?_
                      refine r_inc (1) C dX5_bestInDuel_207 rfl (by decide) rfl rfl ?_
                      refine r_goto 58 C dX5_bestInDuel_210 (by decide) ?_
                      have hP : bsK D (bF D r v x y) v x (10 * j + (a + 1)) = some (bF D r v x y (10 * j + a), (10 * j + a)) := bs_gt1 (k := 10 * j + a) (bF_le D r v x y) hcan (by rw [hW]; exact c_190)
                      refine (ih2 (by omega) _ _ fr3 (fun S y1 y2 => ?_)).sub ⟨rfl, rfl, rfl, rfl, rfl, rfl, by rw [hP, hW]; rfl, by rw [hP]; rfl, rfl, rfl, by rw [nI_succ]; rfl, trivial⟩
                      rw [lb_or y1 hS64, Bool.or_eq_true, decide_eq_true_eq] at y2
                      rcases y2 with y2 | y2
                      · obtain ⟨b, b1, b2⟩ := hxx S y1 y2; exact ⟨b, by omega, b2⟩
                      · exact ⟨a, by omega, hcan, y2.symm⟩
                · refine r_goto 207 C dX5_bestInDuel_118 (by decide) ?_
                  refine r_inc (1) C dX5_bestInDuel_207 rfl (by decide) rfl rfl ?_
                  refine r_goto 58 C dX5_bestInDuel_210 (by decide) ?_
                  have c_115 : lb xx (falF D (mI v) (mN v) (mM v) x j a) = true := by
                    cases hb : lb xx (falF D (mI v) (mN v) (mM v) x j a) with
                    | true => rfl
                    | false => exact absurd ((lb_c hS64).mpr hb) c_115
                  have hP : bsK D (bF D r v x y) v x (10 * j + (a + 1)) = bsK D (bF D r v x y) v x (10 * j + a) := by
                    obtain ⟨b, b1, b2, b3⟩ := hxx _ hS64 c_115
                    obtain ⟨q, z1, z2⟩ := bs_ge (f := bF D r v x y) b2 (10 * j + a) (by omega)
                    have e : bF D r v x y (10 * j + b) = bF D r v x y (10 * j + a) := by unfold bF; rw [tl_same (show b < 10 by omega) (show a < 10 by omega) b3]
                    rw [z1]
                    exact (bs_s hcan z1).trans (if_neg (by omega))
                  exact (ih2 (by omega) g xx fr (fun S y1 y2 => by obtain ⟨b, b1, b2⟩ := hxx S y1 y2; exact ⟨b, by omega, b2⟩)).sub ⟨rfl, rfl, rfl, rfl, rfl, rfl, by rw [hP]; rfl, by rw [hP]; rfl, rfl, rfl, by rw [nI_succ]; rfl, trivial⟩
              · have c_88 := tb_z c_88
                refine r_goto 207 C dX5_bestInDuel_91 (by decide) ?_
                refine r_inc (1) C dX5_bestInDuel_207 rfl (by decide) rfl rfl ?_
                refine r_goto 58 C dX5_bestInDuel_210 (by decide) ?_
                have hP : bsK D (bF D r v x y) v x (10 * j + (a + 1)) = bsK D (bF D r v x y) v x (10 * j + a) := bs_n (k := 10 * j + a) (by rw [can_at (by omega), c_88]; simp)
                exact (ih2 (by omega) g xx fr (fun S y1 y2 => by obtain ⟨b, b1, b2⟩ := hxx S y1 y2; exact ⟨b, by omega, b2⟩)).sub ⟨rfl, rfl, rfl, rfl, rfl, rfl, by rw [hP]; rfl, by rw [hP]; rfl, rfl, rfl, by rw [nI_succ]; rfl, trivial⟩
      have hTg : CT g o D (mN v) (mM v) := CT_cg hT ho (fun b hb => fr.1 b (by omega))
      obtain ⟨q1, hH, q3, q4⟩ := id hTg
      obtain ⟨-, e1, e2, e3, e4, eL, eJ, eB, eF⟩ := id hH
      refine r_iload C dX5_bestInDuel_34 rfl ?_
      refine r_aload_n C dX5_bestInDuel_36 rfl ?_
      refine r_getV (o) C dX5_bestInDuel_37 flX5_12 (rfl) rfl (q1) (by first | decide | omega) ?_
      refine r_getI C dX5_bestInDuel_40 flX5_44 (hO.1) rfl ?_
      refine r_icmp_ge 219 C dX5_bestInDuel_43 (by decide) (fun c_43 => ?_) (fun c_43 => ?_)
      · rw [cLe (x := g o 4) (c := nI j) (i := dJ D) (n := j) (e4) (rfl) (by omega) (by omega)] at c_43
        have hP : bsK D (bF D r v x y) v x 60 = bsK D (bF D r v x y) v x (10 * j) := bs_skip _ (by omega) (fun c h1 h2 => by
          unfold canB
          rw [decide_eq_false (show ¬ c / 10 < dJ D by omega)]
          simp)
        exact (FIN hj0 g fr).sub ⟨rfl, rfl, by rw [hP]; rfl, by rw [hP]; rfl, trivial⟩
      · rw [cLe (x := g o 4) (c := nI j) (i := dJ D) (n := j) (e4) (rfl) (by omega) (by omega)] at c_43
        refine r_iload C dX5_bestInDuel_46 rfl ?_
        refine r_iconst (2) C dX5_bestInDuel_48 rfl ?_
        refine r_icmp_ge 219 C dX5_bestInDuel_49 (by decide) (fun c_49 => ?_) (fun c_49 => ?_)
        · have hP : bsK D (bF D r v x y) v x 60 = bsK D (bF D r v x y) v x (10 * j) := by
            obtain ⟨q, z1, z2⟩ := oB_2 (hle (10 * j)) c_49
            rw [z1]
            exact bs_stop (bF_le D r v x y) z1 z2 _ (by omega)
          exact (FIN hj0 g fr).sub ⟨rfl, rfl, by rw [hP]; rfl, by rw [hP]; rfl, trivial⟩
        · refine r_lconst (0) C dX5_bestInDuel_52 rfl ?_
          refine r_lstore C dX5_bestInDuel_53 (by decide) rfl ?_
          refine r_iconst (0) C dX5_bestInDuel_55 rfl ?_
          refine r_istore C dX5_bestInDuel_56 (by decide) rfl ?_
          exact (IN (by omega) 0 (Nat.zero_le _) g 0 fr (fun S y1 y2 => by rw [lb_0 S y1] at y2; cases y2)).sub ⟨rfl, rfl, rfl, rfl, rfl, rfl, rfl, rfl, rfl, rfl, rfl, trivial⟩
    obtain ⟨q1, hH, q3, q4⟩ := id hT
    obtain ⟨-, e1, e2, e3, e4, eL, eJ, eB, eF⟩ := id hH
    refine r_iload C dX5_bestInDuel_0 rfl ?_
    refine r_iload C dX5_bestInDuel_2 rfl ?_
    refine r_icmp_ge 23 C dX5_bestInDuel_4 (by decide) (fun c_4 => ?_) (fun c_4 => ?_)
    · exact absurd ((cLe (x := nI my) (c := nI dp) (i := my) (n := dp) rfl rfl (by omega) (by omega)).mp c_4) (by omega)
    · refine r_iload C dX5_bestInDuel_7 rfl ?_
      refine r_iconst (3) C dX5_bestInDuel_9 rfl ?_
      refine r_icmp_ge 23 C dX5_bestInDuel_10 (by decide) (fun c_10 => ?_) (fun c_10 => ?_)
      · exact absurd ((cLe (x := 3) (c := nI dp) (i := 3) (n := dp) rfl rfl (by omega) (by omega)).mp c_10) (by omega)
      · refine r_aload_n C dX5_bestInDuel_13 rfl ?_
        refine r_getV (o) C dX5_bestInDuel_14 flX5_12 (rfl) rfl (q1) (by first | decide | omega) ?_
        refine r_getI C dX5_bestInDuel_17 flX5_44 (hO.1) rfl ?_
        refine r_if_ne 25 C dX5_bestInDuel_20 (by decide) (fun c_20 => ?_) (fun c_20 => ?_)
        · have c_20 : 0 < dJ D := Nat.pos_of_ne_zero (fun z => c_20 (by rw [e4, z]; rfl))
          refine r_iconst (-1) C dX5_bestInDuel_25 rfl ?_
          refine r_istore C dX5_bestInDuel_26 (by decide) rfl ?_
          refine r_iconst (-1) C dX5_bestInDuel_28 rfl ?_
          refine r_istore C dX5_bestInDuel_29 (by decide) rfl ?_
          refine r_iconst (0) C dX5_bestInDuel_31 rfl ?_
          refine r_istore C dX5_bestInDuel_32 (by decide) rfl ?_
          exact (OUT 0 (Nat.zero_le _) c_20 h ⟨fun _ _ => rfl, fun _ _ => rfl⟩).sub ⟨rfl, rfl, rfl, rfl, rfl, rfl, rfl, rfl, rfl, trivial⟩
        · have c_20 : dJ D = 0 := nI_z (by omega) (e4.symm.trans c_20)
          refine r_iconst (1) C dX5_bestInDuel_23 rfl ?_
          have e0 : bsK D (bF D r v x y) v x 60 = none := bs_skip 60 (Nat.zero_le _) (fun c h1 h2 => by
            unfold canB
            rw [decide_eq_false (show ¬ c / 10 < dJ D by omega)]
            simp)
          refine r_iret C F dX5_bestInDuel_24 ⟨?_, fun _ _ => rfl, fun _ _ => rfl, fun q e => ?_⟩
          · rw [bV_s, e0]; rfl
          · have e : bsK D (bF D r v x y) v x 60 = some q := e
            rw [e0] at e; cases e
