variable {l : Launch} {E : Ev} {h : Hp}
/-! longs as sets -/
def lb (x : Int64) (S : Nat) : Bool := x.toBitVec.getLsbD S
theorem lsh_n : ∀ n, n < 64 → (((nI n).toInt64 &&& 63).toBitVec.smod 64).toNat = n := by decide +kernel
theorem lb_and1 (b : BitVec 64) : b &&& 1#64 = 0#64 ↔ b.getLsbD 0 = false := by
  constructor
  · intro q
    have := congrArg (fun z => BitVec.getLsbD z 0) q
    simpa using this
  · intro q
    apply BitVec.eq_of_getLsbD_eq
    intro i hi
    cases i with
    | zero => rw [BitVec.getLsbD_and, q]; simp
    | succ i => simp
theorem lb_c {x : Int64} {S : Nat} (hS : S < 64) : lg_cmp (x >>> ((nI S).toInt64 &&& 63) &&& 1) 0 = 0 ↔ lb x S = false := by
  rw [lg_cmp_eq, ← Int64.toBitVec_inj]
  show (x.toBitVec.sshiftRight (((nI S).toInt64 &&& 63).toBitVec.smod 64).toNat) &&& 1#64 = 0#64 ↔ _
  rw [lsh_n S hS, lb_and1, BitVec.getLsbD_sshiftRight]
  unfold lb
  simp [hS]
theorem lb_1 : ∀ S, S < 64 → lb 1 S = decide (S = 0) := by decide +kernel
theorem lb_0 : ∀ S, S < 64 → lb 0 S = false := by decide +kernel
theorem lb_or {x : Int64} {S R : Nat} (hS : S < 64) (hR : R < 64) : lb (x ||| 1 <<< ((nI R).toInt64 &&& 63)) S = (lb x S || decide (S = R)) := by
  unfold lb
  show (x.toBitVec ||| (1#64 <<< (((nI R).toInt64 &&& 63).toBitVec.smod 64).toNat)).getLsbD S = _
  rw [lsh_n R hR, BitVec.getLsbD_or, BitVec.getLsbD_shiftLeft]
  congr 1
  by_cases c : S = R
  · subst c; simp [hS]
  · rw [decide_eq_false c]
    by_cases h2 : S < R
    · simp [h2]
    · have h3 : ¬ S - R = 0 := by omega
      rw [BitVec.getLsbD_one]
      simp [h3]
theorem can_at {D : HDt} {v : Mom} {i j a : Nat} (ha : a < 10) : canB D v i (10 * j + a) = (decide (j < dJ D) && (decide (a < dL D) && (decide (¬ a = i) && (mI v).testBit a))) := by
  unfold canB
  rw [show (10 * j + a) / 10 = j by omega, show (10 * j + a) % 10 = a by omega]
def QA (h : Hp) (dp : Nat) (R : Option (List Nat)) : Pst := fun w g => w = some (.int (bz (R.isSome = true))) ∧ (∀ a, a ≠ 48 → g a = h a) ∧ (∀ k, k < dp → g 48 k = h 48 k) ∧ ∀ L k x, R = some L → L[k]? = some x → g 48 (dp + k) = nI x
theorem i32_pm (x : Int32) : x + 1 - 1 = x := by rw [Int32.add_sub_cancel]
set_option maxHeartbeats 8000000 in
theorem s5_isAloneAfter {o i : Nat} {D : HDt} (hO : isH o) (ho : o ≤ 12) (hi : i < 6) (okd : okD D) (r : Nat) : ∀ (h : Hp) (v : Mom) (dp my n : Nat), CT h o D (mN v) (mM v) → okW D v n → n + r ≤ 100 → my = dp + r → my ≤ 3 → (∀ k, k < r → alr D i k v = none) → Sp l E SHP (4 + r) M5_isAloneAfter [.ref (E.1 + 36), .int (nI (mI v)), .int (nI i), .int (nI dp), .int (nI my)] h (QA h dp (alr D i r v)) := by
  have hi5 : 2 ^ i ≤ 32 := Nat.pow_le_pow_right (n := 2) (i := i) (j := 5) (by decide) (by omega)
  induction r with
  | zero =>
    intro h v dp my n hT ok hn hmy hm3 hno
    have hm64 := okW_lt okd ok
    have hmy : my = dp := hmy
    subst hmy
    refine Sp.of (by decide) (Nat.le_of_ble_eq_true rfl) (fun X C F => ?_)
    have C : Ok X E RX5 cX5_isAloneAfter 11 := C
    have F : Fn X l E SHP (4) (some FieldType.boolean) (QA h my (alr D i 0 v)) := F
    show G X E SHP (0, 0) 0 [(0, .ref (E.1 + 36)), (1, .int (nI (mI v))), (2, .int (nI i)), (3, .int (nI my)), (4, .int (nI my))] [] h
    refine r_iload_n C dX5_isAloneAfter_0 rfl ?_
    refine r_iload C dX5_isAloneAfter_1 rfl ?_
    refine r_icmp_ge 11 C dX5_isAloneAfter_3 (by decide) (fun c_3 => ?_) (fun c_3 => ?_)
    · refine r_iload_n C dX5_isAloneAfter_11 rfl ?_
      refine r_iconst (1) C dX5_isAloneAfter_12 rfl ?_
      refine r_iload_n C dX5_isAloneAfter_13 rfl ?_
      refine r_ishl C dX5_isAloneAfter_14 ?_
      rw [shl1_nI (by omega)]
      refine r_icmp_ne 22 C dX5_isAloneAfter_15 (by decide) (fun c_15 => ?_) (fun c_15 => ?_)
      · rw [cEq (x := nI (mI v)) (c := nI (2 ^ i)) (i := mI v) (n := 2 ^ i) (rfl) (rfl) (by omega) (by omega)] at c_15
        refine r_iconst (0) C dX5_isAloneAfter_22 rfl ?_
        have e : alr D i 0 v = none := if_neg c_15
        rw [e] at F
        exact r_zret C F dX5_isAloneAfter_23 rfl ⟨rfl, fun _ _ => rfl, fun _ _ => rfl, fun L k x e1 e2 => by cases e1⟩
      · rw [cEq (x := nI (mI v)) (c := nI (2 ^ i)) (i := mI v) (n := 2 ^ i) (rfl) (rfl) (by omega) (by omega)] at c_15
        refine r_iconst (1) C dX5_isAloneAfter_18 rfl ?_
        refine r_goto 23 C dX5_isAloneAfter_19 (by decide) ?_
        have e : alr D i 0 v = some [] := if_pos c_15
        rw [e] at F
        exact r_zret C F dX5_isAloneAfter_23 rfl ⟨rfl, fun _ _ => rfl, fun _ _ => rfl, fun L k x e1 e2 => by cases e1; exact absurd e2 (by simp)⟩
    · exact absurd (Int32.le_refl _) c_3
  | succ r IH =>
    intro h v dp my n hT ok hn hmy hm3 hno
    have hm64 := okW_lt okd ok
    obtain ⟨ok1, ok2, ok3⟩ := id ok
    obtain ⟨o1, o2, o3, o4, o5, o6⟩ := id okd
    have hno2 : ∀ k, k ≤ r → alr D i k v = none := fun k hk => hno k (by omega)
    refine Sp.of (by decide) (Nat.le_of_ble_eq_true rfl) (fun X C F => ?_)
    have C : Ok X E RX5 cX5_isAloneAfter 11 := C
    have F : Fn X l E SHP (4 + (r + 1)) (some FieldType.boolean) (QA h dp (alr D i (r + 1) v)) := F
    show G X E SHP (0, 0) 0 [(0, .ref (E.1 + 36)), (1, .int (nI (mI v))), (2, .int (nI i)), (3, .int (nI dp)), (4, .int (nI my))] [] h
    have OUT : ∀ j, j ≤ dJ D → ∀ g : Hp, ((∀ a, a ≠ 48 → g a = h a) ∧ ∀ k, k < dp → g 48 k = h 48 k) → (∀ c, c < 10 * j → alP D i r v c = none) → G X E SHP (0, 0) 27 [(0, .ref (E.1 + 36)), (1, .int (nI (mI v))), (2, .int (nI i)), (3, .int (nI dp)), (4, .int (nI my)), (5, .int (nI j))] [] g := by
      refine loopN (dJ D) _ (fun j hj ih g fr hall => ?_)
      have IN : j < dJ D → ∀ a, a ≤ dL D → ∀ (g : Hp) (x : Int64), ((∀ a, a ≠ 48 → g a = h a) ∧ ∀ k, k < dp → g 48 k = h 48 k) → (∀ c, c < 10 * j + a → alP D i r v c = none) → (∀ S, S < 64 → lb x S = true → S = 0 ∨ ∃ b, b < a ∧ canB D v i (10 * j + b) = true ∧ falF D (mI v) (mN v) (mM v) i j b = S) → G X E SHP (0, 0) 45 [(0, .ref (E.1 + 36)), (1, .int (nI (mI v))), (2, .int (nI i)), (3, .int (nI dp)), (4, .int (nI my)), (5, .int (nI j)), (6, .long x), (8, .int (nI a))] [] g := by
        intro hj2
        refine loopN (dL D) _ (fun a ha ih2 g x fr hall hx => ?_)
        have hTg : CT g o D (mN v) (mM v) := CT_cg hT ho (fun b hb => fr.1 b (by omega))
        obtain ⟨q1, hH, q3, q4⟩ := id hTg
        obtain ⟨-, e1, e2, e3, e4, eL, eJ, eB, eF⟩ := id hH
        have hS64 : falF D (mI v) (mN v) (mM v) i j a < 64 := falF_64 okd _ _ _ _ _ _
        refine r_iload C dX5_isAloneAfter_45 rfl ?_
        refine r_aload_n C dX5_isAloneAfter_47 rfl ?_
        refine r_getV (o) C dX5_isAloneAfter_48 flX5_12 (rfl) rfl (q1) (by first | decide | omega) ?_
        refine r_getI C dX5_isAloneAfter_51 flX5_31 (hO.1) rfl ?_
        refine r_icmp_ge 178 C dX5_isAloneAfter_54 (by decide) (fun c_54 => ?_) (fun c_54 => ?_)
        · rw [cLe (x := g o 3) (c := nI a) (i := dL D) (n := a) (e3) (rfl) (by omega) (by omega)] at c_54
          refine r_inc (1) C dX5_isAloneAfter_178 rfl (by decide) rfl rfl ?_
          refine r_goto 27 C dX5_isAloneAfter_181 (by decide) ?_
          exact (ih (by omega) g fr (fun c hc => by
            by_cases e : c < 10 * j + a
            · exact hall c e
            · refine alP_n.mpr (fun z => ?_)
              have z1 := z.1
              unfold canB at z1
              rw [decide_eq_false (show ¬ c % 10 < dL D by omega)] at z1
              simp at z1)).sub ⟨rfl, rfl, rfl, rfl, rfl, by rw [nI_succ]; rfl, trivial⟩
        · rw [cLe (x := g o 3) (c := nI a) (i := dL D) (n := a) (e3) (rfl) (by omega) (by omega)] at c_54
          refine r_iload C dX5_isAloneAfter_57 rfl ?_
          refine r_iload_n C dX5_isAloneAfter_59 rfl ?_
          refine r_icmp_eq 172 C dX5_isAloneAfter_60 (by decide) (fun c_60 => ?_) (fun c_60 => ?_)
          · rw [cEq (x := nI a) (c := nI i) (i := a) (n := i) (rfl) (rfl) (by omega) (by omega)] at c_60
            refine r_inc (1) C dX5_isAloneAfter_172 rfl (by decide) rfl rfl ?_
            refine r_goto 45 C dX5_isAloneAfter_175 (by decide) ?_
            have hP : alP D i r v (10 * j + a) = none := alP_n.mpr (fun z => by have z1 := z.1; rw [can_at (by omega), decide_eq_false (not_not_intro c_60)] at z1; simp at z1)
            exact (ih2 (by omega) g x fr (fun c hc => by by_cases e : c = 10 * j + a; (rw [e]; exact hP); exact hall c (by omega)) (fun S y1 y2 => (hx S y1 y2).imp id (fun ⟨b, b1, b2⟩ => ⟨b, by omega, b2⟩))).sub ⟨rfl, rfl, rfl, rfl, rfl, rfl, rfl, by rw [nI_succ]; rfl, trivial⟩
          · rw [cEq (x := nI a) (c := nI i) (i := a) (n := i) (rfl) (rfl) (by omega) (by omega)] at c_60
            refine r_iload_n C dX5_isAloneAfter_63 rfl ?_
            refine r_iload C dX5_isAloneAfter_64 rfl ?_
            refine r_ishr C dX5_isAloneAfter_66 ?_
            refine r_iconst (1) C dX5_isAloneAfter_67 rfl ?_
            refine r_iand C dX5_isAloneAfter_68 ?_
            rw [bit_nI (by omega) (by omega)]
            refine r_if_ne 75 C dX5_isAloneAfter_69 (by decide) (fun c_69 => ?_) (fun c_69 => ?_)
            · have c_69 := tb_n c_69
              refine r_aload_n C dX5_isAloneAfter_75 rfl ?_
              refine r_iload_n C dX5_isAloneAfter_76 rfl ?_
              refine r_iload_n C dX5_isAloneAfter_77 rfl ?_
              refine r_iload C dX5_isAloneAfter_78 rfl ?_
              refine r_iload C dX5_isAloneAfter_80 rfl ?_
              refine r_cVi C F dX5_isAloneAfter_82 (s5_outBy hO ho hTg (m := mI v) (i := i) (j := j) (a := a) hm64 hi hj2 (by omega) (by have := ok3 j; omega)) tw_527 m5_outBy (rfl) rfl (by omega) rfl (Nat.le_of_ble_eq_true rfl) ?_
              refine r_istore C dX5_isAloneAfter_85 (by decide) rfl ?_
              refine r_lload C dX5_isAloneAfter_87 rfl ?_
              refine r_iload C dX5_isAloneAfter_89 rfl ?_
              refine r_lshr C dX5_isAloneAfter_91 ?_
              refine r_lconst (1) C dX5_isAloneAfter_92 rfl ?_
              refine r_land C dX5_isAloneAfter_93 ?_
              refine r_lconst (0) C dX5_isAloneAfter_94 rfl ?_
              refine r_lcmp C dX5_isAloneAfter_95 ?_
              refine r_if_eq 102 C dX5_isAloneAfter_96 (by decide) (fun c_96 => ?_) (fun c_96 => ?_)
              · refine r_lload C dX5_isAloneAfter_102 rfl ?_
                refine r_lconst (1) C dX5_isAloneAfter_104 rfl ?_
                refine r_iload C dX5_isAloneAfter_105 rfl ?_
                refine r_lshl C dX5_isAloneAfter_107 ?_
                refine r_lor C dX5_isAloneAfter_108 ?_
                refine r_lstore C dX5_isAloneAfter_109 (by decide) rfl ?_
                refine r_aload_n C dX5_isAloneAfter_111 rfl ?_
                refine r_getR C dX5_isAloneAfter_112 flX5_28 (rfl) rfl ?_
                refine r_iload_n C dX5_isAloneAfter_115 rfl ?_
                refine r_bipush (10) C dX5_isAloneAfter_116 rfl ?_
                refine r_iload C dX5_isAloneAfter_118 rfl ?_
                refine r_imul C dX5_isAloneAfter_120 ?_
                refine r_iload C dX5_isAloneAfter_121 rfl ?_
                refine r_iadd C dX5_isAloneAfter_123 ?_
                rw [show (10 : Int32) * nI j + nI a = nI (10 * j + a) by rw [show (10 : Int32) * nI j = nI (10 * j) from pk_mul 10 j]; exact nI_add _ _]
                refine r_iast (dp) C dX5_isAloneAfter_124 (rfl) (rfl) (by omega) (by first | decide | omega) ?_
                refine r_aload_n C dX5_isAloneAfter_125 rfl ?_
                refine r_getR C dX5_isAloneAfter_126 flX5_22 (rfl) rfl ?_
                refine r_iload C dX5_isAloneAfter_129 rfl ?_
                refine r_dup2 C dX5_isAloneAfter_131 rfl rfl ?_
                refine r_iald (j) C dX5_isAloneAfter_132 (rfl) (rfl) (by omega) (by first | decide | omega) ?_
                refine r_iconst (1) C dX5_isAloneAfter_133 rfl ?_
                refine r_iadd C dX5_isAloneAfter_134 ?_
                refine r_iast (j) C dX5_isAloneAfter_135 (rfl) (rfl) (by omega) (by first | decide | omega) ?_
                refine r_aload_n C dX5_isAloneAfter_136 rfl ?_
                refine r_iload_n C dX5_isAloneAfter_137 rfl ?_
                refine r_iload C dX5_isAloneAfter_138 rfl ?_
                refine r_iconst (-1) C dX5_isAloneAfter_140 rfl ?_
                refine r_ixor C dX5_isAloneAfter_141 ?_
                refine r_iand C dX5_isAloneAfter_142 ?_
                rw [nx_nd]
                refine r_iload_n C dX5_isAloneAfter_143 rfl ?_
                refine r_iload_n C dX5_isAloneAfter_144 rfl ?_
                refine r_iconst (1) C dX5_isAloneAfter_145 rfl ?_
                refine r_iadd C dX5_isAloneAfter_146 ?_
                rw [← nI_succ]
                refine r_iload C dX5_isAloneAfter_147 rfl ?_
                have hcan : canB D v i (10 * j + a) = true := by rw [can_at (by omega), decide_eq_true hj2, decide_eq_true (show a < dL D by omega), decide_eq_true c_60, c_69]; rfl
                have hI : mI (tl D v i (10 * j + a)) = nd (mI v) (falF D (mI v) (mN v) (mM v) i j a) := by
                  show nd (mI v) (falF D (mI v) (mN v) (mM v) i ((10 * j + a) / 10) ((10 * j + a) % 10)) = _
                  rw [show (10 * j + a) / 10 = j by omega, show (10 * j + a) % 10 = a by omega]
                have hM : ∀ k, mM (tl D v i (10 * j + a)) k = if k = j then mM v k + 1 else mM v k := fun k => by
                  show (if k = (10 * j + a) / 10 then mM v k + 1 else mM v k) = _
                  rw [show (10 * j + a) / 10 = j by omega]
                have g1a : ∀ b, b ≠ 48 → b ≠ 46 → (up (up g 48 dp (nI (10 * j + a))) 46 j (up g 48 dp (nI (10 * j + a)) 46 j + 1)) b = h b := fun b y1 y2 => by rw [up_row _ _ _ _ y2, up_row _ _ _ _ y1]; exact fr.1 b y1
                have g1b : ∀ k, (up (up g 48 dp (nI (10 * j + a))) 46 j (up g 48 dp (nI (10 * j + a)) 46 j + 1)) 46 k = if k = j then g 46 k + 1 else g 46 k := fun k => by
                  rw [up_if, up_row (a := 46) _ _ _ _ (by decide)]
                  by_cases e : k = j
                  · rw [if_pos e, if_pos e, e]
                  · rw [if_neg e, if_neg e]
                have g1c : ∀ k, (up (up g 48 dp (nI (10 * j + a))) 46 j (up g 48 dp (nI (10 * j + a)) 46 j + 1)) 48 k = if k = dp then nI (10 * j + a) else g 48 k := fun k => by
                  rw [up_row (a := 48) _ _ _ _ (by decide), up_if]
                generalize up (up g 48 dp (nI (10 * j + a))) 46 j (up g 48 dp (nI (10 * j + a)) 46 j + 1) = g1 at g1a g1b g1c ⊢
                have hT1 : CT g1 o D (mN (tl D v i (10 * j + a))) (mM (tl D v i (10 * j + a))) := by
                  refine ⟨?_, CH_cg hH (fun b y1 y2 => ?_), fun k hk => ?_, fun k hk => ?_⟩
                  · rw [g1a 36 (by decide) (by decide), ← fr.1 36 (by decide)]; exact q1
                  · rw [g1a b (by omega) (by omega), fr.1 b (by omega)]
                  · rw [g1a 45 (by decide) (by decide), ← fr.1 45 (by decide)]; exact q3 k hk
                  · rw [g1b, hM]
                    by_cases e : k = j
                    · rw [if_pos e, if_pos e, q4 k hk]; exact (nI_succ _).symm
                    · rw [if_neg e, if_neg e]; exact q4 k hk
                have ihc := IH g1 (tl D v i (10 * j + a)) (dp + 1) my (n + 1) hT1 (okW_tl ok i (10 * j + a)) (by omega) (by omega) hm3 (alr_below okd hno2 hcan)
                rw [hI] at ihc
                refine r_callV C F dX5_isAloneAfter_149 (ihc) tw_523 m5_isAloneAfter (rfl) rfl (by omega) rfl (Nat.le_of_ble_eq_true rfl) (fun w2 g2 q => ?_)
                obtain ⟨rfl, z1, z2, z3⟩ := q
                have fr3 : (∀ b, b ≠ 48 → up g2 46 j (g2 46 j - 1) b = h b) ∧ ∀ k, k < dp → up g2 46 j (g2 46 j - 1) 48 k = h 48 k := by
                  refine ⟨fun b hb => ?_, fun k hk => ?_⟩
                  · by_cases e : b = 46
                    · subst e
                      refine funext fun k => ?_
                      rw [up_if, z1 46 (by decide), g1b, g1b, ← fr.1 46 (by decide)]
                      by_cases y : k = j
                      · rw [if_pos y, if_pos rfl, i32_pm, y]
                      · rw [if_neg y, if_neg y]
                    · rw [up_row _ _ _ _ e, z1 b hb]; exact g1a b hb e
                  · rw [up_row _ _ _ _ (by decide), z2 k (by omega), g1c, if_neg (by omega)]; exact fr.2 k hk
                show G X E SHP (0, 0) 152 _ [.int (bz ((alr D i r (tl D v i (10 * j + a))).isSome = true))] g2
                refine r_istore C dX5_isAloneAfter_152 (by decide) rfl ?_
                refine r_aload_n C dX5_isAloneAfter_154 rfl ?_
                refine r_getR C dX5_isAloneAfter_155 flX5_22 (rfl) rfl ?_
                refine r_iload C dX5_isAloneAfter_158 rfl ?_
                refine r_dup2 C dX5_isAloneAfter_160 rfl rfl ?_
                refine r_iald (j) C dX5_isAloneAfter_161 (rfl) (rfl) (by omega) (by first | decide | omega) ?_
                refine r_iconst (1) C dX5_isAloneAfter_162 rfl ?_
                refine r_isub C dX5_isAloneAfter_163 ?_
                refine r_iast (j) C dX5_isAloneAfter_164 (rfl) (rfl) (by omega) (by first | decide | omega) ?_
                refine r_iload C dX5_isAloneAfter_165 rfl ?_
                refine r_if_eq 172 C dX5_isAloneAfter_167 (by decide) (fun c_167 => ?_) (fun c_167 => ?_)
                · refine r_inc (1) C dX5_isAloneAfter_172 rfl (by decide) rfl rfl ?_
                  refine r_goto 45 C dX5_isAloneAfter_175 (by decide) ?_
                  rw [bz_eq0] at c_167
                  have hP : alP D i r v (10 * j + a) = none := alP_n.mpr (fun y => c_167 (by
                    cases hr : alr D i r (tl D v i (10 * j + a)) with
                    | none => exact absurd hr y.2
                    | some L => rfl))
                  refine (ih2 (by omega) _ _ fr3 (fun c hc => by by_cases e : c = 10 * j + a; (rw [e]; exact hP); exact hall c (by omega)) (fun S y1 y2 => ?_)).sub ⟨rfl, rfl, rfl, rfl, rfl, rfl, rfl, by rw [nI_succ]; rfl, trivial⟩
                  rw [lb_or y1 hS64, Bool.or_eq_true, decide_eq_true_eq] at y2
                  rcases y2 with y2 | y2
                  · exact (hx S y1 y2).imp id (fun ⟨b, b1, b2⟩ => ⟨b, by omega, b2⟩)
                  · exact Or.inr ⟨a, by omega, hcan, y2.symm⟩
                · refine r_iconst (1) C dX5_isAloneAfter_170 rfl ?_
                  rw [bz_ne0] at c_167
                  cases hr : alr D i r (tl D v i (10 * j + a)) with
                  | none => rw [hr] at c_167; cases c_167
                  | some L =>
                    have hP : alP D i r v (10 * j + a) = some ((10 * j + a) :: L) := by unfold alP; rw [if_pos hcan, hr]; rfl
                    have e : alr D i (r + 1) v = some ((10 * j + a) :: L) := fst_at 60 0 (Nat.zero_le _) (by omega) (fun b _ hb => hall b hb) hP
                    rw [e] at F
                    refine r_zret C F dX5_isAloneAfter_171 rfl ⟨rfl, fr3.1, fr3.2, fun L2 k y e1 e2 => ?_⟩
                    cases e1
                    rw [up_row _ _ _ _ (by decide)]
                    cases k with
                    | zero => cases e2; rw [z2 (dp + 0) (by omega), g1c, if_pos (by omega)]
                    | succ k => rw [show dp + (k + 1) = dp + 1 + k by omega]; exact z3 L k y hr e2
              · refine r_goto 172 C dX5_isAloneAfter_99 (by decide) ?_
                refine r_inc (1) C dX5_isAloneAfter_172 rfl (by decide) rfl rfl ?_
                refine r_goto 45 C dX5_isAloneAfter_175 (by decide) ?_
                have c_96 : lb x (falF D (mI v) (mN v) (mM v) i j a) = true := by
                  cases hb : lb x (falF D (mI v) (mN v) (mM v) i j a) with
                  | true => rfl
                  | false => exact absurd ((lb_c hS64).mpr hb) c_96
                have hP : alP D i r v (10 * j + a) = none := by
                  rcases hx _ hS64 c_96 with z | ⟨b, b1, b2, b3⟩
                  · exact alP_n.mpr (fun y => y.2 (alr_prune okd hno2 (by rw [show (10 * j + a) / 10 = j by omega, show (10 * j + a) % 10 = a by omega]; exact z)))
                  · have h1 := hall (10 * j + b) (by omega)
                    refine alP_n.mpr (fun y => alP_n.mp h1 ⟨b2, ?_⟩)
                    rw [tl_same (show b < 10 by omega) (show a < 10 by omega) b3]
                    exact y.2
                exact (ih2 (by omega) g x fr (fun c hc => by by_cases e : c = 10 * j + a; (rw [e]; exact hP); exact hall c (by omega)) (fun S y1 y2 => (hx S y1 y2).imp id (fun ⟨b, b1, b2⟩ => ⟨b, by omega, b2⟩))).sub ⟨rfl, rfl, rfl, rfl, rfl, rfl, rfl, by rw [nI_succ]; rfl, trivial⟩
            · have c_69 := tb_z c_69
              refine r_goto 172 C dX5_isAloneAfter_72 (by decide) ?_
              refine r_inc (1) C dX5_isAloneAfter_172 rfl (by decide) rfl rfl ?_
              refine r_goto 45 C dX5_isAloneAfter_175 (by decide) ?_
              have hP : alP D i r v (10 * j + a) = none := alP_n.mpr (fun z => by have z1 := z.1; rw [can_at (by omega), c_69] at z1; simp at z1)
              exact (ih2 (by omega) g x fr (fun c hc => by by_cases e : c = 10 * j + a; (rw [e]; exact hP); exact hall c (by omega)) (fun S y1 y2 => (hx S y1 y2).imp id (fun ⟨b, b1, b2⟩ => ⟨b, by omega, b2⟩))).sub ⟨rfl, rfl, rfl, rfl, rfl, rfl, rfl, by rw [nI_succ]; rfl, trivial⟩
      have hTg : CT g o D (mN v) (mM v) := CT_cg hT ho (fun b hb => fr.1 b (by omega))
      obtain ⟨q1, hH, q3, q4⟩ := id hTg
      obtain ⟨-, e1, e2, e3, e4, eL, eJ, eB, eF⟩ := id hH
      refine r_iload C dX5_isAloneAfter_27 rfl ?_
      refine r_aload_n C dX5_isAloneAfter_29 rfl ?_
      refine r_getV (o) C dX5_isAloneAfter_30 flX5_12 (rfl) rfl (q1) (by first | decide | omega) ?_
      refine r_getI C dX5_isAloneAfter_33 flX5_44 (hO.1) rfl ?_
      refine r_icmp_ge 184 C dX5_isAloneAfter_36 (by decide) (fun c_36 => ?_) (fun c_36 => ?_)
      · rw [cLe (x := g o 4) (c := nI j) (i := dJ D) (n := j) (e4) (rfl) (by omega) (by omega)] at c_36
        refine r_iconst (0) C dX5_isAloneAfter_184 rfl ?_
        have e : alr D i (r + 1) v = none := fst_all 60 0 (fun c _ hc => by
          by_cases e : c < 10 * j
          · exact hall c e
          · refine alP_n.mpr (fun z => ?_)
            have z1 := z.1
            unfold canB at z1
            rw [decide_eq_false (show ¬ c / 10 < dJ D by omega)] at z1
            simp at z1)
        rw [e] at F
        exact r_zret C F dX5_isAloneAfter_185 rfl ⟨rfl, fr.1, fr.2, fun L k x e1 e2 => by cases e1⟩
      · rw [cLe (x := g o 4) (c := nI j) (i := dJ D) (n := j) (e4) (rfl) (by omega) (by omega)] at c_36
        refine r_lconst (1) C dX5_isAloneAfter_39 rfl ?_
        refine r_lstore C dX5_isAloneAfter_40 (by decide) rfl ?_
        refine r_iconst (0) C dX5_isAloneAfter_42 rfl ?_
        refine r_istore C dX5_isAloneAfter_43 (by decide) rfl ?_
        exact (IN (by omega) 0 (Nat.zero_le _) g 1 fr hall (fun S y1 y2 => by rw [lb_1 S y1, decide_eq_true_eq] at y2; exact Or.inl y2)).sub ⟨rfl, rfl, rfl, rfl, rfl, rfl, rfl, rfl, trivial⟩
    refine r_iload_n C dX5_isAloneAfter_0 rfl ?_
    refine r_iload C dX5_isAloneAfter_1 rfl ?_
    refine r_icmp_ge 11 C dX5_isAloneAfter_3 (by decide) (fun c_3 => ?_) (fun c_3 => ?_)
    · exact absurd ((cLe (x := nI my) (c := nI dp) (i := my) (n := dp) rfl rfl (by omega) (by omega)).mp c_3) (by omega)
    · refine r_iload_n C dX5_isAloneAfter_6 rfl ?_
      refine r_iconst (3) C dX5_isAloneAfter_7 rfl ?_
      refine r_icmp_lt 24 C dX5_isAloneAfter_8 (by decide) (fun c_8 => ?_) (fun c_8 => ?_)
      · refine r_iconst (0) C dX5_isAloneAfter_24 rfl ?_
        refine r_istore C dX5_isAloneAfter_25 (by decide) rfl ?_
        exact (OUT 0 (Nat.zero_le _) h ⟨fun _ _ => rfl, fun _ _ => rfl⟩ (fun c hc => absurd hc (Nat.not_lt_zero c))).sub ⟨rfl, rfl, rfl, rfl, rfl, rfl, trivial⟩
      · exact absurd ((cLt (x := nI dp) (c := 3) (i := dp) (n := 3) rfl rfl (by omega) (by omega)).mpr (by omega)) c_8
