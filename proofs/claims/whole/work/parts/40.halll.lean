variable {l : Launch} {E : Ev} {h : Hp}
def fon (f : Nat → Int32) (t L k : Nat) : Nat → Int32 := fun m => if m < k ∧ t.testBit m = true then f m ||| nI (2 ^ L) else f m
theorem fon_0 (f : Nat → Int32) (t L : Nat) : fon f t L 0 = f := funext fun m => if_neg (fun z => absurd z.1 (Nat.not_lt_zero m))
theorem fon_f {f : Nat → Int32} {t L k : Nat} (q : t.testBit k = false) : fon f t L k = fon f t L (k + 1) := funext fun m => by
  unfold fon
  by_cases c : m < k ∧ t.testBit m = true
  · rw [if_pos c, if_pos ⟨by omega, c.2⟩]
  · rw [if_neg c, if_neg]
    intro z
    by_cases e : m = k
    · rw [e, q] at z; cases z.2
    · exact c ⟨by omega, z.2⟩
theorem fon_t {f : Nat → Int32} {t L k : Nat} (q : t.testBit k = true) {x : Int32} (hx : x = fon f t L k k ||| nI (2 ^ L)) : upd (fon f t L k) k x = fon f t L (k + 1) := funext fun m => by
  subst hx
  unfold upd fon
  by_cases e : m = k
  · subst e
    rw [if_pos rfl, if_neg (fun z => absurd z.1 (Nat.lt_irrefl m)), if_pos ⟨Nat.lt_succ_self m, q⟩]
  · rw [if_neg e]
    by_cases c : m < k ∧ t.testBit m = true
    · rw [if_pos c, if_pos ⟨by omega, c.2⟩]
    · rw [if_neg c, if_neg (fun z => c ⟨by omega, z.2⟩)]
theorem up_if (h : Hp) (i k : Nat) (x : Int32) (b : Nat) : up h i k x i b = if b = k then x else h i b := by
  rw [up_at]
  by_cases c : b = k
  · rw [if_pos ⟨rfl, c⟩, if_pos c]
  · rw [if_neg (fun z => c z.2), if_neg c]
theorem lset_new {p q : Nat → Bool} {L : Nat} (e : ∀ i, i < L → p i = q i) : nI (lset p (L + 1)) = if p L = true then nI (lset q L) ||| nI (2 ^ L) else nI (lset q L) := by
  show nI (lset p L ||| (if p L then 2 ^ L else 0)) = _
  rw [lset_congr L e]
  by_cases c : p L = true
  · rw [if_pos c, if_pos c, nx_or]
  · rw [if_neg c, if_neg c, Nat.or_zero]
set_option maxHeartbeats 4000000 in
theorem s0_addLord {o : Nat} {D : HDt} (hO : isH o) (hH : CHl h o D) {b s t : Nat} (ok : okD (addL D b s t)) (hl : dL D < 6) (hb : b < 3) (ht : t ≤ 15) : Sp l E SHP 0 M0_addLord [.ref (E.1 + o), .int (nI b), .int (nI s), .int (nI t)] h (QH o (h o 0) h (addL D b s t)) := by
  refine Sp.of (by decide) (Nat.le_of_ble_eq_true rfl) (fun X C F => ?_)
  have C : Ok X E RX0 cX0_addLord 5 := C
  have F : Fn X l E SHP 0 none (QH o (h o 0) h (addL D b s t)) := F
  show G X E SHP (0, 0) 0 [(0, .ref (E.1 + o)), (1, .int (nI b)), (2, .int (nI s)), (3, .int (nI t))] [] h
  obtain ⟨okd, e1, e2, e3, e4, eL, eJ, eB, eF⟩ := id hH
  obtain ⟨o1, o2, o3, o4, o5, o6⟩ := id okd
  refine r_aload_n C dX0_addLord_0 rfl ?_
  refine r_getI C dX0_addLord_1 flX0_44 (hO.1) rfl ?_
  refine r_bipush (6) C dX0_addLord_4 rfl ?_
  refine r_icmp_ge 18 C dX0_addLord_6 (by decide) (fun c_6 => ?_) (fun c_6 => ?_)
  · rw [cLe (x := 6) (c := h o 3) (i := 6) (n := dL D) (rfl) (e3) (by omega) (by omega)] at c_6
    omega
  · rw [cLe (x := 6) (c := h o 3) (i := 6) (n := dL D) (rfl) (e3) (by omega) (by omega)] at c_6
    refine r_iload_n C dX0_addLord_9 rfl ?_
    refine r_if_lt 18 C dX0_addLord_10 (by decide) (fun c_10 => ?_) (fun c_10 => ?_)
    · rw [cLt (x := nI b) (c := 0) (i := b) (n := 0) (rfl) (rfl) (by omega) (by omega)] at c_10
      omega
    · rw [cLt (x := nI b) (c := 0) (i := b) (n := 0) (rfl) (rfl) (by omega) (by omega)] at c_10
      refine r_iload_n C dX0_addLord_13 rfl ?_
      refine r_iconst (3) C dX0_addLord_14 rfl ?_
      refine r_icmp_lt 19 C dX0_addLord_15 (by decide) (fun c_15 => ?_) (fun c_15 => ?_)
      · rw [cLt (x := nI b) (c := 3) (i := b) (n := 3) (rfl) (rfl) (by omega) (by omega)] at c_15
        refine r_aload_n C dX0_addLord_19 rfl ?_
        refine r_getR C dX0_addLord_20 flX0_9 (hO.1) rfl ?_
        refine r_aload_n C dX0_addLord_23 rfl ?_
        refine r_getI C dX0_addLord_24 flX0_44 (hO.1) rfl ?_
        refine r_iload_n C dX0_addLord_27 rfl ?_
        refine r_iast (dL D) C dX0_addLord_28 (hO.2.1) (e3) (by omega) (by decide) ?_
        refine r_aload_n C dX0_addLord_29 rfl ?_
        refine r_getR C dX0_addLord_30 flX0_15 (hO.1) rfl ?_
        refine r_aload_n C dX0_addLord_33 rfl ?_
        refine r_getI C dX0_addLord_34 flX0_44 (hO.1) rfl ?_
        refine r_iload_n C dX0_addLord_37 rfl ?_
        refine r_iast (dL D) C dX0_addLord_38 (hO.2.2.1) (by rw [up_row _ _ _ _ (by omega)]; exact e3) (by omega) (by decide) ?_
        refine r_aload_n C dX0_addLord_39 rfl ?_
        refine r_getR C dX0_addLord_40 flX0_18 (hO.1) rfl ?_
        refine r_aload_n C dX0_addLord_43 rfl ?_
        refine r_getI C dX0_addLord_44 flX0_44 (hO.1) rfl ?_
        refine r_iload_n C dX0_addLord_47 rfl ?_
        refine r_iast (dL D) C dX0_addLord_48 (hO.2.2.2.1) (by rw [up_row _ _ _ _ (by omega), up_row _ _ _ _ (by omega)]; exact e3) (by omega) (by decide) ?_
        refine r_aload_n C dX0_addLord_49 rfl ?_
        refine r_getR C dX0_addLord_50 flX0_27 (hO.1) rfl ?_
        refine r_iload_n C dX0_addLord_53 rfl ?_
        refine r_dup2 C dX0_addLord_54 rfl rfl ?_
        refine r_iald (b) C dX0_addLord_55 (hO.2.2.2.2.2.2.1) (rfl) (by omega) (by decide) ?_
        refine r_iconst (1) C dX0_addLord_56 rfl ?_
        refine r_aload_n C dX0_addLord_57 rfl ?_
        refine r_getI C dX0_addLord_58 flX0_44 (hO.1) rfl ?_
        refine r_ishl C dX0_addLord_61 ?_
        refine r_ior C dX0_addLord_62 ?_
        refine r_iast (b) C dX0_addLord_63 (hO.2.2.2.2.2.2.1) (rfl) (by omega) (by decide) ?_
        rw [show (up (up (up h (o + 1) (dL D) (nI b)) (o + 2) (dL D) (nI s)) (o + 3) (dL D) (nI t)) (o + 6) b ||| 1 <<< ((up (up (up h (o + 1) (dL D) (nI b)) (o + 2) (dL D) (nI s)) (o + 3) (dL D) (nI t)) o 3 &&& 31) = h (o + 6) b ||| nI (2 ^ dL D) by rw [up_row (a := o + 6) _ _ _ _ (by omega), up_row (a := o + 6) _ _ _ _ (by omega), up_row (a := o + 6) _ _ _ _ (by omega), up_row (a := o) _ _ _ _ (by omega), up_row (a := o) _ _ _ _ (by omega), up_row (a := o) _ _ _ _ (by omega), e3, shl1_nI (by omega)]]
        have fa : ∀ a, a < o + 1 ∨ o + 6 < a ∨ a = o + 4 ∨ a = o + 5 → (up (up (up (up h (o + 1) (dL D) (nI b)) (o + 2) (dL D) (nI s)) (o + 3) (dL D) (nI t)) (o + 6) b (h (o + 6) b ||| nI (2 ^ dL D))) a = h a := fun a ha => by rw [up_row _ _ _ _ (by omega), up_row _ _ _ _ (by omega), up_row _ _ _ _ (by omega), up_row _ _ _ _ (by omega)]
        have f1 : ∀ i, (up (up (up (up h (o + 1) (dL D) (nI b)) (o + 2) (dL D) (nI s)) (o + 3) (dL D) (nI t)) (o + 6) b (h (o + 6) b ||| nI (2 ^ dL D))) (o + 1) i = if i = dL D then nI b else h (o + 1) i := fun i => by rw [up_row (a := o + 1) _ _ _ _ (by omega), up_row (a := o + 1) _ _ _ _ (by omega), up_row (a := o + 1) _ _ _ _ (by omega), up_if]
        have f2 : ∀ i, (up (up (up (up h (o + 1) (dL D) (nI b)) (o + 2) (dL D) (nI s)) (o + 3) (dL D) (nI t)) (o + 6) b (h (o + 6) b ||| nI (2 ^ dL D))) (o + 2) i = if i = dL D then nI s else h (o + 2) i := fun i => by rw [up_row (a := o + 2) _ _ _ _ (by omega), up_row (a := o + 2) _ _ _ _ (by omega), up_if, up_row (a := o + 2) _ _ _ _ (by omega)]
        have f3 : ∀ i, (up (up (up (up h (o + 1) (dL D) (nI b)) (o + 2) (dL D) (nI s)) (o + 3) (dL D) (nI t)) (o + 6) b (h (o + 6) b ||| nI (2 ^ dL D))) (o + 3) i = if i = dL D then nI t else h (o + 3) i := fun i => by rw [up_row (a := o + 3) _ _ _ _ (by omega), up_if, up_row (a := o + 3) _ _ _ _ (by omega), up_row (a := o + 3) _ _ _ _ (by omega)]
        have f6 : ∀ c, (up (up (up (up h (o + 1) (dL D) (nI b)) (o + 2) (dL D) (nI s)) (o + 3) (dL D) (nI t)) (o + 6) b (h (o + 6) b ||| nI (2 ^ dL D))) (o + 6) c = if c = b then h (o + 6) b ||| nI (2 ^ dL D) else h (o + 6) c := fun c => by rw [up_if, up_row (a := o + 6) _ _ _ _ (by omega), up_row (a := o + 6) _ _ _ _ (by omega), up_row (a := o + 6) _ _ _ _ (by omega)]
        generalize up (up (up (up h (o + 1) (dL D) (nI b)) (o + 2) (dL D) (nI s)) (o + 3) (dL D) (nI t)) (o + 6) b (h (o + 6) b ||| nI (2 ^ dL D)) = g0 at fa f1 f2 f3 f6 ⊢
        have L1 : ∀ k, k ≤ 4 → G X E SHP (0, 0) 67 [(0, .ref (E.1 + o)), (3, .int (nI t)), (4, .int (nI k))] [] (upr g0 (o + 7) (fon (h (o + 7)) t (dL D) k)) := by
          refine loopN 4 _ (fun k hk ih => ?_)
          refine r_iload C dX0_addLord_67 rfl ?_
          refine r_iconst (4) C dX0_addLord_69 rfl ?_
          refine r_icmp_ge 104 C dX0_addLord_70 (by decide) (fun c_70 => ?_) (fun c_70 => ?_)
          · rw [cLe (x := 4) (c := nI k) (i := 4) (n := k) (rfl) (rfl) (by omega) (by omega)] at c_70
            refine r_aload_n C dX0_addLord_104 rfl ?_
            refine r_dup C dX0_addLord_105 rfl ?_
            refine r_getI C dX0_addLord_106 flX0_44 (hO.1) rfl ?_
            refine r_iconst (1) C dX0_addLord_109 rfl ?_
            refine r_iadd C dX0_addLord_110 ?_
            refine r_putI C dX0_addLord_111 fwX0_44 (hO.1) rfl ?_
            have hk2 : k = 4 := by omega
            subst hk2
            refine r_vret C F dX0_addLord_114 ⟨rfl, ?_, ⟨ok, ?_, ?_, ?_, ?_, fun i hi => ?_, ?_, fun c hc => ?_, fun m hm => ?_⟩, fun a ha => ?_⟩
            · rw [up_off _ _ _ _ (by decide), upr_row (a := o) _ _ _ (by omega), fa o (by omega)]
            · rw [up_off _ _ _ _ (by decide), upr_row (a := o) _ _ _ (by omega), fa o (by omega)]; exact e1
            · rw [up_off _ _ _ _ (by decide), upr_row (a := o) _ _ _ (by omega), fa o (by omega)]; exact e2
            · rw [up_self, upr_row (a := o) _ _ _ (by omega), fa o (by omega), e3]; exact (nI_succ _).symm
            · rw [up_off _ _ _ _ (by decide), upr_row (a := o) _ _ _ (by omega), fa o (by omega)]; exact e4
            · have hi : i < dL D + 1 := hi
              show _ = nI (if i = dL D then b else dB D i) ∧ _ = nI (if i = dL D then s else dS D i) ∧ _ = nI (if i = dL D then t else dT D i)
              rw [up_row (a := o + 1) _ _ _ _ (by omega), upr_row (a := o + 1) _ _ _ (by omega), f1, up_row (a := o + 2) _ _ _ _ (by omega), upr_row (a := o + 2) _ _ _ (by omega), f2, up_row (a := o + 3) _ _ _ _ (by omega), upr_row (a := o + 3) _ _ _ (by omega), f3]
              by_cases c : i = dL D
              · rw [if_pos c, if_pos c, if_pos c, if_pos c, if_pos c, if_pos c]; exact ⟨rfl, rfl, rfl⟩
              · rw [if_neg c, if_neg c, if_neg c, if_neg c, if_neg c, if_neg c]; exact eL i (by omega)
            · rw [up_row (a := o + 4) _ _ _ _ (by omega), upr_row (a := o + 4) _ _ _ (by omega), fa (o + 4) (by omega), up_row (a := o + 5) _ _ _ _ (by omega), upr_row (a := o + 5) _ _ _ (by omega), fa (o + 5) (by omega)]; exact eJ
            · rw [up_row (a := o + 6) _ _ _ _ (by omega), upr_row (a := o + 6) _ _ _ (by omega), f6]
              refine Eq.trans ?_ (lset_new (p := fun i => (if i = dL D then b else dB D i) == c) (q := fun i => dB D i == c) (L := dL D) (fun i hi => by show ((if i = dL D then b else dB D i) == c) = (dB D i == c); rw [if_neg (by omega)])).symm
              by_cases z : c = b
              · rw [if_pos z, if_pos (by simp [z]), ← eB c hc, z]
              · rw [if_neg z, if_neg (by simp; omega), ← eB c hc]
            · rw [up_row (a := o + 7) _ _ _ _ (by omega), upr_self]
              refine Eq.trans ?_ (lset_new (p := fun i => (if i = dL D then t else dT D i).testBit m) (q := fun i => (dT D i).testBit m) (L := dL D) (fun i hi => by show (if i = dL D then t else dT D i).testBit m = (dT D i).testBit m; rw [if_neg (by omega)])).symm
              unfold fon
              by_cases z : t.testBit m = true
              · rw [if_pos ⟨hm, z⟩, if_pos (by simp [z]), ← eF m hm]
              · rw [if_neg (fun y => z y.2), if_neg (by simp [z]), ← eF m hm]
            · rw [up_row _ _ _ _ (by omega), upr_row _ _ _ (by omega)]; exact fa a (by omega)
          · rw [cLe (x := 4) (c := nI k) (i := 4) (n := k) (rfl) (rfl) (by omega) (by omega)] at c_70
            refine r_iload_n C dX0_addLord_73 rfl ?_
            refine r_iload C dX0_addLord_74 rfl ?_
            refine r_ishr C dX0_addLord_76 ?_
            refine r_iconst (1) C dX0_addLord_77 rfl ?_
            refine r_iand C dX0_addLord_78 ?_
            rw [bit_nI (by omega) (by omega)]
            refine r_if_eq 98 C dX0_addLord_79 (by decide) (fun c_79 => ?_) (fun c_79 => ?_)
            · have c_79 : t.testBit k = false := by
                cases hb : t.testBit k with
                | false => rfl
                | true => rw [hb] at c_79; exact absurd c_79 (by decide)
              refine r_inc (1) C dX0_addLord_98 rfl (by decide) rfl rfl ?_
              refine r_goto 67 C dX0_addLord_101 (by decide) ?_
              exact (G.eq (ih (by omega)) rfl rfl (by rw [fon_f c_79])).sub ⟨rfl, rfl, by rw [nI_succ]; rfl, trivial⟩
            · have c_79 : t.testBit k = true := by
                cases hb : t.testBit k with
                | true => rfl
                | false => rw [hb] at c_79; exact absurd rfl c_79
              refine r_aload_n C dX0_addLord_82 rfl ?_
              refine r_getR C dX0_addLord_83 flX0_30 (hO.1) rfl ?_
              refine r_iload C dX0_addLord_86 rfl ?_
              refine r_dup2 C dX0_addLord_88 rfl rfl ?_
              refine r_iald (k) C dX0_addLord_89 (hO.2.2.2.2.2.2.2) (rfl) (by omega) (by decide) ?_
              refine r_iconst (1) C dX0_addLord_90 rfl ?_
              refine r_aload_n C dX0_addLord_91 rfl ?_
              refine r_getI C dX0_addLord_92 flX0_44 (hO.1) rfl ?_
              refine r_ishl C dX0_addLord_95 ?_
              refine r_ior C dX0_addLord_96 ?_
              refine r_iast (k) C dX0_addLord_97 (hO.2.2.2.2.2.2.2) (rfl) (by omega) (by decide) ?_
              refine r_inc (1) C dX0_addLord_98 rfl (by decide) rfl rfl ?_
              refine r_goto 67 C dX0_addLord_101 (by decide) ?_
              exact (G.eq (ih (by omega)) rfl rfl (by rw [up_upr]; exact congrArg _ (fon_t c_79 (by rw [upr_self, upr_row (a := o) _ _ _ (by omega), fa o (by omega), e3, shl1_nI (by omega)])))).sub ⟨rfl, rfl, by rw [nI_succ]; rfl, trivial⟩
        refine r_iconst (0) C dX0_addLord_64 rfl ?_
        refine r_istore C dX0_addLord_65 (by decide) rfl ?_
        exact (G.eq (L1 0 (by omega)) rfl rfl (by rw [fon_0, ← fa (o + 7) (by omega)]; exact (upr_id rfl).symm)).sub ⟨rfl, rfl, rfl, trivial⟩
      · rw [cLt (x := nI b) (c := 3) (i := b) (n := 3) (rfl) (rfl) (by omega) (by omega)] at c_15
        omega
