variable {l : Launch} {E : Ev} {h : Hp}
theorem b01_z {b : Bool} (q : b01 b = 0) : ¬ b = true := by
  cases b with
  | false => exact fun z => by cases z
  | true => exact absurd q (show ¬ (1 : Int32) = 0 by decide)
theorem b01_n {b : Bool} (q : ¬ b01 b = 0) : b = true := by
  cases b with
  | false => exact absurd rfl q
  | true => rfl
theorem getD_of {α : Type} {L : List α} {k : Nat} {d : α} (hk : k < L.length) : L[k]? = some (L.getD k d) := by
  rw [List.getD_eq_getElem?_getD, List.getElem?_eq_getElem hk]
  rfl
set_option maxHeartbeats 4000000 in
theorem s8_hall {A : At} (hA : MA h A) : Sp l E SHP 6 M8_hall [.ref (E.1 + 49)] h (QM h (opHall A)) := by
  refine Sp.of (by decide) (Nat.le_of_ble_eq_true rfl) (fun X C F => ?_)
  have C : Ok X E RX8 cX8_hall 3 := C
  have F : Fn X l E SHP 6 (some FieldType.int) (QM h (opHall A)) := F
  show G X E SHP (0, 0) 0 [(0, .ref (E.1 + 49))] [] h
  obtain ⟨⟨a1, a2, a3, a4, a5, a6, a7, a8, a9, a10, a11, a12⟩, ⟨b1, b2⟩, b3, b4, b5, b6, b7, ⟨b8, b9⟩, b10, ⟨b11, b12⟩, b13, b14⟩ := id hA
  have hT : TX h (h 50) (aX A).length := ⟨rfl, b1, a1, (fun k hk => by have q := b2 k _ (getD_of (d := 0) hk); rw [q.1]; exact q.2)⟩
  have hp := prs_cg (t := h 50) (u := fun k => (aX A).getD k 0) (n := (aX A).length) (fun k hk => (b2 k _ (getD_of (d := 0) hk)).1) ((aX A).length + 1) 0 false D0 (Nat.zero_le _)
  refine r_aload_n C dX8_hall_0 rfl ?_
  refine r_callV C F dX8_hall_1 (s8_isRead hT) tw_799 m8_isRead (rfl) rfl (by decide) rfl (Nat.le_of_ble_eq_true rfl) (fun v g hq => ?_)
  obtain ⟨rfl, hq⟩ := hq
  refine r_istore_n C dX8_hall_4 (by decide) rfl ?_
  refine r_aload_n C dX8_hall_5 rfl ?_
  refine r_iconst (0) C dX8_hall_6 rfl ?_
  refine r_putI C dX8_hall_7 fwX8_87 (rfl) rfl ?_
  refine r_iload_n C dX8_hall_10 rfl ?_
  refine r_if_ne 22 C dX8_hall_11 (by decide) (fun c_11 => ?_) (fun c_11 => ?_)
  · obtain ⟨⟨hh, D⟩, hx⟩ := rdB_t c_11
    rw [hx] at hq hp
    have hO : opHall A = (nI (dL D), ([], -1, hh, D, aS A, beginA D, [], (fun _ => none), [], [])) := by unfold opHall; rw [← hp]
    obtain ⟨hP, s1, s2, s3, s4, s5, s6, okd, s8⟩ := hq
    have o1 : dL D ≤ 6 := okd.1
    have o2 : dJ D ≤ 6 := okd.2.1
    refine r_aload_n C dX8_hall_22 rfl ?_
    refine r_iconst (-1) C dX8_hall_23 rfl ?_
    refine r_putI C dX8_hall_24 fwX8_13 (rfl) rfl ?_
    refine r_aload_n C dX8_hall_27 rfl ?_
    refine r_aload_n C dX8_hall_28 rfl ?_
    refine r_getI C dX8_hall_29 flX8_119 (rfl) rfl ?_
    refine r_putZ C dX8_hall_32 fwX8_148 (rfl) rfl (by first | exact Or.inl rfl | exact Or.inr rfl | (show g 49 9 = 0 ∨ g 49 9 = 1; rw [s1]; exact b01_01 _)) ?_
    refine r_aload_n C dX8_hall_35 rfl ?_
    refine r_aload_n C dX8_hall_36 rfl ?_
    refine r_getI C dX8_hall_37 flX8_127 (rfl) rfl ?_
    refine r_putI C dX8_hall_40 fwX8_72 (rfl) rfl ?_
    refine r_aload_n C dX8_hall_43 rfl ?_
    refine r_aload_n C dX8_hall_44 rfl ?_
    refine r_getI C dX8_hall_45 flX8_130 (rfl) rfl ?_
    refine r_putI C dX8_hall_48 fwX8_79 (rfl) rfl ?_
    have fa : ∀ a, a ≠ 49 → (up (up (up (up (up g 49 0 0) 49 7 (-1)) 49 15 ((up (up g 49 0 0) 49 7 (-1)) 49 9)) 49 16 ((up (up (up g 49 0 0) 49 7 (-1)) 49 15 ((up (up g 49 0 0) 49 7 (-1)) 49 9)) 49 10)) 49 17 ((up (up (up (up g 49 0 0) 49 7 (-1)) 49 15 ((up (up g 49 0 0) 49 7 (-1)) 49 9)) 49 16 ((up (up (up g 49 0 0) 49 7 (-1)) 49 15 ((up (up g 49 0 0) 49 7 (-1)) 49 9)) 49 10)) 49 11)) a = g a := fun a ha => by rw [up_row _ _ _ _ ha, up_row _ _ _ _ ha, up_row _ _ _ _ ha, up_row _ _ _ _ ha, up_row _ _ _ _ ha]
    have fk : ∀ k, 17 < k → (up (up (up (up (up g 49 0 0) 49 7 (-1)) 49 15 ((up (up g 49 0 0) 49 7 (-1)) 49 9)) 49 16 ((up (up (up g 49 0 0) 49 7 (-1)) 49 15 ((up (up g 49 0 0) 49 7 (-1)) 49 9)) 49 10)) 49 17 ((up (up (up (up g 49 0 0) 49 7 (-1)) 49 15 ((up (up g 49 0 0) 49 7 (-1)) 49 9)) 49 16 ((up (up (up g 49 0 0) 49 7 (-1)) 49 15 ((up (up g 49 0 0) 49 7 (-1)) 49 9)) 49 10)) 49 11)) 49 k = g 49 k := fun k hk => by rw [up_off _ _ _ _ (by omega), up_off _ _ _ _ (by omega), up_off _ _ _ _ (by omega), up_off _ _ _ _ (by omega), up_off _ _ _ _ (by omega)]
    have f0 : (up (up (up (up (up g 49 0 0) 49 7 (-1)) 49 15 ((up (up g 49 0 0) 49 7 (-1)) 49 9)) 49 16 ((up (up (up g 49 0 0) 49 7 (-1)) 49 15 ((up (up g 49 0 0) 49 7 (-1)) 49 9)) 49 10)) 49 17 ((up (up (up (up g 49 0 0) 49 7 (-1)) 49 15 ((up (up g 49 0 0) 49 7 (-1)) 49 9)) 49 16 ((up (up (up g 49 0 0) 49 7 (-1)) 49 15 ((up (up g 49 0 0) 49 7 (-1)) 49 9)) 49 10)) 49 11)) 49 0 = 0 := rfl
    have f7 : (up (up (up (up (up g 49 0 0) 49 7 (-1)) 49 15 ((up (up g 49 0 0) 49 7 (-1)) 49 9)) 49 16 ((up (up (up g 49 0 0) 49 7 (-1)) 49 15 ((up (up g 49 0 0) 49 7 (-1)) 49 9)) 49 10)) 49 17 ((up (up (up (up g 49 0 0) 49 7 (-1)) 49 15 ((up (up g 49 0 0) 49 7 (-1)) 49 9)) 49 16 ((up (up (up g 49 0 0) 49 7 (-1)) 49 15 ((up (up g 49 0 0) 49 7 (-1)) 49 9)) 49 10)) 49 11)) 49 7 = -1 := rfl
    have f15 : (up (up (up (up (up g 49 0 0) 49 7 (-1)) 49 15 ((up (up g 49 0 0) 49 7 (-1)) 49 9)) 49 16 ((up (up (up g 49 0 0) 49 7 (-1)) 49 15 ((up (up g 49 0 0) 49 7 (-1)) 49 9)) 49 10)) 49 17 ((up (up (up (up g 49 0 0) 49 7 (-1)) 49 15 ((up (up g 49 0 0) 49 7 (-1)) 49 9)) 49 16 ((up (up (up g 49 0 0) 49 7 (-1)) 49 15 ((up (up g 49 0 0) 49 7 (-1)) 49 9)) 49 10)) 49 11)) 49 15 = b01 hh := s1
    have f16 : (up (up (up (up (up g 49 0 0) 49 7 (-1)) 49 15 ((up (up g 49 0 0) 49 7 (-1)) 49 9)) 49 16 ((up (up (up g 49 0 0) 49 7 (-1)) 49 15 ((up (up g 49 0 0) 49 7 (-1)) 49 9)) 49 10)) 49 17 ((up (up (up (up g 49 0 0) 49 7 (-1)) 49 15 ((up (up g 49 0 0) 49 7 (-1)) 49 9)) 49 16 ((up (up (up g 49 0 0) 49 7 (-1)) 49 15 ((up (up g 49 0 0) 49 7 (-1)) 49 9)) 49 10)) 49 11)) 49 16 = nI (dL D) := s2
    have f17 : (up (up (up (up (up g 49 0 0) 49 7 (-1)) 49 15 ((up (up g 49 0 0) 49 7 (-1)) 49 9)) 49 16 ((up (up (up g 49 0 0) 49 7 (-1)) 49 15 ((up (up g 49 0 0) 49 7 (-1)) 49 9)) 49 10)) 49 17 ((up (up (up (up g 49 0 0) 49 7 (-1)) 49 15 ((up (up g 49 0 0) 49 7 (-1)) 49 9)) 49 16 ((up (up (up g 49 0 0) 49 7 (-1)) 49 15 ((up (up g 49 0 0) 49 7 (-1)) 49 9)) 49 10)) 49 11)) 49 17 = nI (dJ D) := s3
    generalize up (up (up (up (up g 49 0 0) 49 7 (-1)) 49 15 ((up (up g 49 0 0) 49 7 (-1)) 49 9)) 49 16 ((up (up (up g 49 0 0) 49 7 (-1)) 49 15 ((up (up g 49 0 0) 49 7 (-1)) 49 9)) 49 10)) 49 17 ((up (up (up (up g 49 0 0) 49 7 (-1)) 49 15 ((up (up g 49 0 0) 49 7 (-1)) 49 9)) 49 16 ((up (up (up g 49 0 0) 49 7 (-1)) 49 15 ((up (up g 49 0 0) 49 7 (-1)) 49 9)) 49 10)) 49 11) = g1 at fa fk f0 f7 f15 f16 f17 ⊢
    have L3 : ∀ k, k ≤ 2 * dJ D → G X E SHP (0, 0) 119 [(0, .ref (E.1 + 49)), (2, .int (nI k))] [] (upr (upr (upr g1 54 (fil (g1 54) (fun j => if hh = true then g1 51 j else 0) 2)) 55 (fil (g1 55) (g1 52) (3 * dL D))) 56 (fil (g1 56) (g1 53) k)) := by
      refine loopN (2 * dJ D) _ (fun k hk ih => ?_)
      refine r_iload_n C dX8_hall_119 rfl ?_
      refine r_iconst (2) C dX8_hall_120 rfl ?_
      refine r_aload_n C dX8_hall_121 rfl ?_
      refine r_getI C dX8_hall_122 flX8_79 (rfl) rfl ?_
      rw [show (upr (upr (upr g1 54 (fil (g1 54) (fun j => if hh = true then g1 51 j else 0) 2)) 55 (fil (g1 55) (g1 52) (3 * dL D))) 56 (fil (g1 56) (g1 53) k)) 49 17 = nI (dJ D) from f17]
      refine r_imul C dX8_hall_125 ?_
      rw [nI_lit2]
      refine r_icmp_ge 147 C dX8_hall_126 (by decide) (fun c_126 => ?_) (fun c_126 => ?_)
      · rw [cLe (x := nI (2 * dJ D)) (c := nI k) (i := 2 * dJ D) (n := k) (rfl) (rfl) (by omega) (by omega)] at c_126
        have hk2 : k = 2 * dJ D := by omega
        subst hk2
        have hz : hC h (upr (upr (upr g1 54 (fil (g1 54) (fun j => if hh = true then g1 51 j else 0) 2)) 55 (fil (g1 55) (g1 52) (3 * dL D))) 56 (fil (g1 56) (g1 53) (2 * dJ D))) hh D := by
          refine ⟨fun a h1 h2 => ?_, fun k hk => (fk k hk).trans (hP.2 k (by omega)), f0, f7, f15, okd, f16, f17, ?_, ?_, fun i hi => ?_, fun j hj => ?_⟩
          · rw [upr_row _ _ _ (by omega), upr_row _ _ _ (by omega), upr_row _ _ _ (by omega), fa a h1]
            exact hP.1 a h1 (by omega) (by omega) (by omega)
          · show (if hh = true then g1 51 0 else 0) = nI (dU D)
            by_cases c : hh = true
            · rw [if_pos c, fa 51 (by decide)]; exact (s4 c).1
            · rw [if_neg c, (s8 (by revert c; cases hh <;> simp)).2.2.1]; rfl
          · show (if hh = true then g1 51 1 else 0) = nI (dN D)
            by_cases c : hh = true
            · rw [if_pos c, fa 51 (by decide)]; exact (s4 c).2
            · rw [if_neg c, (s8 (by revert c; cases hh <;> simp)).2.2.2]; rfl
          · show fil _ _ _ (3 * i) = _ ∧ fil _ _ _ (3 * i + 1) = _ ∧ fil _ _ _ (3 * i + 2) = _
            rw [fil_lt (by omega), fil_lt (by omega), fil_lt (by omega), fa 52 (by decide)]
            exact s5 i hi
          · show fil _ _ _ (2 * j) = _ ∧ fil _ _ _ (2 * j + 1) = _
            rw [fil_lt (by omega), fil_lt (by omega), fa 53 (by decide)]
            exact s6 j hj
        generalize upr (upr (upr g1 54 (fil (g1 54) (fun j => if hh = true then g1 51 j else 0) 2)) 55 (fil (g1 55) (g1 52) (3 * dL D))) 56 (fil (g1 56) (g1 53) (2 * dJ D)) = gz at hz ⊢
        refine r_aload_n C dX8_hall_147 rfl ?_
        refine r_cVv C F dX8_hall_148 (s8_begin) tw_670 m8_begin (rfl) rfl (by decide) rfl (Nat.le_of_ble_eq_true rfl) ?_
        refine r_aload_n C dX8_hall_151 rfl ?_
        refine r_iconst (0) C dX8_hall_152 rfl ?_
        refine r_putI C dX8_hall_153 fwX8_151 (rfl) rfl ?_
        refine r_aload_n C dX8_hall_156 rfl ?_
        refine r_iconst (0) C dX8_hall_157 rfl ?_
        refine r_putI C dX8_hall_158 fwX8_154 (rfl) rfl ?_
        refine r_aload_n C dX8_hall_161 rfl ?_
        refine r_getR C dX8_hall_162 flX8_56 (rfl) rfl ?_
        refine r_iconst (0) C dX8_hall_165 rfl ?_
        refine r_iconst (0) C dX8_hall_166 rfl ?_
        refine r_zast (0) C dX8_hall_167 (rfl) (rfl) (by decide) (by decide) (by first | exact Or.inl rfl | exact Or.inr rfl) ?_
        refine r_aload_n C dX8_hall_168 rfl ?_
        refine r_getR C dX8_hall_169 flX8_56 (rfl) rfl ?_
        refine r_iconst (1) C dX8_hall_172 rfl ?_
        refine r_iconst (0) C dX8_hall_173 rfl ?_
        refine r_zast (1) C dX8_hall_174 (rfl) (rfl) (by decide) (by decide) (by first | exact Or.inl rfl | exact Or.inr rfl) ?_
        refine r_aload_n C dX8_hall_175 rfl ?_
        refine r_iconst (0) C dX8_hall_176 rfl ?_
        refine r_putI C dX8_hall_177 fwX8_157 (rfl) rfl ?_
        refine r_aload_n C dX8_hall_180 rfl ?_
        refine r_getI C dX8_hall_181 flX8_72 (rfl) rfl ?_
        refine r_iret C F dX8_hall_184 ?_
        rw [hO]
        obtain ⟨y1, y2⟩ := hall_end hA hz s8
        exact ⟨congrArg (fun z => some (Value.int z)) hz.2.2.2.2.2.2.1, y1, y2⟩
      · rw [cLe (x := nI (2 * dJ D)) (c := nI k) (i := 2 * dJ D) (n := k) (rfl) (rfl) (by omega) (by omega)] at c_126
        refine r_aload_n C dX8_hall_129 rfl ?_
        refine r_getR C dX8_hall_130 flX8_32 (rfl) rfl ?_
        refine r_iload_n C dX8_hall_133 rfl ?_
        refine r_aload_n C dX8_hall_134 rfl ?_
        refine r_getR C dX8_hall_135 flX8_23 (rfl) rfl ?_
        refine r_iload_n C dX8_hall_138 rfl ?_
        refine r_iald (k) C dX8_hall_139 (rfl) (rfl) (by omega) (by decide) ?_
        refine r_iast (k) C dX8_hall_140 (rfl) (rfl) (by omega) (by decide) ?_
        refine r_inc (1) C dX8_hall_141 rfl (by decide) rfl rfl ?_
        refine r_goto 119 C dX8_hall_144 (by decide) ?_
        exact (G.eq (ih (by omega)) rfl rfl (by rw [up_upr]; exact congrArg _ (fil_s (g1 56) (g1 53) k rfl))).sub ⟨rfl, by rw [nI_succ]; rfl, trivial⟩
    have L2 : ∀ k, k ≤ 3 * dL D → G X E SHP (0, 0) 89 [(0, .ref (E.1 + 49)), (2, .int (nI k))] [] (upr (upr g1 54 (fil (g1 54) (fun j => if hh = true then g1 51 j else 0) 2)) 55 (fil (g1 55) (g1 52) k)) := by
      refine loopN (3 * dL D) _ (fun k hk ih => ?_)
      refine r_iload_n C dX8_hall_89 rfl ?_
      refine r_iconst (3) C dX8_hall_90 rfl ?_
      refine r_aload_n C dX8_hall_91 rfl ?_
      refine r_getI C dX8_hall_92 flX8_72 (rfl) rfl ?_
      rw [show (upr (upr g1 54 (fil (g1 54) (fun j => if hh = true then g1 51 j else 0) 2)) 55 (fil (g1 55) (g1 52) k)) 49 16 = nI (dL D) from f16]
      refine r_imul C dX8_hall_95 ?_
      rw [nI_lit3]
      refine r_icmp_ge 117 C dX8_hall_96 (by decide) (fun c_96 => ?_) (fun c_96 => ?_)
      · rw [cLe (x := nI (3 * dL D)) (c := nI k) (i := 3 * dL D) (n := k) (rfl) (rfl) (by omega) (by omega)] at c_96
        refine r_iconst (0) C dX8_hall_117 rfl ?_
        refine r_istore_n C dX8_hall_118 (by decide) rfl ?_
        have hk2 : k = 3 * dL D := by omega
        subst hk2
        exact (G.eq (L3 0 (by omega)) rfl rfl (by rw [fil_0 (g1 56)]; exact (upr_id rfl).symm)).sub ⟨rfl, rfl, trivial⟩
      · rw [cLe (x := nI (3 * dL D)) (c := nI k) (i := 3 * dL D) (n := k) (rfl) (rfl) (by omega) (by omega)] at c_96
        refine r_aload_n C dX8_hall_99 rfl ?_
        refine r_getR C dX8_hall_100 flX8_29 (rfl) rfl ?_
        refine r_iload_n C dX8_hall_103 rfl ?_
        refine r_aload_n C dX8_hall_104 rfl ?_
        refine r_getR C dX8_hall_105 flX8_20 (rfl) rfl ?_
        refine r_iload_n C dX8_hall_108 rfl ?_
        refine r_iald (k) C dX8_hall_109 (rfl) (rfl) (by omega) (by decide) ?_
        refine r_iast (k) C dX8_hall_110 (rfl) (rfl) (by omega) (by decide) ?_
        refine r_inc (1) C dX8_hall_111 rfl (by decide) rfl rfl ?_
        refine r_goto 89 C dX8_hall_114 (by decide) ?_
        exact (G.eq (ih (by omega)) rfl rfl (by rw [up_upr]; exact congrArg _ (fil_s (g1 55) (g1 52) k rfl))).sub ⟨rfl, by rw [nI_succ]; rfl, trivial⟩
    have L1 : ∀ k, k ≤ 2 → G X E SHP (0, 0) 53 [(0, .ref (E.1 + 49)), (2, .int (nI k))] [] (upr g1 54 (fil (g1 54) (fun j => if hh = true then g1 51 j else 0) k)) := by
      refine loopN 2 _ (fun k hk ih => ?_)
      refine r_iload_n C dX8_hall_53 rfl ?_
      refine r_iconst (2) C dX8_hall_54 rfl ?_
      refine r_icmp_ge 87 C dX8_hall_55 (by decide) (fun c_55 => ?_) (fun c_55 => ?_)
      · rw [cLe (x := 2) (c := nI k) (i := 2) (n := k) (rfl) (rfl) (by omega) (by omega)] at c_55
        refine r_iconst (0) C dX8_hall_87 rfl ?_
        refine r_istore_n C dX8_hall_88 (by decide) rfl ?_
        have hk2 : k = 2 := by omega
        subst hk2
        exact (G.eq (L2 0 (by omega)) rfl rfl (by rw [fil_0 (g1 55)]; exact (upr_id rfl).symm)).sub ⟨rfl, rfl, trivial⟩
      · rw [cLe (x := 2) (c := nI k) (i := 2) (n := k) (rfl) (rfl) (by omega) (by omega)] at c_55
        refine r_aload_n C dX8_hall_58 rfl ?_
        refine r_getR C dX8_hall_59 flX8_26 (rfl) rfl ?_
        refine r_iload_n C dX8_hall_62 rfl ?_
        refine r_aload_n C dX8_hall_63 rfl ?_
        refine r_getI C dX8_hall_64 flX8_148 (rfl) rfl ?_
        refine r_if_eq 79 C dX8_hall_67 (by decide) (fun c_67 => ?_) (fun c_67 => ?_)
        · have c_67 : b01 hh = 0 := f15.symm.trans c_67
          refine r_iconst (0) C dX8_hall_79 rfl ?_
          refine r_iast (k) C dX8_hall_80 (rfl) (rfl) (by omega) (by decide) ?_
          refine r_inc (1) C dX8_hall_81 rfl (by decide) rfl rfl ?_
          refine r_goto 53 C dX8_hall_84 (by decide) ?_
          exact (G.eq (ih (by omega)) rfl rfl (by rw [up_upr, fil_s _ _ _ ((if_neg (b01_z c_67)).symm)])).sub ⟨rfl, by rw [nI_succ]; rfl, trivial⟩
        · have c_67 : ¬ b01 hh = 0 := fun z => c_67 (f15.trans z)
          refine r_aload_n C dX8_hall_70 rfl ?_
          refine r_getR C dX8_hall_71 flX8_17 (rfl) rfl ?_
          refine r_iload_n C dX8_hall_74 rfl ?_
          refine r_iald (k) C dX8_hall_75 (rfl) (rfl) (by omega) (by decide) ?_
          refine r_goto 80 C dX8_hall_76 (by decide) ?_
          refine r_iast (k) C dX8_hall_80 (rfl) (rfl) (by omega) (by decide) ?_
          refine r_inc (1) C dX8_hall_81 rfl (by decide) rfl rfl ?_
          refine r_goto 53 C dX8_hall_84 (by decide) ?_
          exact (G.eq (ih (by omega)) rfl rfl (by rw [up_upr, fil_s _ _ _ ((if_pos (b01_n c_67)).symm)])).sub ⟨rfl, by rw [nI_succ]; rfl, trivial⟩
    refine r_iconst (0) C dX8_hall_51 rfl ?_
    refine r_istore_n C dX8_hall_52 (by decide) rfl ?_
    exact (G.eq (L1 0 (by omega)) rfl rfl (by rw [fil_0, upr_id rfl])).sub ⟨rfl, rfl, trivial⟩
  · obtain ⟨e, hx⟩ := rdB_f c_11
    rw [hx] at hq hp
    have hO : opHall A = (-10 - nI e.2, ([], nI e.1, aH A, aD A, aS A, aU A, aB A, aI A, aG A, aE A)) := by unfold opHall; rw [← hp]
    obtain ⟨hP, q7, q8⟩ := hq
    refine r_bipush (-10) C dX8_hall_14 rfl ?_
    refine r_aload_n C dX8_hall_16 rfl ?_
    refine r_getI C dX8_hall_17 flX8_106 (rfl) rfl ?_
    refine r_isub C dX8_hall_20 ?_
    refine r_iret C F dX8_hall_21 ?_
    rw [hO]
    exact ⟨congrArg (fun z => some (Value.int (-10 - z))) q8, MA_rd hA hP q7, fun a ha => by rw [up_row _ _ _ _ (by omega)]; exact hP.1 a (by omega) (by omega) (by omega) (by omega)⟩
