variable {l : Launch} {E : Ev} {h : Hp}
theorem bnd_inv {α β : Type} {r : Rd α} {k : α → Rd β} {y : β} (e : bnd r k = .inr y) : ∃ x, r = .inr x ∧ k x = .inr y := by
  cases r with
  | inl z => cases e
  | inr x => exact ⟨x, rfl, e⟩
theorem clz_true {t : Nat → Int32} {n q : Nat} {hh : Bool} {D : HDt} {y : (Bool × HDt) × Nat} (e : clzF t n q hh D = .inr y) : y.1.1 = true := by
  unfold clzF at e
  split at e
  · split at e
    · cases e
    · obtain ⟨x, -, h2⟩ := bnd_inv e; cases h2; rfl
  · split at e
    · cases e
    · split at e
      · obtain ⟨x, -, h2⟩ := bnd_inv e; cases h2; rfl
      · split at e
        · obtain ⟨x, -, h2⟩ := bnd_inv e; cases h2; rfl
        · cases e
theorem prs_f {t : Nat → Int32} {n : Nat} : ∀ f p hh D x, prs t n f p hh D = .inr x → x.1 = false → x.2 = D ∧ hh = false
  | 0, p, hh, D, x, e, z => by cases e; exact ⟨rfl, z⟩
  | f + 1, p, hh, D, x, e, z => by
    have e : (if sk t n p = n then .inr (hh, D) else bnd (clzF t n (sk t n p) hh D) fun x => prs t n f x.2 x.1.1 x.1.2) = Sum.inr x := e
    split at e
    · cases e; exact ⟨rfl, z⟩
    · obtain ⟨y, h1, h2⟩ := bnd_inv e
      have h3 := (prs_f f _ _ _ x h2 z).2
      rw [clz_true h1] at h3
      cases h3
theorem okM_beg {D : HDt} : okM D (beginA D) := ⟨Nat.sub_lt (Nat.two_pow_pos _) (by decide), Nat.zero_lt_succ 63, Nat.zero_le _, Nat.zero_le _, fun _ => Nat.zero_le _, fun _ _ => rfl⟩
def clrI (g : Hp) : Nat → Hp
  | 0 => g
  | k + 1 => up (clrI g k) (26 + 2 * k) 2 0
theorem clrI_row {g : Hp} {a : Nat} (h1 : a ≠ 26) (h2 : a ≠ 28) : ∀ k, k ≤ 2 → clrI g k a = g a
  | 0, _ => rfl
  | k + 1, hk => by
    show up (clrI g k) (26 + 2 * k) 2 0 a = g a
    rw [up_row _ _ _ _ (by omega)]
    exact clrI_row h1 h2 k (by omega)
theorem clrI_2 {g : Hp} : clrI g 2 = up (up g 26 2 0) 28 2 0 := rfl
set_option maxHeartbeats 4000000 in
theorem s7_hall {A : At} (hA : CA h A) : Sp l E SHP 5 M7_hall [.ref (E.1 + 0)] h (QK h (opHall A)) := by
  refine Sp.of (by decide) (Nat.le_of_ble_eq_true rfl) (fun X C F => ?_)
  have C : Ok X E RX7 cX7_hall 3 := C
  have F : Fn X l E SHP 5 (some FieldType.int) (QK h (opHall A)) := F
  show G X E SHP (0, 0) 0 [(0, .ref (E.1 + 0))] [] h
  obtain ⟨o, hA0⟩ := id hA
  obtain ⟨⟨a1, a2, a3, a4, a5, a6, a7, a8, a9, a10, a11, a12⟩, ⟨b1, b2⟩, b3, ⟨b4, b5, b6⟩, ⟨b7, b8⟩, b9, b10, b11, b12, b13, b14⟩ := id hA0
  have hO : isH o := isH_o b6
  have ho : o ≤ 12 := by omega
  have ho4 : 4 ≤ o := by omega
  obtain ⟨okd, e1, e2, e3, e4, eL, eJ, eB, eF⟩ := id b8
  obtain ⟨o1, o2, o3, o4, o5, o6⟩ := id okd
  have p6 : 2 ^ dL (aD A) ≤ 64 := Nat.pow_le_pow_right (n := 2) (by decide) o1
  obtain ⟨k0, k1, k2, k3, k4, k5⟩ := id a5
  obtain ⟨u0, u1, u2, u3, uO, uM⟩ := id b10
  have hm64 : mI (aU A) < 64 := by omega
  obtain ⟨o2, ho2⟩ : ∃ o2, o2 = 16 - o := ⟨_, rfl⟩
  rw [← ho2] at b5
  have hO2 : isH o2 := isH_o (by omega)
  have hcg : ∀ k, k < (aX A).length → h 2 k = (fun k => (aX A).getD k 0) k := fun k hk => b2 k _ (getD_of hk)
  refine r_aload_n C dX7_hall_0 rfl ?_
  refine r_getR C dX7_hall_1 flX7_12 (rfl) rfl ?_
  refine r_aload_n C dX7_hall_4 rfl ?_
  refine r_getV (o2) C dX7_hall_5 flX7_23 (rfl) rfl (b5) (by first | decide | omega) ?_
  refine r_callV C F dX7_hall_8 (s4_readInto (o := o2) (t := h 2) (n := (aX A).length) (R := prs (fun k => (aX A).getD k 0) (aX A).length ((aX A).length + 1) 0 false D0) hO2 (by omega) rfl b1 a1 (prs_cg hcg _ _ _ _ (Nat.zero_le _))) tw_284 m4_readInto (rfl) rfl (by decide) rfl (Nat.le_of_ble_eq_true rfl) (fun v g q => ?_)
  obtain ⟨rfl, z1, zz⟩ := q
  cases hR : prs (fun k => (aX A).getD k 0) (aX A).length ((aX A).length + 1) 0 false D0 with
  | inl e =>
    rw [hR] at zz
    obtain ⟨z3, z3n, z4⟩ := zz
    show G X E SHP (0, 0) 11 _ [] g
    refine r_aload_n C dX7_hall_11 rfl ?_
    refine r_getR C dX7_hall_12 flX7_12 (rfl) rfl ?_
    refine r_iconst (0) C dX7_hall_15 rfl ?_
    refine r_putI C dX7_hall_16 fwX7_69 (rfl) rfl ?_
    refine r_aload_n C dX7_hall_19 rfl ?_
    refine r_aload_n C dX7_hall_20 rfl ?_
    refine r_getR C dX7_hall_21 flX7_12 (rfl) rfl ?_
    refine r_getI C dX7_hall_24 flX7_81 (rfl) rfl ?_
    refine r_putI C dX7_hall_27 fwX7_65 (rfl) rfl ?_
    refine r_aload_n C dX7_hall_30 rfl ?_
    refine r_getR C dX7_hall_31 flX7_12 (rfl) rfl ?_
    refine r_getI C dX7_hall_34 flX7_82 (rfl) rfl ?_
    refine r_if_eq 51 C dX7_hall_37 (by decide) (fun c_37 => ?_) (fun c_37 => ?_)
    · exact absurd c_37 z3n
    · refine r_bipush (-10) C dX7_hall_40 rfl ?_
      refine r_aload_n C dX7_hall_42 rfl ?_
      refine r_getR C dX7_hall_43 flX7_12 (rfl) rfl ?_
      refine r_getI C dX7_hall_46 flX7_82 (rfl) rfl ?_
      refine r_isub C dX7_hall_49 ?_
      have fr : ∀ a, a ≠ 0 → a ≠ 1 → a ≠ 3 → a < o2 ∨ o2 + 7 < a → (up (up g 1 2 0) 0 9 (up g 1 2 0 1 4)) a = h a := fun a h1 h2 h3 h4 => by rw [up_row _ _ _ _ h1, up_row _ _ _ _ h2]; exact z1 a h2 h3 h4
      have fr0 : ∀ k, k ≠ 9 → (up (up g 1 2 0) 0 9 (up g 1 2 0 1 4)) 0 k = h 0 k := fun k hk => by rw [up_off _ _ _ _ hk, up_row _ _ _ _ (by decide), z1 0 (by omega) (by omega) (by omega)]
      have f9 : (up (up g 1 2 0) 0 9 (up g 1 2 0 1 4)) 0 9 = nI e.1 := (up_self _ _ _ _).trans z4
      have f12 : (up (up g 1 2 0) 0 9 (up g 1 2 0 1 4)) 1 2 = 0 := rfl
      have f13 : (up (up g 1 2 0) 0 9 (up g 1 2 0 1 4)) 1 3 = nI e.2 := z3
      generalize up (up g 1 2 0) 0 9 (up g 1 2 0 1 4) = g2 at fr fr0 f9 f12 f13 ⊢
      refine r_iret C F dX7_hall_50 ?_
      have e0 : opHall A = (-10 - nI e.2, ([], nI e.1, aH A, aD A, aS A, aU A, aB A, aI A, aG A, aE A)) := by unfold opHall; rw [hR]
      rw [e0, f13]
      exact ⟨rfl, ⟨o, ⟨⟨Nat.zero_le _, a2, a3, a4, a5, a6, a7, a8, a9, a10, a11, a12⟩, ⟨f12, fun k x q => (no_nil q).elim⟩, f9, ⟨by rw [fr0 1 (by decide)]; exact b4, by rw [fr0 2 (by decide)]; exact (show h 0 2 = nI (16 - o) by rw [← ho2]; exact b5), b6⟩, ⟨by rw [fr o (by omega) (by omega) (by omega) (by omega)]; exact b7, CH_cg b8 (fun a h1 h2 => fr a (by omega) (by omega) (by omega) (by omega))⟩, by rw [fr0 8 (by decide)]; exact b9, CM_cg b10 (fun a h1 h2 => fr a (by omega) (by omega) (by omega) (by omega)), CB_cg b11 (fun a h1 => fr a (by omega) (by omega) (by omega) (by omega)), CIm_cg b12 (fun a h1 h2 => fr a (by omega) (by omega) (by omega) (by omega)), CG_cg b13 (fun a h1 h2 => fr a (by omega) (by omega) (by omega) (by omega)), CE_cg b14 (fun a h1 h2 => fr a (by omega) (by omega) (by omega) (by omega))⟩⟩, fun a ha => fr a (by omega) (by omega) (by omega) (by omega)⟩
  | inr x =>
    rw [hR] at zz
    obtain ⟨z3, z4, z5, z6⟩ := zz
    show G X E SHP (0, 0) 11 _ [] g
    refine r_aload_n C dX7_hall_11 rfl ?_
    refine r_getR C dX7_hall_12 flX7_12 (rfl) rfl ?_
    refine r_iconst (0) C dX7_hall_15 rfl ?_
    refine r_putI C dX7_hall_16 fwX7_69 (rfl) rfl ?_
    refine r_aload_n C dX7_hall_19 rfl ?_
    refine r_aload_n C dX7_hall_20 rfl ?_
    refine r_getR C dX7_hall_21 flX7_12 (rfl) rfl ?_
    refine r_getI C dX7_hall_24 flX7_81 (rfl) rfl ?_
    refine r_putI C dX7_hall_27 fwX7_65 (rfl) rfl ?_
    refine r_aload_n C dX7_hall_30 rfl ?_
    refine r_getR C dX7_hall_31 flX7_12 (rfl) rfl ?_
    refine r_getI C dX7_hall_34 flX7_82 (rfl) rfl ?_
    refine r_if_eq 51 C dX7_hall_37 (by decide) (fun c_37 => ?_) (fun c_37 => ?_)
    · have f2a : ∀ a, a ≠ 0 → a ≠ 1 → (up (up g 1 2 0) 0 9 (up g 1 2 0 1 4)) a = g a := fun a h1 h2 => by rw [up_row _ _ _ _ h1, up_row _ _ _ _ h2]
      have f20 : ∀ k, k ≠ 9 → (up (up g 1 2 0) 0 9 (up g 1 2 0 1 4)) 0 k = h 0 k := fun k hk => by rw [up_off _ _ _ _ hk, up_row _ _ _ _ (by decide), z1 0 (by omega) (by omega) (by omega)]
      have f29 : (up (up g 1 2 0) 0 9 (up g 1 2 0 1 4)) 0 9 = -1 := (up_self _ _ _ _).trans z4
      have f12 : (up (up g 1 2 0) 0 9 (up g 1 2 0 1 4)) 1 2 = 0 := rfl
      clear c_37
      generalize up (up g 1 2 0) 0 9 (up g 1 2 0 1 4) = g2 at f2a f20 f29 f12 ⊢
      refine r_aload_n C dX7_hall_51 rfl ?_
      refine r_getV (o) C dX7_hall_52 flX7_19 (rfl) rfl (by rw [f20 1 (by decide)]; exact b4) (by first | decide | omega) ?_
      refine r_astore_n C dX7_hall_55 (by decide) rfl ?_
      refine r_aload_n C dX7_hall_56 rfl ?_
      refine r_aload_n C dX7_hall_57 rfl ?_
      refine r_getV (o2) C dX7_hall_58 flX7_23 (rfl) rfl (by rw [f20 2 (by decide)]; exact b5) (by first | decide | omega) ?_
      refine r_putV C dX7_hall_61 fwX7_19 (rfl) rfl (by first | decide | omega) ?_
      refine r_aload_n C dX7_hall_64 rfl ?_
      refine r_aload_n C dX7_hall_65 rfl ?_
      refine r_putV C dX7_hall_66 fwX7_23 (rfl) rfl (by first | decide | omega) ?_
      have f41 : (up (up g2 0 1 (nI o2)) 0 2 (nI o)) 0 1 = nI o2 := rfl
      have f42 : (up (up g2 0 1 (nI o2)) 0 2 (nI o)) 0 2 = nI o := rfl
      have f48 : (up (up g2 0 1 (nI o2)) 0 2 (nI o)) 0 8 = h 0 8 := f20 8 (by decide)
      have f49 : (up (up g2 0 1 (nI o2)) 0 2 (nI o)) 0 9 = -1 := f29
      have f4a : ∀ a, a ≠ 0 → (up (up g2 0 1 (nI o2)) 0 2 (nI o)) a = g2 a := fun a ha => by rw [up_row _ _ _ _ ha, up_row _ _ _ _ ha]
      generalize up (up g2 0 1 (nI o2)) 0 2 (nI o) = g4 at f41 f42 f48 f49 f4a ⊢
      refine r_aload_n C dX7_hall_69 rfl ?_
      refine r_getR C dX7_hall_70 flX7_29 (rfl) rfl ?_
      refine r_aload_n C dX7_hall_73 rfl ?_
      refine r_getV (o2) C dX7_hall_74 flX7_19 (rfl) rfl (f41) (by first | decide | omega) ?_
      refine r_cVi C F dX7_hall_77 (s0_everyone hO2 (D := x.2) (CH_cg z6 (fun a h1 h2 => by rw [f4a a (by omega), f2a a (by omega) (by omega)]))) tw_343 m0_everyone (hO2.1) rfl (by decide) rfl (Nat.le_of_ble_eq_true rfl) ?_
      refine r_callV C F dX7_hall_80 (s2_begin (D := x.2)) tw_347 m2_begin (rfl) rfl (by decide) rfl (Nat.le_of_ble_eq_true rfl) (fun v5 g5 q5 => ?_)
      obtain ⟨rfl, y1, y2⟩ := q5
      show G X E SHP (0, 0) 83 _ [] g5
      refine r_aload_n C dX7_hall_83 rfl ?_
      refine r_getR C dX7_hall_84 flX7_50 (rfl) rfl ?_
      refine r_cVv C F dX7_hall_87 (s6_forget) tw_351 m6_forget (rfl) rfl (by decide) rfl (Nat.le_of_ble_eq_true rfl) ?_
      refine r_aload_n C dX7_hall_90 rfl ?_
      refine r_getR C dX7_hall_91 flX7_36 (rfl) rfl ?_
      refine r_cVv C F dX7_hall_94 (s3_forget) tw_355 m3_forget (rfl) rfl (by decide) rfl (Nat.le_of_ble_eq_true rfl) ?_
      have r7 : ∀ a, a ≠ 23 → a ≠ 30 → (up (up (up (up g5 30 5 0) 30 6 0) 23 1 0) 23 2 0) a = g5 a := fun a h1 h2 => by rw [up_row _ _ _ _ h1, up_row _ _ _ _ h1, up_row _ _ _ _ h2, up_row _ _ _ _ h2]
      have s7a : (up (up (up (up g5 30 5 0) 30 6 0) 23 1 0) 23 2 0) 23 1 = 0 := rfl
      have s7b : (up (up (up (up g5 30 5 0) 30 6 0) 23 1 0) 23 2 0) 23 2 = 0 := rfl
      have s7c : (up (up (up (up g5 30 5 0) 30 6 0) 23 1 0) 23 2 0) 30 5 = 0 := rfl
      have s7d : (up (up (up (up g5 30 5 0) 30 6 0) 23 1 0) 23 2 0) 30 6 = 0 := rfl
      generalize up (up (up (up g5 30 5 0) 30 6 0) 23 1 0) 23 2 0 = g7 at r7 s7a s7b s7c s7d ⊢
      have L : ∀ k, k ≤ 2 → G X E SHP (0, 0) 99 [(0, .ref (E.1 + 0)), (2, .int (nI k))] [] (clrI g7 k) := by
        refine loopN 2 _ (fun k hk ih => ?_)
        have q0 : ∀ j, clrI g7 k 0 j = g4 0 j := fun j => by rw [clrI_row (by decide) (by decide) k hk, r7 0 (by decide) (by decide), y2 0 (by omega)]
        have q25 : ∀ j, clrI g7 k 25 j = h 25 j := fun j => by rw [clrI_row (by decide) (by decide) k hk, r7 25 (by decide) (by decide), y2 25 (by omega), f4a 25 (by decide), f2a 25 (by omega) (by omega), z1 25 (by omega) (by omega) (by omega)]
        have qd : clrI g7 k o2 3 = nI (dL x.2) := by rw [clrI_row (by omega) (by omega) k hk, r7 o2 (by omega) (by omega), y2 o2 (by omega), f4a o2 (by omega), f2a o2 (by omega) (by omega)]; exact z6.2.2.2.1
        refine r_iload_n C dX7_hall_99 rfl ?_
        refine r_iconst (2) C dX7_hall_100 rfl ?_
        refine r_icmp_ge 120 C dX7_hall_101 (by decide) (fun c_101 => ?_) (fun c_101 => ?_)
        · rw [cLe (x := 2) (c := nI k) (i := 2) (n := k) (rfl) (rfl) (by omega) (by omega)] at c_101
          refine r_aload_n C dX7_hall_120 rfl ?_
          refine r_getV (o2) C dX7_hall_121 flX7_19 (rfl) rfl ((q0 1).trans f41) (by first | decide | omega) ?_
          refine r_getI C dX7_hall_124 flX7_100 (hO2.1) rfl ?_
          have hk2 : k = 2 := by omega
          subst hk2
          have e0 : opHall A = (nI (dL x.2), ([], -1, x.1, x.2, aS A, beginA x.2, [], (fun _ => none), [], [])) := by unfold opHall; rw [hR]
          have hz : x.1 = false → x.2 = D0 := fun z => (prs_f _ _ _ _ _ hR z).1
          refine r_iret C F dX7_hall_127 ?_
          rw [e0, qd]
          have fr : ∀ a, a ≠ 26 → a ≠ 28 → a ≠ 23 → a ≠ 30 → a < 20 ∨ 22 < a → a ≠ 0 → a ≠ 1 → clrI g7 2 a = g a := fun a h1 h2 h3 h4 h5 h6 h7 => by rw [clrI_row h1 h2 2 hk, r7 a h3 h4, y2 a h5, f4a a h6, f2a a h6 h7]
          refine ⟨rfl, ⟨o2, ⟨Nat.zero_le _, z6.1, fun z => by rw [hz z]; exact ⟨rfl, rfl, rfl, rfl⟩, a4, okM_beg, Nat.zero_le _, (fun _ q => absurd q List.not_mem_nil), (fun i u s q => by cases q), Nat.zero_le _, (fun _ q => absurd q List.not_mem_nil), Nat.zero_le _, (fun _ q => absurd q List.not_mem_nil)⟩, ⟨?_, fun k x q => (no_nil q).elim⟩, ?_, ⟨?_, ?_, by omega⟩, ⟨?_, CH_cg z6 (fun a h1 h2 => fr a (by omega) (by omega) (by omega) (by omega) (by omega) (by omega) (by omega))⟩, ?_, CM_cg y1 (fun a h1 h2 => by rw [clrI_row (by omega) (by omega) 2 hk, r7 a (by omega) (by omega)]), ⟨Nat.zero_le _, ?_, 0, by decide, ?_, fun r u q => (no_nil q).elim⟩, ⟨?_, ?_, fun i hi => ?_⟩, ⟨?_, fun r u q => (no_nil q).elim⟩, ⟨?_, fun r u q => (no_nil q).elim⟩⟩, fun a ha => by rw [fr a (by omega) (by omega) (by omega) (by omega) (by omega) (by omega) (by omega)]; exact z1 a (by omega) (by omega) (by omega)⟩
          · rw [clrI_row (by decide) (by decide) 2 hk, r7 1 (by decide) (by decide), y2 1 (by omega), f4a 1 (by decide)]; exact f12
          · rw [q0]; exact f49
          · rw [q0]; exact f41
          · rw [q0]; exact f42.trans (by rw [show 16 - o2 = o by omega])
          · rw [fr o2 (by omega) (by omega) (by omega) (by omega) (by omega) (by omega) (by omega)]; exact z5
          · rw [q0]; exact f48.trans b9
          · rw [clrI_row (by decide) (by decide) 2 hk]; exact s7a
          · rw [clrI_row (by decide) (by decide) 2 hk]; exact s7b
          · rw [q25]; exact b12.1
          · rw [q25]; exact b12.2.1
          · refine ⟨?_, fun u s q => by cases q⟩
            rcases (show i = 0 ∨ i = 1 by omega) with rfl | rfl
            · rfl
            · rfl
          · rw [clrI_row (by decide) (by decide) 2 hk]; exact s7c
          · rw [clrI_row (by decide) (by decide) 2 hk]; exact s7d
        · rw [cLe (x := 2) (c := nI k) (i := 2) (n := k) (rfl) (rfl) (by omega) (by omega)] at c_101
          refine r_aload_n C dX7_hall_104 rfl ?_
          refine r_getR C dX7_hall_105 flX7_43 (rfl) rfl ?_
          refine r_iload_n C dX7_hall_108 rfl ?_
          refine r_aald (k) C dX7_hall_109 (rfl) (rfl) (by omega) (by first | decide | omega) (show clrI g7 k 25 k = nI (26 + 2 * k) by rw [q25]; exact im_25 b12 (by omega)) (by omega) (by omega) ?_
          refine r_iconst (0) C dX7_hall_110 rfl ?_
          refine r_putZ C dX7_hall_111 fwX7_96 ((isI_i (show k ≤ 1 by omega)).1) rfl (Or.inl rfl) ?_
          refine r_inc (1) C dX7_hall_114 rfl (by decide) rfl rfl ?_
          refine r_goto 99 C dX7_hall_117 (by decide) ?_
          exact (ih (by omega)).sub ⟨rfl, by rw [nI_succ]; rfl, trivial⟩
      refine r_iconst (0) C dX7_hall_97 rfl ?_
      refine r_istore_n C dX7_hall_98 (by decide) rfl ?_
      exact (L 0 (by decide)).sub ⟨rfl, rfl, trivial⟩
    · exact absurd z3 c_37
