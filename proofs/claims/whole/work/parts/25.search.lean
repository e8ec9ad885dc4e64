variable {l : Launch} {E : Ev} {h : Hp}
/-! searches -/
def canB (D : HDt) (u : Mom) (i c : Nat) : Bool := decide (c / 10 < dJ D) && (decide (c % 10 < dL D) && (decide (¬ c % 10 = i) && (mI u).testBit (c % 10)))
noncomputable def tl (D : HDt) (u : Mom) (i c : Nat) : Mom := tellA D u i (c / 10) (c % 10)
def okW (D : HDt) (u : Mom) (n : Nat) : Prop := mI u < 2 ^ dL D ∧ mN u ≤ 50000 ∧ ∀ j, mM u j ≤ 50000 + n
theorem okW_tl {D : HDt} {u : Mom} {n : Nat} (ok : okW D u n) (i c : Nat) : okW D (tl D u i c) (n + 1) := by
  obtain ⟨k0, k1, k2⟩ := ok
  refine ⟨nd_lt k0, k1, fun k => ?_⟩
  show (if k = c / 10 then mM u k + 1 else mM u k) ≤ 50000 + (n + 1)
  have := k2 k
  split <;> omega
theorem okW_of {D : HDt} {u : Mom} (ok : okM D u) : okW D u 0 := by
  obtain ⟨k0, k1, k2, k3, k4, k5⟩ := ok
  exact ⟨k0, by omega, fun j => by have := k4 j; omega⟩
theorem RW_W {D : HDt} {u : Mom} {a n : Nat} (ha : SHP[a]? = some (.inr (0, 16))) (q : MomR (h a) u) (ok : okW D u n) (hn : n ≤ 100) (okd : okD D) : RW h a (mI u) (mN u) (mM u) := by
  obtain ⟨q0, q7, q8, q9, qo, qt⟩ := q
  obtain ⟨k0, k1, k2⟩ := ok
  have p6 : 2 ^ dL D ≤ 64 := Nat.pow_le_pow_right (n := 2) (by decide) okd.1
  exact ⟨ha, q0, by omega, q8, by omega, fun j hj => ⟨qt j hj, by have := k2 j; omega⟩⟩
/-- nothing but the rows that the searches scribble on differs -/
def Scr (h g : Hp) : Prop := (∀ a, ¬ (a = 49 ∨ a = 58 ∨ a = 59 ∨ a = 60 ∨ a = 67) → g a = h a) ∧ ∀ k, k ≠ 36 → g 49 k = h 49 k
theorem Scr.rf : Scr h h := ⟨fun _ _ => rfl, fun _ _ => rfl⟩
theorem Scr.row {g : Hp} (q : Scr h g) {a : Nat} (f : Nat → Int32) (ha : a = 58 ∨ a = 59 ∨ a = 60 ∨ a = 67) : Scr h (upr g a f) := ⟨fun b hb => by rw [upr_row _ _ _ (by omega)]; exact q.1 b hb, fun k hk => by rw [upr_row _ _ _ (by omega)]; exact q.2 k hk⟩
theorem Scr.f36 {g : Hp} (q : Scr h g) (x : Int32) : Scr h (up g 49 36 x) := ⟨fun b hb => by rw [up_row _ _ _ _ (by omega)]; exact q.1 b hb, fun k hk => by rw [up_off _ _ _ _ hk]; exact q.2 k hk⟩
theorem Scr.MH {g : Hp} {D : HDt} (q : Scr h g) (m : MH h D) : MH g D := by
  unfold _root_.Jvm.Pilot.CLastLaughLaw_law_r2000_4130f9.MH at *
  rw [q.2 16 (by decide), q.2 17 (by decide), q.1 54 (by decide), q.1 55 (by decide), q.1 56 (by decide)]
  exact m
theorem Scr.MA {g : Hp} {A : At} (q : Scr h g) (hA : MA h A) : MA g A := by
  obtain ⟨a, ⟨b1, b2⟩, b3, b4, b5, b6, b7, ⟨b8, b9⟩, b10, ⟨b11, b12⟩, b13, b14⟩ := id hA
  refine ⟨a, ⟨by rw [q.2 0 (by decide)]; exact b1, by rw [q.1 50 (by decide)]; exact b2⟩, by rw [q.2 7 (by decide)]; exact b3, by rw [q.2 15 (by decide)]; exact b4, q.MH b5, by rw [q.2 30 (by decide)]; exact b6, by rw [q.1 57 (by decide)]; exact b7, ⟨by rw [q.2 26 (by decide)]; exact b8, by rw [q.1 61 (by decide)]; exact b9⟩, ?_, ⟨by rw [q.2 31 (by decide)]; exact b11, by rw [q.1 65 (by decide)]; exact b12⟩, ⟨by rw [q.2 33 (by decide)]; exact b13, by rw [q.1 66 (by decide)]; exact b14⟩⟩
  rw [q.1 62 (by decide), q.1 63 (by decide), q.1 64 (by decide)]
  exact b10
theorem Scr.low {g : Hp} (q : Scr h g) : ∀ a, a < 49 → g a = h a := fun a ha => q.1 a (by omega)
theorem cpy_row {f g : Nat → Int32} {u : Mom} (q : MomR f u) : MomR (va_cpy f g 0 0 16) u := MomR_congr (MomR_cpy (f := f) (g := g) (a := 0) (b := 0) (MomR_congr q (fun k _ => by rw [Nat.zero_add]))) (fun k _ => by rw [Nat.zero_add])
set_option maxHeartbeats 4000000 in
theorem s8_tells {D : HDt} {u : Mom} {a i c n : Nat} (hM : MH h D) (ha : SHP[a]? = some (.inr (0, 16))) (hR : MomR (h a) u) (ok : okW D u n) (hn : n ≤ 100) (hi : i < 6) (hc : c < 60) (ha49 : a ≠ 49) : Sp l E SHP 4 M8_tells [.ref (E.1 + 49), .ref (E.1 + a), .int (nI i), .int (nI c)] h (fun v h' => v = some (.int (bz (canB D u i c = true))) ∧ ∃ f, h' = upr h a f ∧ (canB D u i c = true → MomR f (tl D u i c))) := by
  refine Sp.of (by decide) (Nat.le_of_ble_eq_true rfl) (fun X C F => ?_)
  have C : Ok X E RX8 cX8_tells 6 := C
  have F : Fn X l E SHP 4 (some FieldType.boolean) (fun v h' => v = some (.int (bz (canB D u i c = true))) ∧ ∃ f, h' = upr h a f ∧ (canB D u i c = true → MomR f (tl D u i c))) := F
  show G X E SHP (0, 0) 0 [(0, .ref (E.1 + 49)), (1, .ref (E.1 + a)), (2, .int (nI i)), (3, .int (nI c))] [] h
  obtain ⟨okd, e16, e17, e540, e541, eL, eJ⟩ := id hM
  obtain ⟨o1, o2, o3, o4, o5, o6⟩ := id okd
  have p6 : 2 ^ dL D ≤ 64 := Nat.pow_le_pow_right (n := 2) (by decide) o1
  have hI := ok.1
  refine r_iload_n C dX8_tells_0 rfl ?_
  refine r_bipush (10) C dX8_tells_1 rfl ?_
  refine r_idiv C dX8_tells_3 (by decide) ?_
  rw [show nI c / 10 = nI (c / 10) from pk_div (by omega) (by decide) (by decide)]
  refine r_istore C dX8_tells_4 (by decide) rfl ?_
  refine r_iload_n C dX8_tells_6 rfl ?_
  refine r_bipush (10) C dX8_tells_7 rfl ?_
  refine r_irem C dX8_tells_9 (by decide) ?_
  rw [show nI c - nI c / 10 * 10 = nI (c % 10) from pk_rem (by omega) (by decide) (by decide)]
  refine r_istore C dX8_tells_10 (by decide) rfl ?_
  refine r_iload C dX8_tells_12 rfl ?_
  refine r_aload_n C dX8_tells_14 rfl ?_
  refine r_getI C dX8_tells_15 flX8_79 (rfl) rfl ?_
  refine r_icmp_ge 47 C dX8_tells_18 (by decide) (fun c_18 => ?_) (fun c_18 => ?_)
  · rw [cLe (x := h 49 17) (c := nI (c / 10)) (i := dJ D) (n := c / 10) (e17) (rfl) (by omega) (by omega)] at c_18
    have hcb : canB D u i c = false := by unfold canB; rw [decide_eq_false (by omega)]; rfl
    refine r_iconst (0) C dX8_tells_47 rfl ?_
    exact r_zret C F dX8_tells_48 rfl ⟨by rw [hcb]; rfl, h a, (upr_id rfl).symm, fun q => by rw [hcb] at q; cases q⟩
  · rw [cLe (x := h 49 17) (c := nI (c / 10)) (i := dJ D) (n := c / 10) (e17) (rfl) (by omega) (by omega)] at c_18
    refine r_iload C dX8_tells_21 rfl ?_
    refine r_aload_n C dX8_tells_23 rfl ?_
    refine r_getI C dX8_tells_24 flX8_72 (rfl) rfl ?_
    refine r_icmp_ge 47 C dX8_tells_27 (by decide) (fun c_27 => ?_) (fun c_27 => ?_)
    · rw [cLe (x := h 49 16) (c := nI (c % 10)) (i := dL D) (n := c % 10) (e16) (rfl) (by omega) (by omega)] at c_27
      have hcb : canB D u i c = false := by unfold canB; rw [decide_eq_false (by omega : ¬ c % 10 < dL D), Bool.false_and, Bool.and_false]
      refine r_iconst (0) C dX8_tells_47 rfl ?_
      exact r_zret C F dX8_tells_48 rfl ⟨by rw [hcb]; rfl, h a, (upr_id rfl).symm, fun q => by rw [hcb] at q; cases q⟩
    · rw [cLe (x := h 49 16) (c := nI (c % 10)) (i := dL D) (n := c % 10) (e16) (rfl) (by omega) (by omega)] at c_27
      refine r_iload C dX8_tells_30 rfl ?_
      refine r_iload_n C dX8_tells_32 rfl ?_
      refine r_icmp_eq 47 C dX8_tells_33 (by decide) (fun c_33 => ?_) (fun c_33 => ?_)
      · rw [cEq (x := nI (c % 10)) (c := nI i) (i := c % 10) (n := i) (rfl) (rfl) (by omega) (by omega)] at c_33
        have hcb : canB D u i c = false := by unfold canB; rw [decide_eq_false (not_not_intro c_33), Bool.false_and, Bool.and_false, Bool.and_false]
        refine r_iconst (0) C dX8_tells_47 rfl ?_
        exact r_zret C F dX8_tells_48 rfl ⟨by rw [hcb]; rfl, h a, (upr_id rfl).symm, fun q => by rw [hcb] at q; cases q⟩
      · rw [cEq (x := nI (c % 10)) (c := nI i) (i := c % 10) (n := i) (rfl) (rfl) (by omega) (by omega)] at c_33
        refine r_aload_n C dX8_tells_36 rfl ?_
        refine r_iconst (0) C dX8_tells_37 rfl ?_
        refine r_iald (0) C dX8_tells_38 (ha) (rfl) (by decide) (by decide) ?_
        refine r_iload C dX8_tells_39 rfl ?_
        refine r_cSi C F dX8_tells_41 (s8_has) tw_879 m8_has (by decide) rfl (Nat.le_of_ble_eq_true rfl) ?_
        refine r_if_ne 49 C dX8_tells_44 (by decide) (fun c_44 => ?_) (fun c_44 => ?_)
        · rw [bz_ne0, hR.1, hasP_nI (by omega) (by omega)] at c_44
          have hcb : canB D u i c = true := by unfold canB; rw [decide_eq_true (show c / 10 < dJ D by omega), decide_eq_true (show c % 10 < dL D by omega), decide_eq_true c_33, c_44]; rfl
          refine r_aload_n C dX8_tells_49 rfl ?_
          refine r_aload_n C dX8_tells_50 rfl ?_
          refine r_iload_n C dX8_tells_51 rfl ?_
          refine r_iload C dX8_tells_52 rfl ?_
          refine r_iload C dX8_tells_54 rfl ?_
          refine r_cVv C F dX8_tells_56 (s8_tellOn (i := i) (j := c / 10) (b := c % 10) hM (RW_W ha hR ok hn okd) (by omega) (by omega) (by omega) ha49) tw_890 m8_tellOn (rfl) rfl (by decide) rfl (Nat.le_of_ble_eq_true rfl) ?_
          refine r_iconst (1) C dX8_tells_59 rfl ?_
          exact r_zret C F dX8_tells_60 rfl ⟨by rw [hcb]; rfl, _, rfl, fun _ => MomR_tell okd hR i (c / 10) (c % 10) (by omega)⟩
        · rw [bz_eq0, hR.1, hasP_nI (by omega) (by omega), Bool.not_eq_true] at c_44
          have hcb : canB D u i c = false := by unfold canB; rw [c_44, Bool.and_false, Bool.and_false, Bool.and_false]
          refine r_iconst (0) C dX8_tells_47 rfl ?_
          exact r_zret C F dX8_tells_48 rfl ⟨by rw [hcb]; rfl, h a, (upr_id rfl).symm, fun q => by rw [hcb] at q; cases q⟩
def fstF {β : Type} (P : Nat → Option β) : Nat → Nat → Option β
  | 0, _ => none
  | f + 1, k => match P k with
    | some x => some x
    | none => fstF P f (k + 1)
theorem fst_some {β : Type} {P : Nat → Option β} {f k : Nat} {x : β} (e : P k = some x) : fstF P (f + 1) k = some x := by
  show (match P k with | some x => some x | none => fstF P f (k + 1)) = some x
  rw [e]
theorem fst_none {β : Type} {P : Nat → Option β} {f k : Nat} (e : P k = none) : fstF P (f + 1) k = fstF P f (k + 1) := by
  show (match P k with | some x => some x | none => fstF P f (k + 1)) = _
  rw [e]
noncomputable def P1 (D : HDt) (u : Mom) (i a : Nat) : Option (List Nat) := if canB D u i a = true ∧ mI (tl D u i a) = 2 ^ i then some [a] else none
noncomputable def al1 (D : HDt) (u : Mom) (i : Nat) : Option (List Nat) := fstF (P1 D u i) 60 0
noncomputable def P2 (D : HDt) (u : Mom) (i a : Nat) : Option (List Nat) := if canB D u i a = true then (al1 D (tl D u i a) i).map (fun L => a :: L) else none
noncomputable def al2 (D : HDt) (u : Mom) (i : Nat) : Option (List Nat) := fstF (P2 D u i) 60 0
noncomputable def P3 (D : HDt) (u : Mom) (i a : Nat) : Option (List Nat) := if canB D u i a = true then (al2 D (tl D u i a) i).map (fun L => a :: L) else none
noncomputable def al3 (D : HDt) (u : Mom) (i : Nat) : Option (List Nat) := fstF (P3 D u i) 60 0
noncomputable def alF (D : HDt) (u : Mom) (i : Nat) : Option (List Nat) := if mI u = 2 ^ i then some [] else match al1 D u i with
  | some L => some L
  | none => match al2 D u i with
    | some L => some L
    | none => al3 D u i
def lnI : Option (List Nat) → Int32
  | none => -1
  | some L => nI L.length
/-- what layAlone leaves -/
def QL (h : Hp) (r : Option (List Nat)) : Pst := fun v g => v = none ∧ Scr h g ∧ g 49 36 = lnI r ∧ ∀ L k x, r = some L → L[k]? = some x → g 67 k = nI x
