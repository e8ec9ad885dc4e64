variable {l : Launch} {E : Ev} {h : Hp}
theorem Scr.u67 {g : Hp} (q : Scr h g) (k : Nat) (x : Int32) : Scr h (up g 67 k x) := q.row _ (by decide)
theorem QL_0 {g : Hp} {r : Option (List Nat)} (q : Scr h g) (e : r = some []) : QL h r none (up g 49 36 0) := by
  subst e
  exact ⟨rfl, q.f36 0, up_self _ _ _ _, fun L k x e2 hx => by cases e2; exact (no_nil hx).elim⟩
theorem QL_n {g : Hp} {r : Option (List Nat)} (q : Scr h g) (e : r = none) : QL h r none (up g 49 36 (-1)) := by
  subst e
  exact ⟨rfl, q.f36 _, up_self _ _ _ _, fun L k x e2 => by cases e2⟩
theorem QL_1 {g : Hp} {r : Option (List Nat)} {a : Nat} (q : Scr h g) (e : r = some [a]) : QL h r none (up (up g 49 36 1) 67 0 (nI a)) := by
  subst e
  refine ⟨rfl, (q.f36 1).u67 _ _, by rw [up_row _ _ _ _ (by decide), up_self]; rfl, fun L k x e2 hx => ?_⟩
  cases e2
  match k, hx with
  | 0, hx => cases hx; rw [up_self]
  | k + 1, hx => simp at hx
theorem QL_2 {g : Hp} {r : Option (List Nat)} {a b : Nat} (q : Scr h g) (e : r = some [a, b]) : QL h r none (up (up (up g 49 36 2) 67 0 (nI a)) 67 1 (nI b)) := by
  subst e
  refine ⟨rfl, ((q.f36 2).u67 _ _).u67 _ _, by rw [up_row _ _ _ _ (by decide), up_row _ _ _ _ (by decide), up_self]; rfl, fun L k x e2 hx => ?_⟩
  cases e2
  match k, hx with
  | 0, hx => cases hx; rw [up_off _ _ _ _ (by decide), up_self]
  | 1, hx => cases hx; rw [up_self]
  | k + 2, hx => simp at hx
theorem QL_3 {g : Hp} {r : Option (List Nat)} {a b c : Nat} (q : Scr h g) (e : r = some [a, b, c]) : QL h r none (up (up (up (up g 49 36 3) 67 0 (nI a)) 67 1 (nI b)) 67 2 (nI c)) := by
  subst e
  refine ⟨rfl, (((q.f36 3).u67 _ _).u67 _ _).u67 _ _, by rw [up_row _ _ _ _ (by decide), up_row _ _ _ _ (by decide), up_row _ _ _ _ (by decide), up_self]; rfl, fun L k x e2 hx => ?_⟩
  cases e2
  match k, hx with
  | 0, hx => cases hx; rw [up_off _ _ _ _ (by decide), up_off _ _ _ _ (by decide), up_self]
  | 1, hx => cases hx; rw [up_off _ _ _ _ (by decide), up_self]
  | 2, hx => cases hx; rw [up_self]
  | k + 3, hx => simp at hx
theorem okW_lt {D : HDt} {u : Mom} {n : Nat} (okd : okD D) (ok : okW D u n) : mI u < 64 := Nat.lt_of_lt_of_le ok.1 (Nat.pow_le_pow_right (n := 2) (by decide) okd.1)
set_option maxHeartbeats 4000000 in
theorem s8_layAlone {D : HDt} {u : Mom} {i : Nat} (hM : MH h D) (hR : MomR (h 57) u) (ok : okW D u 0) (hi : i < 6) : Sp l E SHP 5 M8_layAlone [.ref (E.1 + 49), .int (nI i)] h (QL h (alF D u i)) := by
  refine Sp.of (by decide) (Nat.le_of_ble_eq_true rfl) (fun X C F => ?_)
  have C : Ok X E RX8 cX8_layAlone 5 := C
  have F : Fn X l E SHP 5 none (QL h (alF D u i)) := F
  show G X E SHP (0, 0) 0 [(0, .ref (E.1 + 49)), (1, .int (nI i))] [] h
  have okd := hM.1
  have e57 : ∀ g, Scr h g → MomR (g 57) u := fun g q => by rw [q.1 57 (by decide)]; exact hR
  have pi6 : 2 ^ i < 64 := Nat.pow_lt_pow_right (n := 6) (by decide) hi
  have L3 : ¬ mI u = 2 ^ i → al1 D u i = none → al2 D u i = none → ∀ a, a ≤ 60 → ∀ g, Scr h g → fstF (P3 D u i) (60 - a) a = al3 D u i → G X E SHP (0, 0) 202 [(0, .ref (E.1 + 49)), (1, .int (nI i)), (2, .int (nI a))] [] g := by
    intro hne h1n h2n
    have hal : alF D u i = al3 D u i := by unfold alF; rw [if_neg hne, h1n, h2n]
    refine loopN 60 _ (fun a ha ih g hS e3 => ?_)
    have LB : a < 60 → canB D u i a = true → ∀ b, b ≤ 60 → ∀ g, Scr h g → MomR (g 58) (tl D u i a) → fstF (P2 D (tl D u i a) i) (60 - b) b = al2 D (tl D u i a) i → G X E SHP (0, 0) 241 [(0, .ref (E.1 + 49)), (1, .int (nI i)), (2, .int (nI a)), (3, .int (nI b))] [] g := by
      intro ha2 hca
      have ok1 := okW_tl ok i a
      refine loopN 60 _ (fun b hb ihb g hS hm58 e2 => ?_)
      have LC : b < 60 → canB D (tl D u i a) i b = true → ∀ c, c ≤ 60 → ∀ g, Scr h g → MomR (g 58) (tl D u i a) → MomR (g 59) (tl D (tl D u i a) i b) → fstF (P1 D (tl D (tl D u i a) i b) i) (60 - c) c = al1 D (tl D (tl D u i a) i b) i → G X E SHP (0, 0) 281 [(0, .ref (E.1 + 49)), (1, .int (nI i)), (2, .int (nI a)), (3, .int (nI b)), (4, .int (nI c))] [] g := by
        intro hb2 hcb
        have ok2 := okW_tl ok1 i b
        refine loopN 60 _ (fun c hc ihc g hS hm58 hm59 e1 => ?_)
        refine r_iload C dX8_layAlone_281 rfl ?_
        refine r_bipush (60) C dX8_layAlone_283 rfl ?_
        refine r_icmp_ge 361 C dX8_layAlone_285 (by decide) (fun c_285 => ?_) (fun c_285 => ?_)
        · rw [cLe (x := 60) (c := nI c) (i := 60) (n := c) (rfl) (rfl) (by omega) (by omega)] at c_285
          have hz : al1 D (tl D (tl D u i a) i b) i = none := by rw [← e1, show 60 - c = 0 by omega]; rfl
          have hp : P2 D (tl D u i a) i b = none := by unfold P2; rw [if_pos hcb, hz]; rfl
          have hnx : fstF (P2 D (tl D u i a) i) (60 - (b + 1)) (b + 1) = al2 D (tl D u i a) i := by rw [← e2, show 60 - b = (60 - (b + 1)) + 1 by omega, fst_none hp]
          refine r_inc (1) C dX8_layAlone_361 rfl (by decide) rfl rfl ?_
          refine r_goto 241 C dX8_layAlone_364 (by decide) ?_
          exact (ihb hb2 g hS hm58 hnx).sub ⟨rfl, rfl, rfl, by rw [nI_succ]; rfl, trivial⟩
        · rw [cLe (x := 60) (c := nI c) (i := 60) (n := c) (rfl) (rfl) (by omega) (by omega)] at c_285
          have e0 : 60 - c = (60 - (c + 1)) + 1 := by omega
          refine r_aload_n C dX8_layAlone_288 rfl ?_
          refine r_getR C dX8_layAlone_289 flX8_41 (rfl) rfl ?_
          refine r_iconst (0) C dX8_layAlone_292 rfl ?_
          refine r_aload_n C dX8_layAlone_293 rfl ?_
          refine r_getR C dX8_layAlone_294 flX8_44 (rfl) rfl ?_
          refine r_iconst (0) C dX8_layAlone_297 rfl ?_
          refine r_cSv C F dX8_layAlone_298 (s8_copy (i := 59) (j := 60) (a := 0) (b := 0) rfl rfl (by decide) (by decide) (by decide) (by decide) (by decide)) tw_887 m8_copy (by decide) rfl (Nat.le_of_ble_eq_true rfl) ?_
          have hS1 : Scr h (upr g 60 (va_cpy (g 59) (g 60) 0 0 16)) := hS.row _ (by decide)
          have hm1 : MomR ((upr g 60 (va_cpy (g 59) (g 60) 0 0 16)) 60) ((tl D (tl D u i a) i b)) := by rw [upr_self]; exact cpy_row (hm59)
          have k581 : (upr g 60 (va_cpy (g 59) (g 60) 0 0 16)) 58 = g 58 := upr_row _ _ _ (by decide)
          have k591 : (upr g 60 (va_cpy (g 59) (g 60) 0 0 16)) 59 = g 59 := upr_row _ _ _ (by decide)
          generalize upr g 60 (va_cpy (g 59) (g 60) 0 0 16) = g1 at hS1 hm1 k581 k591 ⊢
          refine r_aload_n C dX8_layAlone_301 rfl ?_
          refine r_aload_n C dX8_layAlone_302 rfl ?_
          refine r_getR C dX8_layAlone_303 flX8_44 (rfl) rfl ?_
          refine r_iload_n C dX8_layAlone_306 rfl ?_
          refine r_iload C dX8_layAlone_307 rfl ?_
          refine r_callV C F dX8_layAlone_309 (s8_tells (c := c) (hS1.MH hM) rfl hm1 ok2 (by decide) hi (by omega) (by decide)) tw_948 m8_tells (rfl) rfl (by decide) rfl (Nat.le_of_ble_eq_true rfl) (fun v h2 hq => ?_)
          obtain ⟨rfl, f, rfl, hf⟩ := hq
          have hS2 : Scr h (upr g1 60 f) := hS1.row _ (by decide)
          have hm2 : canB D (tl D (tl D u i a) i b) i c = true → MomR (upr g1 60 f 60) (tl D (tl D (tl D u i a) i b) i c) := fun q => by rw [upr_self]; exact hf q
          have k582 : upr g1 60 f 58 = g 58 := (upr_row _ _ _ (by decide)).trans k581
          have k592 : upr g1 60 f 59 = g 59 := (upr_row _ _ _ (by decide)).trans k591
          generalize upr g1 60 f = g2 at hS2 hm2 k582 k592 ⊢
          refine r_if_eq 355 C dX8_layAlone_312 (by decide) (fun c_312 => ?_) (fun c_312 => ?_)
          · rw [bz_eq0] at c_312
            have hnx : fstF (P1 D (tl D (tl D u i a) i b) i) (60 - (c + 1)) (c + 1) = al1 D (tl D (tl D u i a) i b) i := by rw [← e1, e0, fst_none (show P1 D (tl D (tl D u i a) i b) i c = none from if_neg (fun q => c_312 q.1))]
            refine r_inc (1) C dX8_layAlone_355 rfl (by decide) rfl rfl ?_
            refine r_goto 281 C dX8_layAlone_358 (by decide) ?_
            exact (ihc (by omega) g2 hS2 (by rw [k582]; exact hm58) (by rw [k592]; exact hm59) hnx).sub ⟨rfl, rfl, rfl, rfl, by rw [nI_succ]; rfl, trivial⟩
          · rw [bz_ne0] at c_312
            have hlt := okW_lt okd (okW_tl ok2 i c)
            refine r_aload_n C dX8_layAlone_315 rfl ?_
            refine r_getR C dX8_layAlone_316 flX8_44 (rfl) rfl ?_
            refine r_iconst (0) C dX8_layAlone_319 rfl ?_
            refine r_iald (0) C dX8_layAlone_320 (rfl) (rfl) (by decide) (by decide) ?_
            refine r_iconst (1) C dX8_layAlone_321 rfl ?_
            refine r_iload_n C dX8_layAlone_322 rfl ?_
            refine r_ishl C dX8_layAlone_323 ?_
            refine r_icmp_ne 355 C dX8_layAlone_324 (by decide) (fun c_324 => ?_) (fun c_324 => ?_)
            · rw [(hm2 c_312).1, shl1_nI (by omega), nI_eq (by omega) (by omega)] at c_324
              have hnx : fstF (P1 D (tl D (tl D u i a) i b) i) (60 - (c + 1)) (c + 1) = al1 D (tl D (tl D u i a) i b) i := by rw [← e1, e0, fst_none (show P1 D (tl D (tl D u i a) i b) i c = none from if_neg (fun q => c_324 q.2))]
              refine r_inc (1) C dX8_layAlone_355 rfl (by decide) rfl rfl ?_
              refine r_goto 281 C dX8_layAlone_358 (by decide) ?_
              exact (ihc (by omega) g2 hS2 (by rw [k582]; exact hm58) (by rw [k592]; exact hm59) hnx).sub ⟨rfl, rfl, rfl, rfl, by rw [nI_succ]; rfl, trivial⟩
            · rw [(hm2 c_312).1, shl1_nI (by omega), nI_eq (by omega) (by omega)] at c_324
              have hz : al1 D (tl D (tl D u i a) i b) i = some [c] := by rw [← e1, e0, fst_some (show P1 D (tl D (tl D u i a) i b) i c = some [c] from if_pos ⟨c_312, c_324⟩)]
              have hp : P2 D (tl D u i a) i b = some [b, c] := by unfold P2; rw [if_pos hcb, hz]; rfl
              have hz2 : al2 D (tl D u i a) i = some [b, c] := by rw [← e2, show 60 - b = (60 - (b + 1)) + 1 by omega, fst_some hp]
              have hp3 : P3 D u i a = some [a, b, c] := by unfold P3; rw [if_pos hca, hz2]; rfl
              have hz3 : alF D u i = some [a, b, c] := by rw [hal, ← e3, show 60 - a = (60 - (a + 1)) + 1 by omega, fst_some hp3]
              refine r_aload_n C dX8_layAlone_327 rfl ?_
              refine r_iconst (3) C dX8_layAlone_328 rfl ?_
              refine r_putI C dX8_layAlone_329 fwX8_227 (rfl) rfl ?_
              refine r_aload_n C dX8_layAlone_332 rfl ?_
              refine r_getR C dX8_layAlone_333 flX8_66 (rfl) rfl ?_
              refine r_iconst (0) C dX8_layAlone_336 rfl ?_
              refine r_iload_n C dX8_layAlone_337 rfl ?_
              refine r_iast (0) C dX8_layAlone_338 (rfl) (rfl) (by decide) (by decide) ?_
              refine r_aload_n C dX8_layAlone_339 rfl ?_
              refine r_getR C dX8_layAlone_340 flX8_66 (rfl) rfl ?_
              refine r_iconst (1) C dX8_layAlone_343 rfl ?_
              refine r_iload_n C dX8_layAlone_344 rfl ?_
              refine r_iast (1) C dX8_layAlone_345 (rfl) (rfl) (by decide) (by decide) ?_
              refine r_aload_n C dX8_layAlone_346 rfl ?_
              refine r_getR C dX8_layAlone_347 flX8_66 (rfl) rfl ?_
              refine r_iconst (2) C dX8_layAlone_350 rfl ?_
              refine r_iload C dX8_layAlone_351 rfl ?_
              refine r_iast (2) C dX8_layAlone_353 (rfl) (rfl) (by decide) (by decide) ?_
              exact r_vret C F dX8_layAlone_354 (QL_3 hS2 hz3)
      refine r_iload_n C dX8_layAlone_241 rfl ?_
      refine r_bipush (60) C dX8_layAlone_242 rfl ?_
      refine r_icmp_ge 367 C dX8_layAlone_244 (by decide) (fun c_244 => ?_) (fun c_244 => ?_)
      · rw [cLe (x := 60) (c := nI b) (i := 60) (n := b) (rfl) (rfl) (by omega) (by omega)] at c_244
        have hz2 : al2 D (tl D u i a) i = none := by rw [← e2, show 60 - b = 0 by omega]; rfl
        have hp3 : P3 D u i a = none := by unfold P3; rw [if_pos hca, hz2]; rfl
        have hnx : fstF (P3 D u i) (60 - (a + 1)) (a + 1) = al3 D u i := by rw [← e3, show 60 - a = (60 - (a + 1)) + 1 by omega, fst_none hp3]
        refine r_inc (1) C dX8_layAlone_367 rfl (by decide) rfl rfl ?_
        refine r_goto 202 C dX8_layAlone_370 (by decide) ?_
        exact (ih ha2 g hS hnx).sub ⟨rfl, rfl, by rw [nI_succ]; rfl, trivial⟩
      · rw [cLe (x := 60) (c := nI b) (i := 60) (n := b) (rfl) (rfl) (by omega) (by omega)] at c_244
        refine r_aload_n C dX8_layAlone_247 rfl ?_
        refine r_getR C dX8_layAlone_248 flX8_38 (rfl) rfl ?_
        refine r_iconst (0) C dX8_layAlone_251 rfl ?_
        refine r_aload_n C dX8_layAlone_252 rfl ?_
        refine r_getR C dX8_layAlone_253 flX8_41 (rfl) rfl ?_
        refine r_iconst (0) C dX8_layAlone_256 rfl ?_
        refine r_cSv C F dX8_layAlone_257 (s8_copy (i := 58) (j := 59) (a := 0) (b := 0) rfl rfl (by decide) (by decide) (by decide) (by decide) (by decide)) tw_887 m8_copy (by decide) rfl (Nat.le_of_ble_eq_true rfl) ?_
        have hS1 : Scr h (upr g 59 (va_cpy (g 58) (g 59) 0 0 16)) := hS.row _ (by decide)
        have hm1 : MomR ((upr g 59 (va_cpy (g 58) (g 59) 0 0 16)) 59) ((tl D u i a)) := by rw [upr_self]; exact cpy_row (hm58)
        have k581 : (upr g 59 (va_cpy (g 58) (g 59) 0 0 16)) 58 = g 58 := upr_row _ _ _ (by decide)
        generalize upr g 59 (va_cpy (g 58) (g 59) 0 0 16) = g1 at hS1 hm1 k581 ⊢
        refine r_aload_n C dX8_layAlone_260 rfl ?_
        refine r_aload_n C dX8_layAlone_261 rfl ?_
        refine r_getR C dX8_layAlone_262 flX8_41 (rfl) rfl ?_
        refine r_iload_n C dX8_layAlone_265 rfl ?_
        refine r_iload_n C dX8_layAlone_266 rfl ?_
        refine r_callV C F dX8_layAlone_267 (s8_tells (c := b) (hS1.MH hM) rfl hm1 ok1 (by decide) hi (by omega) (by decide)) tw_948 m8_tells (rfl) rfl (by decide) rfl (Nat.le_of_ble_eq_true rfl) (fun v h2 hq => ?_)
        obtain ⟨rfl, f, rfl, hf⟩ := hq
        have hS2 : Scr h (upr g1 59 f) := hS1.row _ (by decide)
        have hm2 : canB D (tl D u i a) i b = true → MomR (upr g1 59 f 59) (tl D (tl D u i a) i b) := fun q => by rw [upr_self]; exact hf q
        have k582 : upr g1 59 f 58 = g 58 := (upr_row _ _ _ (by decide)).trans k581
        generalize upr g1 59 f = g2 at hS2 hm2 k582 ⊢
        refine r_if_eq 277 C dX8_layAlone_270 (by decide) (fun c_270 => ?_) (fun c_270 => ?_)
        · rw [bz_eq0] at c_270
          have hp : P2 D (tl D u i a) i b = none := by unfold P2; rw [if_neg c_270]
          have hnx : fstF (P2 D (tl D u i a) i) (60 - (b + 1)) (b + 1) = al2 D (tl D u i a) i := by rw [← e2, show 60 - b = (60 - (b + 1)) + 1 by omega, fst_none hp]
          refine r_bipush (60) C dX8_layAlone_277 rfl ?_
          refine r_istore C dX8_layAlone_279 (by decide) rfl ?_
          refine r_iload C dX8_layAlone_281 rfl ?_
          refine r_bipush (60) C dX8_layAlone_283 rfl ?_
          refine r_icmp_ge 361 C dX8_layAlone_285 (by decide) (fun c_285 => ?_) (fun c_285 => ?_)
          · refine r_inc (1) C dX8_layAlone_361 rfl (by decide) rfl rfl ?_
            refine r_goto 241 C dX8_layAlone_364 (by decide) ?_
            exact (ihb (by omega) g2 hS2 (by rw [k582]; exact hm58) hnx).sub ⟨rfl, rfl, rfl, by rw [nI_succ]; rfl, trivial⟩
          · exact absurd (by decide) c_285
        · rw [bz_ne0] at c_270
          refine r_iconst (0) C dX8_layAlone_273 rfl ?_
          refine r_goto 279 C dX8_layAlone_274 (by decide) ?_
          refine r_istore C dX8_layAlone_279 (by decide) rfl ?_
          exact (LC (by omega) c_270 0 (by omega) g2 hS2 (by rw [k582]; exact hm58) (hm2 c_270) rfl).sub ⟨rfl, rfl, rfl, rfl, rfl, trivial⟩
    refine r_iload_n C dX8_layAlone_202 rfl ?_
    refine r_bipush (60) C dX8_layAlone_203 rfl ?_
    refine r_icmp_ge 373 C dX8_layAlone_205 (by decide) (fun c_205 => ?_) (fun c_205 => ?_)
    · rw [cLe (x := 60) (c := nI a) (i := 60) (n := a) (rfl) (rfl) (by omega) (by omega)] at c_205
      have hz3 : alF D u i = none := by rw [hal, ← e3, show 60 - a = 0 by omega]; rfl
      refine r_aload_n C dX8_layAlone_373 rfl ?_
      refine r_iconst (-1) C dX8_layAlone_374 rfl ?_
      refine r_putI C dX8_layAlone_375 fwX8_227 (rfl) rfl ?_
      exact r_vret C F dX8_layAlone_378 (QL_n hS hz3)
    · rw [cLe (x := 60) (c := nI a) (i := 60) (n := a) (rfl) (rfl) (by omega) (by omega)] at c_205
      refine r_aload_n C dX8_layAlone_208 rfl ?_
      refine r_getR C dX8_layAlone_209 flX8_35 (rfl) rfl ?_
      refine r_iconst (0) C dX8_layAlone_212 rfl ?_
      refine r_aload_n C dX8_layAlone_213 rfl ?_
      refine r_getR C dX8_layAlone_214 flX8_38 (rfl) rfl ?_
      refine r_iconst (0) C dX8_layAlone_217 rfl ?_
      refine r_cSv C F dX8_layAlone_218 (s8_copy (i := 57) (j := 58) (a := 0) (b := 0) rfl rfl (by decide) (by decide) (by decide) (by decide) (by decide)) tw_887 m8_copy (by decide) rfl (Nat.le_of_ble_eq_true rfl) ?_
      have hS1 : Scr h (upr g 58 (va_cpy (g 57) (g 58) 0 0 16)) := hS.row _ (by decide)
      have hm1 : MomR ((upr g 58 (va_cpy (g 57) (g 58) 0 0 16)) 58) (u) := by rw [upr_self]; exact cpy_row (e57 g hS)
      generalize upr g 58 (va_cpy (g 57) (g 58) 0 0 16) = g1 at hS1 hm1 ⊢
      refine r_aload_n C dX8_layAlone_221 rfl ?_
      refine r_aload_n C dX8_layAlone_222 rfl ?_
      refine r_getR C dX8_layAlone_223 flX8_38 (rfl) rfl ?_
      refine r_iload_n C dX8_layAlone_226 rfl ?_
      refine r_iload_n C dX8_layAlone_227 rfl ?_
      refine r_callV C F dX8_layAlone_228 (s8_tells (c := a) (hS1.MH hM) rfl hm1 ok (by decide) hi (by omega) (by decide)) tw_948 m8_tells (rfl) rfl (by decide) rfl (Nat.le_of_ble_eq_true rfl) (fun v h2 hq => ?_)
      obtain ⟨rfl, f, rfl, hf⟩ := hq
      have hS2 : Scr h (upr g1 58 f) := hS1.row _ (by decide)
      have hm2 : canB D u i a = true → MomR (upr g1 58 f 58) (tl D u i a) := fun q => by rw [upr_self]; exact hf q
      generalize upr g1 58 f = g2 at hS2 hm2 ⊢
      refine r_if_eq 238 C dX8_layAlone_231 (by decide) (fun c_231 => ?_) (fun c_231 => ?_)
      · rw [bz_eq0] at c_231
        have hp3 : P3 D u i a = none := by unfold P3; rw [if_neg c_231]
        have hnx : fstF (P3 D u i) (60 - (a + 1)) (a + 1) = al3 D u i := by rw [← e3, show 60 - a = (60 - (a + 1)) + 1 by omega, fst_none hp3]
        refine r_bipush (60) C dX8_layAlone_238 rfl ?_
        refine r_istore_n C dX8_layAlone_240 (by decide) rfl ?_
        refine r_iload_n C dX8_layAlone_241 rfl ?_
        refine r_bipush (60) C dX8_layAlone_242 rfl ?_
        refine r_icmp_ge 367 C dX8_layAlone_244 (by decide) (fun c_244 => ?_) (fun c_244 => ?_)
        · refine r_inc (1) C dX8_layAlone_367 rfl (by decide) rfl rfl ?_
          refine r_goto 202 C dX8_layAlone_370 (by decide) ?_
          exact (ih (by omega) g2 hS2 hnx).sub ⟨rfl, rfl, by rw [nI_succ]; rfl, trivial⟩
        · exact absurd (by decide) c_244
      · rw [bz_ne0] at c_231
        refine r_iconst (0) C dX8_layAlone_234 rfl ?_
        refine r_goto 240 C dX8_layAlone_235 (by decide) ?_
        refine r_istore_n C dX8_layAlone_240 (by decide) rfl ?_
        exact (LB (by omega) c_231 0 (by omega) g2 hS2 (hm2 c_231) rfl).sub ⟨rfl, rfl, rfl, rfl, trivial⟩
  have L2 : ¬ mI u = 2 ^ i → al1 D u i = none → ∀ a, a ≤ 60 → ∀ g, Scr h g → fstF (P2 D u i) (60 - a) a = al2 D u i → G X E SHP (0, 0) 85 [(0, .ref (E.1 + 49)), (1, .int (nI i)), (2, .int (nI a))] [] g := by
    intro hne h1n
    refine loopN 60 _ (fun a ha ih g hS e2 => ?_)
    have LB : a < 60 → canB D u i a = true → ∀ b, b ≤ 60 → ∀ g, Scr h g → MomR (g 58) (tl D u i a) → fstF (P1 D (tl D u i a) i) (60 - b) b = al1 D (tl D u i a) i → G X E SHP (0, 0) 124 [(0, .ref (E.1 + 49)), (1, .int (nI i)), (2, .int (nI a)), (3, .int (nI b))] [] g := by
      intro ha2 hca
      have ok1 := okW_tl ok i a
      refine loopN 60 _ (fun b hb ihb g hS hm58 e1 => ?_)
      refine r_iload_n C dX8_layAlone_124 rfl ?_
      refine r_bipush (60) C dX8_layAlone_125 rfl ?_
      refine r_icmp_ge 194 C dX8_layAlone_127 (by decide) (fun c_127 => ?_) (fun c_127 => ?_)
      · rw [cLe (x := 60) (c := nI b) (i := 60) (n := b) (rfl) (rfl) (by omega) (by omega)] at c_127
        have hz : al1 D (tl D u i a) i = none := by rw [← e1, show 60 - b = 0 by omega]; rfl
        have hp : P2 D u i a = none := by unfold P2; rw [if_pos hca, hz]; rfl
        have hnx : fstF (P2 D u i) (60 - (a + 1)) (a + 1) = al2 D u i := by rw [← e2, show 60 - a = (60 - (a + 1)) + 1 by omega, fst_none hp]
        refine r_inc (1) C dX8_layAlone_194 rfl (by decide) rfl rfl ?_
        refine r_goto 85 C dX8_layAlone_197 (by decide) ?_
        exact (ih ha2 g hS hnx).sub ⟨rfl, rfl, by rw [nI_succ]; rfl, trivial⟩
      · rw [cLe (x := 60) (c := nI b) (i := 60) (n := b) (rfl) (rfl) (by omega) (by omega)] at c_127
        have e0 : 60 - b = (60 - (b + 1)) + 1 := by omega
        refine r_aload_n C dX8_layAlone_130 rfl ?_
        refine r_getR C dX8_layAlone_131 flX8_38 (rfl) rfl ?_
        refine r_iconst (0) C dX8_layAlone_134 rfl ?_
        refine r_aload_n C dX8_layAlone_135 rfl ?_
        refine r_getR C dX8_layAlone_136 flX8_41 (rfl) rfl ?_
        refine r_iconst (0) C dX8_layAlone_139 rfl ?_
        refine r_cSv C F dX8_layAlone_140 (s8_copy (i := 58) (j := 59) (a := 0) (b := 0) rfl rfl (by decide) (by decide) (by decide) (by decide) (by decide)) tw_887 m8_copy (by decide) rfl (Nat.le_of_ble_eq_true rfl) ?_
        have hS1 : Scr h (upr g 59 (va_cpy (g 58) (g 59) 0 0 16)) := hS.row _ (by decide)
        have hm1 : MomR ((upr g 59 (va_cpy (g 58) (g 59) 0 0 16)) 59) ((tl D u i a)) := by rw [upr_self]; exact cpy_row (hm58)
        have k581 : (upr g 59 (va_cpy (g 58) (g 59) 0 0 16)) 58 = g 58 := upr_row _ _ _ (by decide)
        generalize upr g 59 (va_cpy (g 58) (g 59) 0 0 16) = g1 at hS1 hm1 k581 ⊢
        refine r_aload_n C dX8_layAlone_143 rfl ?_
        refine r_aload_n C dX8_layAlone_144 rfl ?_
        refine r_getR C dX8_layAlone_145 flX8_41 (rfl) rfl ?_
        refine r_iload_n C dX8_layAlone_148 rfl ?_
        refine r_iload_n C dX8_layAlone_149 rfl ?_
        refine r_callV C F dX8_layAlone_150 (s8_tells (c := b) (hS1.MH hM) rfl hm1 ok1 (by decide) hi (by omega) (by decide)) tw_948 m8_tells (rfl) rfl (by decide) rfl (Nat.le_of_ble_eq_true rfl) (fun v h2 hq => ?_)
        obtain ⟨rfl, f, rfl, hf⟩ := hq
        have hS2 : Scr h (upr g1 59 f) := hS1.row _ (by decide)
        have hm2 : canB D (tl D u i a) i b = true → MomR (upr g1 59 f 59) (tl D (tl D u i a) i b) := fun q => by rw [upr_self]; exact hf q
        have k582 : upr g1 59 f 58 = g 58 := (upr_row _ _ _ (by decide)).trans k581
        generalize upr g1 59 f = g2 at hS2 hm2 k582 ⊢
        refine r_if_eq 188 C dX8_layAlone_153 (by decide) (fun c_153 => ?_) (fun c_153 => ?_)
        · rw [bz_eq0] at c_153
          have hnx : fstF (P1 D (tl D u i a) i) (60 - (b + 1)) (b + 1) = al1 D (tl D u i a) i := by rw [← e1, e0, fst_none (show P1 D (tl D u i a) i b = none from if_neg (fun q => c_153 q.1))]
          refine r_inc (1) C dX8_layAlone_188 rfl (by decide) rfl rfl ?_
          refine r_goto 124 C dX8_layAlone_191 (by decide) ?_
          exact (ihb (by omega) g2 hS2 (by rw [k582]; exact hm58) hnx).sub ⟨rfl, rfl, rfl, by rw [nI_succ]; rfl, trivial⟩
        · rw [bz_ne0] at c_153
          have hlt := okW_lt okd (okW_tl ok1 i b)
          refine r_aload_n C dX8_layAlone_156 rfl ?_
          refine r_getR C dX8_layAlone_157 flX8_41 (rfl) rfl ?_
          refine r_iconst (0) C dX8_layAlone_160 rfl ?_
          refine r_iald (0) C dX8_layAlone_161 (rfl) (rfl) (by decide) (by decide) ?_
          refine r_iconst (1) C dX8_layAlone_162 rfl ?_
          refine r_iload_n C dX8_layAlone_163 rfl ?_
          refine r_ishl C dX8_layAlone_164 ?_
          refine r_icmp_ne 188 C dX8_layAlone_165 (by decide) (fun c_165 => ?_) (fun c_165 => ?_)
          · rw [(hm2 c_153).1, shl1_nI (by omega), nI_eq (by omega) (by omega)] at c_165
            have hnx : fstF (P1 D (tl D u i a) i) (60 - (b + 1)) (b + 1) = al1 D (tl D u i a) i := by rw [← e1, e0, fst_none (show P1 D (tl D u i a) i b = none from if_neg (fun q => c_165 q.2))]
            refine r_inc (1) C dX8_layAlone_188 rfl (by decide) rfl rfl ?_
            refine r_goto 124 C dX8_layAlone_191 (by decide) ?_
            exact (ihb (by omega) g2 hS2 (by rw [k582]; exact hm58) hnx).sub ⟨rfl, rfl, rfl, by rw [nI_succ]; rfl, trivial⟩
          · rw [(hm2 c_153).1, shl1_nI (by omega), nI_eq (by omega) (by omega)] at c_165
            have hz : al1 D (tl D u i a) i = some [b] := by rw [← e1, e0, fst_some (show P1 D (tl D u i a) i b = some [b] from if_pos ⟨c_153, c_165⟩)]
            have hp : P2 D u i a = some [a, b] := by unfold P2; rw [if_pos hca, hz]; rfl
            have hz2 : al2 D u i = some [a, b] := by rw [← e2, show 60 - a = (60 - (a + 1)) + 1 by omega, fst_some hp]
            have hz3 : alF D u i = some [a, b] := by unfold alF; rw [if_neg hne, h1n, hz2]
            refine r_aload_n C dX8_layAlone_168 rfl ?_
            refine r_iconst (2) C dX8_layAlone_169 rfl ?_
            refine r_putI C dX8_layAlone_170 fwX8_227 (rfl) rfl ?_
            refine r_aload_n C dX8_layAlone_173 rfl ?_
            refine r_getR C dX8_layAlone_174 flX8_66 (rfl) rfl ?_
            refine r_iconst (0) C dX8_layAlone_177 rfl ?_
            refine r_iload_n C dX8_layAlone_178 rfl ?_
            refine r_iast (0) C dX8_layAlone_179 (rfl) (rfl) (by decide) (by decide) ?_
            refine r_aload_n C dX8_layAlone_180 rfl ?_
            refine r_getR C dX8_layAlone_181 flX8_66 (rfl) rfl ?_
            refine r_iconst (1) C dX8_layAlone_184 rfl ?_
            refine r_iload_n C dX8_layAlone_185 rfl ?_
            refine r_iast (1) C dX8_layAlone_186 (rfl) (rfl) (by decide) (by decide) ?_
            exact r_vret C F dX8_layAlone_187 (QL_2 hS2 hz3)
    refine r_iload_n C dX8_layAlone_85 rfl ?_
    refine r_bipush (60) C dX8_layAlone_86 rfl ?_
    refine r_icmp_ge 200 C dX8_layAlone_88 (by decide) (fun c_88 => ?_) (fun c_88 => ?_)
    · rw [cLe (x := 60) (c := nI a) (i := 60) (n := a) (rfl) (rfl) (by omega) (by omega)] at c_88
      have hz2 : al2 D u i = none := by rw [← e2, show 60 - a = 0 by omega]; rfl
      refine r_iconst (0) C dX8_layAlone_200 rfl ?_
      refine r_istore_n C dX8_layAlone_201 (by decide) rfl ?_
      exact (L3 hne h1n hz2 0 (by omega) g hS rfl).sub ⟨rfl, rfl, rfl, trivial⟩
    · rw [cLe (x := 60) (c := nI a) (i := 60) (n := a) (rfl) (rfl) (by omega) (by omega)] at c_88
      refine r_aload_n C dX8_layAlone_91 rfl ?_
      refine r_getR C dX8_layAlone_92 flX8_35 (rfl) rfl ?_
      refine r_iconst (0) C dX8_layAlone_95 rfl ?_
      refine r_aload_n C dX8_layAlone_96 rfl ?_
      refine r_getR C dX8_layAlone_97 flX8_38 (rfl) rfl ?_
      refine r_iconst (0) C dX8_layAlone_100 rfl ?_
      refine r_cSv C F dX8_layAlone_101 (s8_copy (i := 57) (j := 58) (a := 0) (b := 0) rfl rfl (by decide) (by decide) (by decide) (by decide) (by decide)) tw_887 m8_copy (by decide) rfl (Nat.le_of_ble_eq_true rfl) ?_
      have hS1 : Scr h (upr g 58 (va_cpy (g 57) (g 58) 0 0 16)) := hS.row _ (by decide)
      have hm1 : MomR ((upr g 58 (va_cpy (g 57) (g 58) 0 0 16)) 58) (u) := by rw [upr_self]; exact cpy_row (e57 g hS)
      generalize upr g 58 (va_cpy (g 57) (g 58) 0 0 16) = g1 at hS1 hm1 ⊢
      refine r_aload_n C dX8_layAlone_104 rfl ?_
      refine r_aload_n C dX8_layAlone_105 rfl ?_
      refine r_getR C dX8_layAlone_106 flX8_38 (rfl) rfl ?_
      refine r_iload_n C dX8_layAlone_109 rfl ?_
      refine r_iload_n C dX8_layAlone_110 rfl ?_
      refine r_callV C F dX8_layAlone_111 (s8_tells (c := a) (hS1.MH hM) rfl hm1 ok (by decide) hi (by omega) (by decide)) tw_948 m8_tells (rfl) rfl (by decide) rfl (Nat.le_of_ble_eq_true rfl) (fun v h2 hq => ?_)
      obtain ⟨rfl, f, rfl, hf⟩ := hq
      have hS2 : Scr h (upr g1 58 f) := hS1.row _ (by decide)
      have hm2 : canB D u i a = true → MomR (upr g1 58 f 58) (tl D u i a) := fun q => by rw [upr_self]; exact hf q
      generalize upr g1 58 f = g2 at hS2 hm2 ⊢
      refine r_if_eq 121 C dX8_layAlone_114 (by decide) (fun c_114 => ?_) (fun c_114 => ?_)
      · rw [bz_eq0] at c_114
        have hp : P2 D u i a = none := by unfold P2; rw [if_neg c_114]
        have hnx : fstF (P2 D u i) (60 - (a + 1)) (a + 1) = al2 D u i := by rw [← e2, show 60 - a = (60 - (a + 1)) + 1 by omega, fst_none hp]
        refine r_bipush (60) C dX8_layAlone_121 rfl ?_
        refine r_istore_n C dX8_layAlone_123 (by decide) rfl ?_
        refine r_iload_n C dX8_layAlone_124 rfl ?_
        refine r_bipush (60) C dX8_layAlone_125 rfl ?_
        refine r_icmp_ge 194 C dX8_layAlone_127 (by decide) (fun c_127 => ?_) (fun c_127 => ?_)
        · refine r_inc (1) C dX8_layAlone_194 rfl (by decide) rfl rfl ?_
          refine r_goto 85 C dX8_layAlone_197 (by decide) ?_
          exact (ih (by omega) g2 hS2 hnx).sub ⟨rfl, rfl, by rw [nI_succ]; rfl, trivial⟩
        · exact absurd (by decide) c_127
      · rw [bz_ne0] at c_114
        refine r_iconst (0) C dX8_layAlone_117 rfl ?_
        refine r_goto 123 C dX8_layAlone_118 (by decide) ?_
        refine r_istore_n C dX8_layAlone_123 (by decide) rfl ?_
        exact (LB (by omega) c_114 0 (by omega) g2 hS2 (hm2 c_114) rfl).sub ⟨rfl, rfl, rfl, rfl, trivial⟩
  have L1 : ¬ mI u = 2 ^ i → ∀ a, a ≤ 60 → ∀ g, Scr h g → fstF (P1 D u i) (60 - a) a = al1 D u i → G X E SHP (0, 0) 20 [(0, .ref (E.1 + 49)), (1, .int (nI i)), (2, .int (nI a))] [] g := by
    intro hne
    refine loopN 60 _ (fun a ha ih g hS e1 => ?_)
    refine r_iload_n C dX8_layAlone_20 rfl ?_
    refine r_bipush (60) C dX8_layAlone_21 rfl ?_
    refine r_icmp_ge 83 C dX8_layAlone_23 (by decide) (fun c_23 => ?_) (fun c_23 => ?_)
    · rw [cLe (x := 60) (c := nI a) (i := 60) (n := a) (rfl) (rfl) (by omega) (by omega)] at c_23
      have hz : al1 D u i = none := by rw [← e1, show 60 - a = 0 by omega]; rfl
      refine r_iconst (0) C dX8_layAlone_83 rfl ?_
      refine r_istore_n C dX8_layAlone_84 (by decide) rfl ?_
      exact (L2 hne hz 0 (by omega) g hS rfl).sub ⟨rfl, rfl, rfl, trivial⟩
    · rw [cLe (x := 60) (c := nI a) (i := 60) (n := a) (rfl) (rfl) (by omega) (by omega)] at c_23
      have e0 : 60 - a = (60 - (a + 1)) + 1 := by omega
      refine r_aload_n C dX8_layAlone_26 rfl ?_
      refine r_getR C dX8_layAlone_27 flX8_35 (rfl) rfl ?_
      refine r_iconst (0) C dX8_layAlone_30 rfl ?_
      refine r_aload_n C dX8_layAlone_31 rfl ?_
      refine r_getR C dX8_layAlone_32 flX8_38 (rfl) rfl ?_
      refine r_iconst (0) C dX8_layAlone_35 rfl ?_
      refine r_cSv C F dX8_layAlone_36 (s8_copy (i := 57) (j := 58) (a := 0) (b := 0) rfl rfl (by decide) (by decide) (by decide) (by decide) (by decide)) tw_887 m8_copy (by decide) rfl (Nat.le_of_ble_eq_true rfl) ?_
      have hS1 : Scr h (upr g 58 (va_cpy (g 57) (g 58) 0 0 16)) := hS.row _ (by decide)
      have hm1 : MomR ((upr g 58 (va_cpy (g 57) (g 58) 0 0 16)) 58) (u) := by rw [upr_self]; exact cpy_row (e57 g hS)
      generalize upr g 58 (va_cpy (g 57) (g 58) 0 0 16) = g1 at hS1 hm1 ⊢
      refine r_aload_n C dX8_layAlone_39 rfl ?_
      refine r_aload_n C dX8_layAlone_40 rfl ?_
      refine r_getR C dX8_layAlone_41 flX8_38 (rfl) rfl ?_
      refine r_iload_n C dX8_layAlone_44 rfl ?_
      refine r_iload_n C dX8_layAlone_45 rfl ?_
      refine r_callV C F dX8_layAlone_46 (s8_tells (c := a) (hS1.MH hM) rfl hm1 ok (by decide) hi (by omega) (by decide)) tw_948 m8_tells (rfl) rfl (by decide) rfl (Nat.le_of_ble_eq_true rfl) (fun v h2 hq => ?_)
      obtain ⟨rfl, f, rfl, hf⟩ := hq
      have hS2 : Scr h (upr g1 58 f) := hS1.row _ (by decide)
      have hm2 : canB D u i a = true → MomR (upr g1 58 f 58) (tl D u i a) := fun q => by rw [upr_self]; exact hf q
      generalize upr g1 58 f = g2 at hS2 hm2 ⊢
      refine r_if_eq 77 C dX8_layAlone_49 (by decide) (fun c_49 => ?_) (fun c_49 => ?_)
      · rw [bz_eq0] at c_49
        have hnx : fstF (P1 D u i) (60 - (a + 1)) (a + 1) = al1 D u i := by rw [← e1, e0, fst_none (show P1 D u i a = none from if_neg (fun q => c_49 q.1))]
        refine r_inc (1) C dX8_layAlone_77 rfl (by decide) rfl rfl ?_
        refine r_goto 20 C dX8_layAlone_80 (by decide) ?_
        exact (ih (by omega) g2 hS2 hnx).sub ⟨rfl, rfl, by rw [nI_succ]; rfl, trivial⟩
      · rw [bz_ne0] at c_49
        have hlt := okW_lt okd (okW_tl ok i a)
        refine r_aload_n C dX8_layAlone_52 rfl ?_
        refine r_getR C dX8_layAlone_53 flX8_38 (rfl) rfl ?_
        refine r_iconst (0) C dX8_layAlone_56 rfl ?_
        refine r_iald (0) C dX8_layAlone_57 (rfl) (rfl) (by decide) (by decide) ?_
        refine r_iconst (1) C dX8_layAlone_58 rfl ?_
        refine r_iload_n C dX8_layAlone_59 rfl ?_
        refine r_ishl C dX8_layAlone_60 ?_
        refine r_icmp_ne 77 C dX8_layAlone_61 (by decide) (fun c_61 => ?_) (fun c_61 => ?_)
        · rw [(hm2 c_49).1, shl1_nI (by omega), nI_eq (by omega) (by omega)] at c_61
          have hnx : fstF (P1 D u i) (60 - (a + 1)) (a + 1) = al1 D u i := by rw [← e1, e0, fst_none (show P1 D u i a = none from if_neg (fun q => c_61 q.2))]
          refine r_inc (1) C dX8_layAlone_77 rfl (by decide) rfl rfl ?_
          refine r_goto 20 C dX8_layAlone_80 (by decide) ?_
          exact (ih (by omega) g2 hS2 hnx).sub ⟨rfl, rfl, by rw [nI_succ]; rfl, trivial⟩
        · rw [(hm2 c_49).1, shl1_nI (by omega), nI_eq (by omega) (by omega)] at c_61
          have hz : al1 D u i = some [a] := by rw [← e1, e0, fst_some (show P1 D u i a = some [a] from if_pos ⟨c_49, c_61⟩)]
          have hz3 : alF D u i = some [a] := by unfold alF; rw [if_neg hne, hz]
          refine r_aload_n C dX8_layAlone_64 rfl ?_
          refine r_iconst (1) C dX8_layAlone_65 rfl ?_
          refine r_putI C dX8_layAlone_66 fwX8_227 (rfl) rfl ?_
          refine r_aload_n C dX8_layAlone_69 rfl ?_
          refine r_getR C dX8_layAlone_70 flX8_66 (rfl) rfl ?_
          refine r_iconst (0) C dX8_layAlone_73 rfl ?_
          refine r_iload_n C dX8_layAlone_74 rfl ?_
          refine r_iast (0) C dX8_layAlone_75 (rfl) (rfl) (by decide) (by decide) ?_
          exact r_vret C F dX8_layAlone_76 (QL_1 hS2 hz3)
  refine r_aload_n C dX8_layAlone_0 rfl ?_
  refine r_iconst (0) C dX8_layAlone_1 rfl ?_
  refine r_putI C dX8_layAlone_2 fwX8_227 (rfl) rfl ?_
  refine r_aload_n C dX8_layAlone_5 rfl ?_
  refine r_getR C dX8_layAlone_6 flX8_35 (rfl) rfl ?_
  refine r_iconst (0) C dX8_layAlone_9 rfl ?_
  refine r_iald (0) C dX8_layAlone_10 (rfl) (rfl) (by decide) (by decide) ?_
  refine r_iconst (1) C dX8_layAlone_11 rfl ?_
  refine r_iload_n C dX8_layAlone_12 rfl ?_
  refine r_ishl C dX8_layAlone_13 ?_
  refine r_icmp_ne 18 C dX8_layAlone_14 (by decide) (fun c_14 => ?_) (fun c_14 => ?_)
  · rw [show up h 49 36 0 57 0 = nI (mI u) from hR.1, shl1_nI (by omega), nI_eq (by have := okW_lt okd ok; omega) (by omega)] at c_14
    refine r_iconst (0) C dX8_layAlone_18 rfl ?_
    refine r_istore_n C dX8_layAlone_19 (by decide) rfl ?_
    exact (L1 c_14 0 (by omega) _ (Scr.rf.f36 0) rfl).sub ⟨rfl, rfl, rfl, trivial⟩
  · rw [show up h 49 36 0 57 0 = nI (mI u) from hR.1, shl1_nI (by omega), nI_eq (by have := okW_lt okd ok; omega) (by omega)] at c_14
    exact r_vret C F dX8_layAlone_17 (QL_0 Scr.rf (by unfold alF; rw [if_pos c_14]))
noncomputable def vAlone (A : At) (x z : Int32) : Int32 := if ¬ lordP A x then -1000000001 else if ¬ hasP (nI (mI (aU A))) x then -1000000003 else if z = -1 then lnI (alF (aD A) (aU A) (cl x)) else match alF (aD A) (aU A) (cl x) with
  | none => -1
  | some L => if z < 0 then -1 else match L[cl z]? with
    | none => -1
    | some c => nI c
theorem al1_len {D : HDt} {u : Mom} {i : Nat} : ∀ (f k : Nat) {L : List Nat}, fstF (P1 D u i) f k = some L → L.length = 1
  | 0, k, L, e => by cases e
  | f + 1, k, L, e => by
    by_cases c : canB D u i k = true ∧ mI (tl D u i k) = 2 ^ i
    · rw [fst_some (show P1 D u i k = some [k] from if_pos c)] at e
      cases e; rfl
    · rw [fst_none (show P1 D u i k = none from if_neg c)] at e
      exact al1_len f (k + 1) e
theorem alm_len {P : Nat → Option (List Nat)} {n : Nat} (hP : ∀ k L, P k = some L → L.length = n) : ∀ (f k : Nat) {L : List Nat}, fstF P f k = some L → L.length = n
  | 0, k, L, e => by cases e
  | f + 1, k, L, e => by
    cases hk : P k with
    | some M =>
      rw [fst_some hk] at e
      cases e; exact hP k _ hk
    | none =>
      rw [fst_none hk] at e
      exact alm_len hP f (k + 1) e
theorem alF_len {D : HDt} {u : Mom} {i : Nat} {L : List Nat} (e : alF D u i = some L) : L.length ≤ 3 := by
  have h1 : ∀ u L, al1 D u i = some L → L.length = 1 := fun u L q => al1_len 60 0 q
  have h2 : ∀ u L, al2 D u i = some L → L.length = 2 := fun u L q => alm_len (n := 2) (fun k M hk => by
    unfold P2 at hk
    split at hk
    · cases hq : al1 D (tl D u i k) i with
      | none => rw [hq] at hk; cases hk
      | some N => rw [hq] at hk; cases hk; show N.length + 1 = 2; rw [h1 _ _ hq]
    · cases hk) 60 0 q
  have h3 : ∀ u L, al3 D u i = some L → L.length = 3 := fun u L q => alm_len (n := 3) (fun k M hk => by
    unfold P3 at hk
    split at hk
    · cases hq : al2 D (tl D u i k) i with
      | none => rw [hq] at hk; cases hk
      | some N => rw [hq] at hk; cases hk; show N.length + 1 = 3; rw [h2 _ _ hq]
    · cases hk) 60 0 q
  unfold alF at e
  split at e
  · cases e; decide
  · split at e
    · rename_i M hM; cases e; rw [h1 _ _ hM]; decide
    · split at e
      · rename_i M hM; cases e; rw [h2 _ _ hM]; decide
      · rw [h3 _ _ e]; decide
set_option maxHeartbeats 4000000 in
theorem s8_alone {A : At} {x z : Int32} (hA : MA h A) : Sp l E SHP 6 M8_alone [.ref (E.1 + 49), .int x, .int z] h (QM h (vAlone A x z, A)) := by
  refine Sp.of (by decide) (Nat.le_of_ble_eq_true rfl) (fun X C F => ?_)
  have C : Ok X E RX8 cX8_alone 3 := C
  have F : Fn X l E SHP 6 (some FieldType.int) (QM h (vAlone A x z, A)) := F
  show G X E SHP (0, 0) 0 [(0, .ref (E.1 + 49)), (1, .int x), (2, .int z)] [] h
  obtain ⟨⟨a1, a2, a3, a4, a5, a6, a7, a8, a9, a10, a11, a12⟩, ⟨b1, b2⟩, b3, b4, b5, b6, b7, ⟨b8, b9⟩, b10, ⟨b11, b12⟩, b13, b14⟩ := id hA
  obtain ⟨okd, e16, e17, e540, e541, eL, eJ⟩ := id b5
  obtain ⟨o1, o2, o3, o4, o5, o6⟩ := id okd
  have p6 : 2 ^ dL (aD A) ≤ 64 := Nat.pow_le_pow_right (n := 2) (by decide) o1
  obtain ⟨k0, k1, k2, k3, k4, k5⟩ := id a5
  refine r_aload_n C dX8_alone_0 rfl ?_
  refine r_iload_n C dX8_alone_1 rfl ?_
  refine r_cVi C F dX8_alone_2 (s8_isLord) tw_850 m8_isLord (rfl) rfl (by decide) rfl (Nat.le_of_ble_eq_true rfl) ?_
  refine r_if_ne 11 C dX8_alone_5 (by decide) (fun c_5 => ?_) (fun c_5 => ?_)
  · rw [bz_ne0, e16] at c_5
    have c_5b : lordP A x := c_5
    obtain ⟨i, hi, rfl⟩ := (inP_lord rfl o1).mp c_5
    refine r_aload_n C dX8_alone_11 rfl ?_
    refine r_iload_n C dX8_alone_12 rfl ?_
    refine r_cVi C F dX8_alone_13 (s8_isIn) tw_875 m8_isIn (rfl) rfl (by decide) rfl (Nat.le_of_ble_eq_true rfl) ?_
    refine r_if_ne 22 C dX8_alone_16 (by decide) (fun c_16 => ?_) (fun c_16 => ?_)
    · rw [bz_ne0, b7.1] at c_16
      refine r_aload_n C dX8_alone_22 rfl ?_
      refine r_iload_n C dX8_alone_23 rfl ?_
      refine r_callV C F dX8_alone_24 (s8_layAlone (i := i) b5 b7 (okW_of a5) (by omega)) tw_944 m8_layAlone (rfl) rfl (by decide) rfl (Nat.le_of_ble_eq_true rfl) (fun v g hq => ?_)
      obtain ⟨rfl, hS, hq36, hq67⟩ := hq
      refine r_iload_n C dX8_alone_27 rfl ?_
      refine r_iconst (-1) C dX8_alone_28 rfl ?_
      refine r_icmp_ne 39 C dX8_alone_29 (by decide) (fun c_29 => ?_) (fun c_29 => ?_)
      · refine r_iload_n C dX8_alone_39 rfl ?_
        refine r_iconst (0) C dX8_alone_40 rfl ?_
        refine r_aload_n C dX8_alone_41 rfl ?_
        refine r_getI C dX8_alone_42 flX8_227 (rfl) rfl ?_
        refine r_iconst (1) C dX8_alone_45 rfl ?_
        refine r_isub C dX8_alone_46 ?_
        refine r_cSi C F dX8_alone_47 (s8_in) tw_790 m8_in (by decide) rfl (Nat.le_of_ble_eq_true rfl) ?_
        refine r_if_eq 62 C dX8_alone_50 (by decide) (fun c_50 => ?_) (fun c_50 => ?_)
        · rw [bz_eq0, hq36] at c_50
          refine r_iconst (-1) C dX8_alone_62 rfl ?_
          refine r_iret C F dX8_alone_63 ?_
          unfold vAlone
          rw [if_neg (not_not_intro c_5b), if_neg (not_not_intro c_16), if_neg c_29, cl_nI (by omega)]
          cases hq : alF (aD A) (aU A) i with
          | none => exact ⟨rfl, hS.MA hA, hS.low⟩
          | some L =>
            dsimp only
            by_cases cz : z < 0
            · rw [if_pos cz]; exact ⟨rfl, hS.MA hA, hS.low⟩
            · rw [if_neg cz]
              have hl := alF_len hq
              obtain ⟨k, hk, rfl⟩ := nI_of cz
              rw [hq] at c_50
              have hk2 : ¬ k < L.length := fun hlt => c_50 ((inP_lord (n := L.length) rfl (by omega)).mpr ⟨k, hlt, rfl⟩)
              rw [cl_nI hk, List.getElem?_eq_none (by omega)]
              exact ⟨rfl, hS.MA hA, hS.low⟩
        · rw [bz_ne0, hq36] at c_50
          obtain ⟨L, hL, k, c, hk, hz, hc⟩ : ∃ L, alF (aD A) (aU A) i = some L ∧ ∃ k c, k < 3 ∧ z = nI k ∧ L[k]? = some c := by
            cases hq : alF (aD A) (aU A) i with
            | none =>
              rw [hq] at c_50
              exact absurd (Int32.le_trans c_50.1 c_50.2) (by decide)
            | some L =>
              rw [hq] at c_50
              have hl := alF_len hq
              obtain ⟨k, hk, hz⟩ := (inP_lord (n := L.length) rfl (by omega)).mp c_50
              exact ⟨L, rfl, k, _, by omega, hz, List.getElem?_eq_getElem hk⟩
          subst hz
          refine r_aload_n C dX8_alone_53 rfl ?_
          refine r_getR C dX8_alone_54 flX8_66 (rfl) rfl ?_
          refine r_iload_n C dX8_alone_57 rfl ?_
          refine r_iald (k) C dX8_alone_58 (rfl) (rfl) (by omega) (by decide) ?_
          refine r_goto 63 C dX8_alone_59 (by decide) ?_
          refine r_iret C F dX8_alone_63 ?_
          unfold vAlone
          rw [if_neg (not_not_intro c_5b), if_neg (not_not_intro c_16), if_neg c_29, cl_nI (by omega)]
          rw [hL]
          dsimp only
          rw [if_neg (nI_pos (by omega)), cl_nI (by omega), hc]
          exact ⟨by rw [hq67 L k c hL hc], hS.MA hA, hS.low⟩
      · refine r_aload_n C dX8_alone_32 rfl ?_
        refine r_getI C dX8_alone_33 flX8_227 (rfl) rfl ?_
        refine r_goto 63 C dX8_alone_36 (by decide) ?_
        refine r_iret C F dX8_alone_63 ?_
        unfold vAlone
        rw [if_neg (not_not_intro c_5b), if_neg (not_not_intro c_16), if_pos c_29, cl_nI (by omega)]
        exact ⟨by rw [hq36], hS.MA hA, hS.low⟩
    · rw [bz_eq0, b7.1] at c_16
      refine r_ldc C dX8_alone_19 tw_882 ?_
      exact r_iret C F dX8_alone_21 (by unfold vAlone; rw [if_neg (not_not_intro c_5b), if_pos c_16]; exact QM_same hA)
  · rw [bz_eq0, e16] at c_5
    refine r_ldc C dX8_alone_8 tw_854 ?_
    exact r_iret C F dX8_alone_10 (by unfold vAlone; rw [if_pos c_5]; exact QM_same hA)
