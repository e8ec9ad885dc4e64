variable {l : Launch} {E : Ev} {h : Hp}
theorem r_acp {X : Cx} {S : List dsc} {pc : Nat} {ls : LSt} {own : String} {cc : ByteArray} {nL : Nat} {l0 : Launch} {d : Nat} {ret : Option FieldType} {Q0 : Pst} {idx i j n0 n1 : Nat} {xa xb xn : Int32} {rest : List Value} (a b n : Nat) (C : Ok X E own cc nL) (F : Fn X l0 E S d ret Q0) (hd : decode cc pc = .ok (.invokestatic idx, 3)) (w : Cond.methodLink own idx arraycopyName ∈ lw_tbl) (hi : S[i]? = some (.inr (0, n0))) (hj : S[j]? = some (.inr (0, n1))) (ea : xa = nI a) (eb : xb = nI b) (en : xn = nI n) (h4 : a + n ≤ n0) (h5 : b + n ≤ n1) (hn0 : n0 < 2147483648) (hn1 : n1 < 2147483648) (hdd : 1 ≤ d) (hcat : (rest.map fun v => v.category).sum ≤ 8) (k : G X E S (0, 0) (pc + 3) ls rest (upr h j (va_cpy (h i) (h j) a b n))) : G X E S (0, 0) pc ls (.int xn :: .int xb :: .ref (E.1 + j) :: .int xa :: .ref (E.1 + i) :: rest) h := by
  subst ea; subst eb; subst en
  obtain ⟨p, l, e, R, s, m, args, below, meth, c, Q⟩ := X
  obtain ⟨hx, hb, hml, hown, hts, hK, hSZ, hlk⟩ := C
  intro H locs lsA hP hS hl
  obtain ⟨hl0, hR, hr, hQ⟩ := F
  subst hl0; subst hR
  have hg := wsF_get (E := E) (h := h) S 0 i hi
  have hg2 := wsF_get (E := E) (h := h) S 0 j hj
  rw [Nat.zero_add] at hg hg2
  have ng : ∀ z, z < 2147483648 → ¬ nI z < 0 := fun z hz => Int32.not_lt.mpr ((nI_leI (a := 0) (by decide) hz).mpr (Nat.zero_le _))
  have hw : nativeFrameWords "java/lang/System" "arraycopy" 5 ≤ 21 := by decide
  refine va_copyi hx hb hl.1.symm hown (hts _ (gw w rfl)) (hts _ (gw tw_459 rfl)) (hts _ (gw tw_458 rfl)) (hts _ (gw tw_12 rfl)) hK hP (wsF_D S) hS i j 0 0 hg hg2 rfl rfl rfl (ng a (by omega)) (ng b (by omega)) (ng n (by omega)) (by rw [nI_clamp (by omega), nI_clamp (by omega)]; exact h4) (by rw [nI_clamp (by omega), nI_clamp (by omega)]; exact h5) (fun _ _ => rfl) hdd (by show _ + (_ + 11) ≤ 40 * d; omega) hd (fun H1 locs1 hP1 _ hS1 => ?_)
  rw [nI_clamp (by omega), nI_clamp (by omega), nI_clamp (by omega)] at hP1
  have e1 := wsF_put (E := E) (h := h) (d := .inr (0, n1)) (va_cpy (h i) (h j) a b n) S 0 j hj
  rw [Nat.zero_add] at e1
  exact k H1 locs1 lsA (by rw [← e1]; exact hP1) hS1 hl
