/-! ===== G: from here on the method goes on to its end, over the cells of S with the numbers h ===== -/
abbrev Cx := Program × Launch × Env × Room × State × MethodId × Array Value × List Frame × Method × Code × (State → Prop)
def G (X : Cx) (E : Ev) (S : List dsc) (cz : Nat × Nat) (pc : Nat) (ls : LSt) (st : List Value) (h : Hp) : Prop := match X with
  | (p, l, e, R, s, m, args, below, meth, c, Q) => ∀ (H : Heap) (locs : List Loc) (lsA : Array Slot), va_P E.2.1 classes (wsF E h 0 S) H → va_S (fun q => E.1 ≤ q) s.heap H locs → LH lsA c.maxLocals ls → W p l e R s m args below meth c H locs cz.1 cz.2 Q (F0 m pc lsA st)
def Ok (X : Cx) (E : Ev) (own : String) (cc : ByteArray) (nL : Nat) : Prop := match X with
  | (p, l, e, R, s, m, args, below, meth, c, Q) => p.tables.exec = Jvm.exec ∧ c.code = cc ∧ c.maxLocals = nL ∧ s.vm.findClass own = some m.cls ∧ (∀ w ∈ tblG, w.before args s = true) ∧ va_K E.2.1 classes (tysE E) s ∧ SZ E s ∧ meth.locks = false
def Fn (X : Cx) (l0 : Launch) (E : Ev) (S : List dsc) (d : Nat) (ret : Option FieldType) (Q0 : Pst) : Prop := match X with
  | (p, l, e, R, s, m, args, below, meth, c, Q) => l = l0 ∧ R = rmD d ∧ meth.sig.returnType = ret ∧ Q = MQ below (qc E S Q0) args s 0 0 (fun q => E.1 ≤ q)
section RULES
variable {X : Cx} {E : Ev} {S : List dsc} {cz : Nat × Nat} {pc : Nat} {ls : LSt} {st : List Value} {h : Hp} {own : String} {cc : ByteArray} {nL : Nat} {l0 : Launch} {d : Nat} {ret : Option FieldType} {Q0 : Pst}
theorem G.sub {l : LSt} (k : G X E S cz pc l st h) (hs : subL l ls) : G X E S cz pc ls st h := by
  obtain ⟨p, l, e, R, s, m, args, below, meth, c, Q⟩ := X
  intro H locs lsA hP hS hl
  exact k H locs lsA hP hS (hl.sub hs)
theorem G.eq {pc' : Nat} {st' : List Value} {h' : Hp} (k : G X E S cz pc' ls st' h') (e1 : pc = pc') (e2 : st = st') (e3 : h = h') : G X E S cz pc ls st h := by
  subst e1; subst e2; subst e3; exact k
theorem r_iload {i : Nat} {x : Int32} (C : Ok X E own cc nL) (hd : decode cc pc = .ok (.iload i, 2)) (hi : lk ls i = some (.int x)) (k : G X E S cz (pc + 2) ls (.int x :: st) h) : G X E S cz pc ls (st) h := by
  obtain ⟨p, l, e, R, s, m, args, below, meth, c, Q⟩ := X
  obtain ⟨hx, hb, hml, hown, hts, hK, hSZ, hlk⟩ := C
  intro H locs lsA hP hS hl
  exact lv_iload hx hb hd (hl.2.2 i _ hi) (k H locs lsA hP hS hl)
theorem r_iload_n {i : Fin 4} {x : Int32} (C : Ok X E own cc nL) (hd : decode cc pc = .ok (.iload_n i, 1)) (hi : lk ls i.val = some (.int x)) (k : G X E S cz (pc + 1) ls (.int x :: st) h) : G X E S cz pc ls (st) h := by
  obtain ⟨p, l, e, R, s, m, args, below, meth, c, Q⟩ := X
  obtain ⟨hx, hb, hml, hown, hts, hK, hSZ, hlk⟩ := C
  intro H locs lsA hP hS hl
  exact lv_iload_n hx hb hd rfl (hl.2.2 i.val _ hi) (k H locs lsA hP hS hl)
theorem r_aload {i : Nat} {x : Nat} (C : Ok X E own cc nL) (hd : decode cc pc = .ok (.aload i, 2)) (hi : lk ls i = some (.ref x)) (k : G X E S cz (pc + 2) ls (.ref x :: st) h) : G X E S cz pc ls (st) h := by
  obtain ⟨p, l, e, R, s, m, args, below, meth, c, Q⟩ := X
  obtain ⟨hx, hb, hml, hown, hts, hK, hSZ, hlk⟩ := C
  intro H locs lsA hP hS hl
  exact lv_aload hx hb hd (hl.2.2 i _ hi) (k H locs lsA hP hS hl)
theorem r_aload_n {i : Fin 4} {x : Nat} (C : Ok X E own cc nL) (hd : decode cc pc = .ok (.aload_n i, 1)) (hi : lk ls i.val = some (.ref x)) (k : G X E S cz (pc + 1) ls (.ref x :: st) h) : G X E S cz pc ls (st) h := by
  obtain ⟨p, l, e, R, s, m, args, below, meth, c, Q⟩ := X
  obtain ⟨hx, hb, hml, hown, hts, hK, hSZ, hlk⟩ := C
  intro H locs lsA hP hS hl
  exact lv_aload_n hx hb hd rfl (hl.2.2 i.val _ hi) (k H locs lsA hP hS hl)
theorem r_lload {i : Nat} {x : Int64} (C : Ok X E own cc nL) (hd : decode cc pc = .ok (.lload i, 2)) (hi : lk ls i = some (.long x)) (k : G X E S cz (pc + 2) ls (.long x :: st) h) : G X E S cz pc ls (st) h := by
  obtain ⟨p, l, e, R, s, m, args, below, meth, c, Q⟩ := X
  obtain ⟨hx, hb, hml, hown, hts, hK, hSZ, hlk⟩ := C
  intro H locs lsA hP hS hl
  exact lv_lload hx hb hd (hl.2.2 i _ hi) (k H locs lsA hP hS hl)
theorem r_istore {i : Nat} {x : Int32} (C : Ok X E own cc nL) (hd : decode cc pc = .ok (.istore i, 2)) (hi : i < nL) (hn : nolong ls i = true) (k : G X E S cz (pc + 2) ((i, .int x) :: ls) st h) : G X E S cz pc ls (.int x :: st) h := by
  obtain ⟨p, l, e, R, s, m, args, below, meth, c, Q⟩ := X
  obtain ⟨hx, hb, hml, hown, hts, hK, hSZ, hlk⟩ := C
  intro H locs lsA hP hS hl
  obtain ⟨ls', e', -⟩ := lv_store1 (v := .int x) hl.nil (by rw [hml]; exact hi) rfl
  have hl' := hl.st (by rw [hml]; exact hi) rfl hn e'
  intro T hT Y
  obtain ⟨t, a, b⟩ := k H locs ls' hP hS hl' T hT Y
  refine ⟨t, ?_, b⟩
  jvm_step Y.here [Y.here.top, ↓top_set Y.here.top, hx, hb, hd, e']
  exact a
theorem r_istore_n {i : Fin 4} {x : Int32} (C : Ok X E own cc nL) (hd : decode cc pc = .ok (.istore_n i, 1)) (hi : i.val < nL) (hn : nolong ls i.val = true) (k : G X E S cz (pc + 1) ((i.val, .int x) :: ls) st h) : G X E S cz pc ls (.int x :: st) h := by
  obtain ⟨p, l, e, R, s, m, args, below, meth, c, Q⟩ := X
  obtain ⟨hx, hb, hml, hown, hts, hK, hSZ, hlk⟩ := C
  intro H locs lsA hP hS hl
  obtain ⟨ls', e', -⟩ := lv_store1 (v := .int x) hl.nil (by rw [hml]; exact hi) rfl
  have hl' := hl.st (by rw [hml]; exact hi) rfl hn e'
  intro T hT Y
  obtain ⟨t, a, b⟩ := k H locs ls' hP hS hl' T hT Y
  refine ⟨t, ?_, b⟩
  jvm_step Y.here [Y.here.top, ↓top_set Y.here.top, hx, hb, hd, e']
  exact a
theorem r_astore_n {i : Fin 4} {x : Nat} (C : Ok X E own cc nL) (hd : decode cc pc = .ok (.astore_n i, 1)) (hi : i.val < nL) (hn : nolong ls i.val = true) (k : G X E S cz (pc + 1) ((i.val, .ref x) :: ls) st h) : G X E S cz pc ls (.ref x :: st) h := by
  obtain ⟨p, l, e, R, s, m, args, below, meth, c, Q⟩ := X
  obtain ⟨hx, hb, hml, hown, hts, hK, hSZ, hlk⟩ := C
  intro H locs lsA hP hS hl
  obtain ⟨ls', e', -⟩ := lv_store1 (v := .ref x) hl.nil (by rw [hml]; exact hi) rfl
  have hl' := hl.st (by rw [hml]; exact hi) rfl hn e'
  intro T hT Y
  obtain ⟨t, a, b⟩ := k H locs ls' hP hS hl' T hT Y
  refine ⟨t, ?_, b⟩
  jvm_step Y.here [Y.here.top, ↓top_set Y.here.top, hx, hb, hd, e']
  exact ⟨rfl, a⟩
theorem r_iinc {i : Nat} {n : Int} {x : Int32} (C : Ok X E own cc nL) (hd : decode cc pc = .ok (.iinc i n, 3)) (hi : i < nL) (hk : lk ls i = some (.int x)) (hn : nolong ls i = true) (k : G X E S cz (pc + 3) ((i, .int (x + Int32.ofInt n)) :: ls) st h) : G X E S cz pc ls st h := by
  obtain ⟨p, l, e, R, s, m, args, below, meth, c, Q⟩ := X
  obtain ⟨hx, hb, hml, hown, hts, hK, hSZ, hlk⟩ := C
  intro H locs lsA hP hS hl
  obtain ⟨ls', e', -⟩ := lv_store1 (v := .int (x + Int32.ofInt n)) hl.nil (by rw [hml]; exact hi) rfl
  have hl' := hl.st (by rw [hml]; exact hi) rfl hn e'
  have hg := hl.2.2 i _ hk
  intro T hT Y
  obtain ⟨t, a, b⟩ := k H locs ls' hP hS hl' T hT Y
  refine ⟨t, ?_, b⟩
  jvm_step Y.here [Y.here.top, ↓top_set Y.here.top, hx, hb, hd, hg, e']
  exact a
def nolong2 (ls : LSt) (i : Nat) : Bool := nolong ls i
theorem r_lstore {i : Nat} {x : Int64} (C : Ok X E own cc nL) (hd : decode cc pc = .ok (.lstore i, 2)) (hi : i + 1 < nL) (hn : nolong ls i = true) (k : G X E S cz (pc + 2) ((i, .long x) :: ls.filter (fun q => !(q.1 == i + 1))) st h) : G X E S cz pc ls (.long x :: st) h := by
  obtain ⟨p, l, e, R, s, m, args, below, meth, c, Q⟩ := X
  obtain ⟨hx, hb, hml, hown, hts, hK, hSZ, hlk⟩ := C
  intro H locs lsA hP hS hl
  have key : ∀ l : LSt, lv_has lsA nL l → ∃ ls', storeLocals lsA i (.long x) = some ls' ∧ lv_has ls' nL ((i, .long x) :: l.filter (fun q => !(q.1 == i) && (!(q.1 == i + 1) && !(q.1 + 1 == i && q.2.category == 2)))) := fun l h' => lv_store2 h' hi rfl
  have h0 : lv_has lsA nL [] := by rw [← hml]; exact hl.nil
  obtain ⟨ls', e', hs'⟩ := key [] h0
  have hl' : LH ls' c.maxLocals ((i, .long x) :: ls.filter (fun q => !(q.1 == i + 1))) := by
    rw [hml]
    refine ⟨hs'.1, hs'.2.1, fun j w hj => ?_⟩
    by_cases ej : i = j
    · subst ej
      rw [lk_cons_eq] at hj
      cases hj
      exact hs'.2.2 (i, .long x) List.mem_cons_self
    · rw [lk_cons_ne ej] at hj
      have e2 : ∀ l : LSt, lk (l.filter (fun q => !(q.1 == i + 1))) j = some w → lk l j = some w ∧ j ≠ i + 1 := by
        intro l
        induction l with
        | nil => intro q; cases q
        | cons a l ih =>
          intro q
          by_cases ea : a.1 = i + 1
          · have : (a :: l).filter (fun q => !(q.1 == i + 1)) = l.filter (fun q => !(q.1 == i + 1)) := List.filter_cons_of_neg (by simp [ea])
            rw [this] at q
            obtain ⟨r1, r2⟩ := ih q
            exact ⟨by rw [lk_cons_ne (by rw [ea]; exact fun z => r2 z.symm)]; exact r1, r2⟩
          · have : (a :: l).filter (fun q => !(q.1 == i + 1)) = a :: l.filter (fun q => !(q.1 == i + 1)) := List.filter_cons_of_pos (by simp [ea])
            rw [this] at q
            by_cases eb : a.1 = j
            · obtain ⟨a1, a2⟩ := a
              dsimp only at ea eb
              subst eb
              rw [lk_cons_eq] at q ⊢
              exact ⟨q, ea⟩
            · rw [lk_cons_ne eb] at q ⊢
              exact ih q
      obtain ⟨r1, r2⟩ := e2 ls hj
      have h1 : lv_has lsA nL [(j, w)] := by rw [← hml]; exact hl.one r1
      obtain ⟨ls2, e'', hs2⟩ := key _ h1
      cases e'.symm.trans e''
      refine hs2.2.2 (j, w) (List.mem_cons_of_mem _ (List.mem_filter.mpr ⟨List.mem_cons_self, ?_⟩))
      have g1 : (j == i) = false := by rw [beq_eq_false_iff_ne]; exact fun q => ej q.symm
      have g2 : (j == i + 1) = false := by rw [beq_eq_false_iff_ne]; exact r2
      have g3 : (j + 1 == i && w.category == 2) = false := by
        by_cases g : j + 1 = i
        · subst g
          simp only [nolong, r1] at hn
          have : w.category = 1 := by simpa using hn
          rw [this]
          simp
        · have : (j + 1 == i) = false := by rw [beq_eq_false_iff_ne]; exact g
          rw [this]
          rfl
      simp only [g1, g2, g3, Bool.not_false, Bool.and_self]
  intro T hT Y
  obtain ⟨t, a, b⟩ := k H locs ls' hP hS hl' T hT Y
  refine ⟨t, ?_, b⟩
  jvm_step Y.here [Y.here.top, ↓top_set Y.here.top, hx, hb, hd, e']
  exact a
theorem r_iconst {n : Int} (v : Int32) (C : Ok X E own cc nL) (hd : decode cc pc = .ok (.iconst n, 1)) (hv : Int32.ofInt n = v := by rfl) (k : G X E S cz (pc + 1) ls (.int v :: st) h) : G X E S cz pc ls (st) h := by
  obtain ⟨p, l, e, R, s, m, args, below, meth, c, Q⟩ := X
  obtain ⟨hx, hb, hml, hown, hts, hK, hSZ, hlk⟩ := C
  intro H locs lsA hP hS hl
  exact lv_iconst hx hb hd hv (k H locs lsA hP hS hl)
theorem r_bipush {n : Int} (v : Int32) (C : Ok X E own cc nL) (hd : decode cc pc = .ok (.bipush n, 2)) (hv : (Int8.ofInt n).toInt32 = v := by rfl) (k : G X E S cz (pc + 2) ls (.int v :: st) h) : G X E S cz pc ls (st) h := by
  obtain ⟨p, l, e, R, s, m, args, below, meth, c, Q⟩ := X
  obtain ⟨hx, hb, hml, hown, hts, hK, hSZ, hlk⟩ := C
  intro H locs lsA hP hS hl
  exact lv_bipush hx hb hd hv (k H locs lsA hP hS hl)
theorem r_sipush {n : Int} (v : Int32) (C : Ok X E own cc nL) (hd : decode cc pc = .ok (.sipush n, 3)) (hv : (Int16.ofInt n).toInt32 = v := by rfl) (k : G X E S cz (pc + 3) ls (.int v :: st) h) : G X E S cz pc ls (st) h := by
  obtain ⟨p, l, e, R, s, m, args, below, meth, c, Q⟩ := X
  obtain ⟨hx, hb, hml, hown, hts, hK, hSZ, hlk⟩ := C
  intro H locs lsA hP hS hl
  exact lv_sipush hx hb hd hv (k H locs lsA hP hS hl)
theorem r_lconst {n : Fin 2} (v : Int64) (C : Ok X E own cc nL) (hd : decode cc pc = .ok (.lconst n, 1)) (hv : Int64.ofNat (n : Nat) = v := by rfl) (k : G X E S cz (pc + 1) ls (.long v :: st) h) : G X E S cz pc ls (st) h := by
  obtain ⟨p, l, e, R, s, m, args, below, meth, c, Q⟩ := X
  obtain ⟨hx, hb, hml, hown, hts, hK, hSZ, hlk⟩ := C
  intro H locs lsA hP hS hl
  exact lv_lconst hx hb hd hv (k H locs lsA hP hS hl)
theorem r_ldc {i : Nat} {v : Int32} (C : Ok X E own cc nL) (hd : decode cc pc = .ok (.ldc i, 2)) (w : Cond.constant own i v ∈ lw_tbl) (k : G X E S cz (pc + 2) ls (.int v :: st) h) : G X E S cz pc ls (st) h := by
  obtain ⟨p, l, e, R, s, m, args, below, meth, c, Q⟩ := X
  obtain ⟨hx, hb, hml, hown, hts, hK, hSZ, hlk⟩ := C
  intro H locs lsA hP hS hl
  exact lv_ldc hx hb hown (hts _ (gw w rfl)) hd (k H locs lsA hP hS hl)
theorem r_ldcw {i : Nat} {v : Int32} (C : Ok X E own cc nL) (hd : decode cc pc = .ok (.ldc_w i, 3)) (w : Cond.constant own i v ∈ lw_tbl) (k : G X E S cz (pc + 3) ls (.int v :: st) h) : G X E S cz pc ls (st) h := by
  obtain ⟨p, l, e, R, s, m, args, below, meth, c, Q⟩ := X
  obtain ⟨hx, hb, hml, hown, hts, hK, hSZ, hlk⟩ := C
  intro H locs lsA hP hS hl
  exact lv_ldcw hx hb hown (hts _ (gw w rfl)) hd (k H locs lsA hP hS hl)
theorem r_ldc2 {i : Nat} {v : Int64} (C : Ok X E own cc nL) (hd : decode cc pc = .ok (.ldc2_w i, 3)) (w : Cond.constantLong own i v ∈ lw_tbl) (k : G X E S cz (pc + 3) ls (.long v :: st) h) : G X E S cz pc ls (st) h := by
  obtain ⟨p, l, e, R, s, m, args, below, meth, c, Q⟩ := X
  obtain ⟨hx, hb, hml, hown, hts, hK, hSZ, hlk⟩ := C
  intro H locs lsA hP hS hl
  exact lv_ldc2 hx hb hown (hts _ (gw w rfl)) hd (k H locs lsA hP hS hl)
theorem r_iadd {x y : Int32} (C : Ok X E own cc nL) (hd : decode cc pc = .ok (.iadd, 1)) (k : G X E S cz (pc + 1) ls (.int (x + y) :: st) h) : G X E S cz pc ls (.int y :: .int x :: st) h := by
  obtain ⟨p, l, e, R, s, m, args, below, meth, c, Q⟩ := X
  obtain ⟨hx, hb, hml, hown, hts, hK, hSZ, hlk⟩ := C
  intro H locs lsA hP hS hl
  exact lv_iadd hx hb hd (k H locs lsA hP hS hl)
theorem r_isub {x y : Int32} (C : Ok X E own cc nL) (hd : decode cc pc = .ok (.isub, 1)) (k : G X E S cz (pc + 1) ls (.int (x - y) :: st) h) : G X E S cz pc ls (.int y :: .int x :: st) h := by
  obtain ⟨p, l, e, R, s, m, args, below, meth, c, Q⟩ := X
  obtain ⟨hx, hb, hml, hown, hts, hK, hSZ, hlk⟩ := C
  intro H locs lsA hP hS hl
  exact lv_isub hx hb hd (k H locs lsA hP hS hl)
theorem r_imul {x y : Int32} (C : Ok X E own cc nL) (hd : decode cc pc = .ok (.imul, 1)) (k : G X E S cz (pc + 1) ls (.int (x * y) :: st) h) : G X E S cz pc ls (.int y :: .int x :: st) h := by
  obtain ⟨p, l, e, R, s, m, args, below, meth, c, Q⟩ := X
  obtain ⟨hx, hb, hml, hown, hts, hK, hSZ, hlk⟩ := C
  intro H locs lsA hP hS hl
  exact lv_imul hx hb hd (k H locs lsA hP hS hl)
theorem r_iand {x y : Int32} (C : Ok X E own cc nL) (hd : decode cc pc = .ok (.iand, 1)) (k : G X E S cz (pc + 1) ls (.int (x &&& y) :: st) h) : G X E S cz pc ls (.int y :: .int x :: st) h := by
  obtain ⟨p, l, e, R, s, m, args, below, meth, c, Q⟩ := X
  obtain ⟨hx, hb, hml, hown, hts, hK, hSZ, hlk⟩ := C
  intro H locs lsA hP hS hl
  exact lv_iand hx hb hd (k H locs lsA hP hS hl)
theorem r_ior {x y : Int32} (C : Ok X E own cc nL) (hd : decode cc pc = .ok (.ior, 1)) (k : G X E S cz (pc + 1) ls (.int (x ||| y) :: st) h) : G X E S cz pc ls (.int y :: .int x :: st) h := by
  obtain ⟨p, l, e, R, s, m, args, below, meth, c, Q⟩ := X
  obtain ⟨hx, hb, hml, hown, hts, hK, hSZ, hlk⟩ := C
  intro H locs lsA hP hS hl
  exact lv_ior hx hb hd (k H locs lsA hP hS hl)
theorem r_ixor {x y : Int32} (C : Ok X E own cc nL) (hd : decode cc pc = .ok (.ixor, 1)) (k : G X E S cz (pc + 1) ls (.int (x ^^^ y) :: st) h) : G X E S cz pc ls (.int y :: .int x :: st) h := by
  obtain ⟨p, l, e, R, s, m, args, below, meth, c, Q⟩ := X
  obtain ⟨hx, hb, hml, hown, hts, hK, hSZ, hlk⟩ := C
  intro H locs lsA hP hS hl
  exact lv_ixor hx hb hd (k H locs lsA hP hS hl)
theorem r_ishl {x y : Int32} (C : Ok X E own cc nL) (hd : decode cc pc = .ok (.ishl, 1)) (k : G X E S cz (pc + 1) ls (.int (x <<< (y &&& 31)) :: st) h) : G X E S cz pc ls (.int y :: .int x :: st) h := by
  obtain ⟨p, l, e, R, s, m, args, below, meth, c, Q⟩ := X
  obtain ⟨hx, hb, hml, hown, hts, hK, hSZ, hlk⟩ := C
  intro H locs lsA hP hS hl
  exact lv_ishl hx hb hd (k H locs lsA hP hS hl)
theorem r_ishr {x y : Int32} (C : Ok X E own cc nL) (hd : decode cc pc = .ok (.ishr, 1)) (k : G X E S cz (pc + 1) ls (.int (x >>> (y &&& 31)) :: st) h) : G X E S cz pc ls (.int y :: .int x :: st) h := by
  obtain ⟨p, l, e, R, s, m, args, below, meth, c, Q⟩ := X
  obtain ⟨hx, hb, hml, hown, hts, hK, hSZ, hlk⟩ := C
  intro H locs lsA hP hS hl
  exact lv_ishr hx hb hd (k H locs lsA hP hS hl)
theorem r_iushr {x y : Int32} (C : Ok X E own cc nL) (hd : decode cc pc = .ok (.iushr, 1)) (k : G X E S cz (pc + 1) ls (.int ((x.toUInt32 >>> (y.toUInt32 &&& Int32.toUInt32 31)).toInt32) :: st) h) : G X E S cz pc ls (.int y :: .int x :: st) h := by
  obtain ⟨p, l, e, R, s, m, args, below, meth, c, Q⟩ := X
  obtain ⟨hx, hb, hml, hown, hts, hK, hSZ, hlk⟩ := C
  intro H locs lsA hP hS hl
  exact lv_iushr hx hb hd rfl (k H locs lsA hP hS hl)
theorem r_idiv {x y : Int32} (C : Ok X E own cc nL) (hd : decode cc pc = .ok (.idiv, 1)) (hne : ¬ y = 0) (k : G X E S cz (pc + 1) ls (.int (x / y) :: st) h) : G X E S cz pc ls (.int y :: .int x :: st) h := by
  obtain ⟨p, l, e, R, s, m, args, below, meth, c, Q⟩ := X
  obtain ⟨hx, hb, hml, hown, hts, hK, hSZ, hlk⟩ := C
  intro H locs lsA hP hS hl
  exact lv_idiv hx hb hd hne (k H locs lsA hP hS hl)
theorem r_irem {x y : Int32} (C : Ok X E own cc nL) (hd : decode cc pc = .ok (.irem, 1)) (hne : ¬ y = 0) (k : G X E S cz (pc + 1) ls (.int (x - x / y * y) :: st) h) : G X E S cz pc ls (.int y :: .int x :: st) h := by
  obtain ⟨p, l, e, R, s, m, args, below, meth, c, Q⟩ := X
  obtain ⟨hx, hb, hml, hown, hts, hK, hSZ, hlk⟩ := C
  intro H locs lsA hP hS hl
  exact lv_irem hx hb hd hne (k H locs lsA hP hS hl)
theorem r_ladd {x y : Int64} (C : Ok X E own cc nL) (hd : decode cc pc = .ok (.ladd, 1)) (k : G X E S cz (pc + 1) ls (.long (x + y) :: st) h) : G X E S cz pc ls (.long y :: .long x :: st) h := by
  obtain ⟨p, l, e, R, s, m, args, below, meth, c, Q⟩ := X
  obtain ⟨hx, hb, hml, hown, hts, hK, hSZ, hlk⟩ := C
  intro H locs lsA hP hS hl
  exact lv_ladd hx hb hd (k H locs lsA hP hS hl)
theorem r_lmul {x y : Int64} (C : Ok X E own cc nL) (hd : decode cc pc = .ok (.lmul, 1)) (k : G X E S cz (pc + 1) ls (.long (x * y) :: st) h) : G X E S cz pc ls (.long y :: .long x :: st) h := by
  obtain ⟨p, l, e, R, s, m, args, below, meth, c, Q⟩ := X
  obtain ⟨hx, hb, hml, hown, hts, hK, hSZ, hlk⟩ := C
  intro H locs lsA hP hS hl
  exact lv_lmul hx hb hd (k H locs lsA hP hS hl)
theorem r_land {x y : Int64} (C : Ok X E own cc nL) (hd : decode cc pc = .ok (.land, 1)) (k : G X E S cz (pc + 1) ls (.long (x &&& y) :: st) h) : G X E S cz pc ls (.long y :: .long x :: st) h := by
  obtain ⟨p, l, e, R, s, m, args, below, meth, c, Q⟩ := X
  obtain ⟨hx, hb, hml, hown, hts, hK, hSZ, hlk⟩ := C
  intro H locs lsA hP hS hl
  exact lv_land hx hb hd (k H locs lsA hP hS hl)
theorem r_lor {x y : Int64} (C : Ok X E own cc nL) (hd : decode cc pc = .ok (.lor, 1)) (k : G X E S cz (pc + 1) ls (.long (x ||| y) :: st) h) : G X E S cz pc ls (.long y :: .long x :: st) h := by
  obtain ⟨p, l, e, R, s, m, args, below, meth, c, Q⟩ := X
  obtain ⟨hx, hb, hml, hown, hts, hK, hSZ, hlk⟩ := C
  intro H locs lsA hP hS hl
  exact lv_lor hx hb hd (k H locs lsA hP hS hl)
theorem r_lrem {x y : Int64} (C : Ok X E own cc nL) (hd : decode cc pc = .ok (.lrem, 1)) (hne : ¬ y = 0) (k : G X E S cz (pc + 1) ls (.long (x - x / y * y) :: st) h) : G X E S cz pc ls (.long y :: .long x :: st) h := by
  obtain ⟨p, l, e, R, s, m, args, below, meth, c, Q⟩ := X
  obtain ⟨hx, hb, hml, hown, hts, hK, hSZ, hlk⟩ := C
  intro H locs lsA hP hS hl
  exact lv_lrem hx hb hd hne (k H locs lsA hP hS hl)
theorem r_lshl {x : Int64} {y : Int32} (C : Ok X E own cc nL) (hd : decode cc pc = .ok (.lshl, 1)) (k : G X E S cz (pc + 1) ls (.long (x <<< (y.toInt64 &&& 63)) :: st) h) : G X E S cz pc ls (.int y :: .long x :: st) h := by
  obtain ⟨p, l, e, R, s, m, args, below, meth, c, Q⟩ := X
  obtain ⟨hx, hb, hml, hown, hts, hK, hSZ, hlk⟩ := C
  intro H locs lsA hP hS hl
  exact lv_lshl hx hb hd rfl (k H locs lsA hP hS hl)
theorem r_lshr {x : Int64} {y : Int32} (C : Ok X E own cc nL) (hd : decode cc pc = .ok (.lshr, 1)) (k : G X E S cz (pc + 1) ls (.long (x >>> (y.toInt64 &&& 63)) :: st) h) : G X E S cz pc ls (.int y :: .long x :: st) h := by
  obtain ⟨p, l, e, R, s, m, args, below, meth, c, Q⟩ := X
  obtain ⟨hx, hb, hml, hown, hts, hK, hSZ, hlk⟩ := C
  intro H locs lsA hP hS hl
  exact lv_lshr hx hb hd rfl (k H locs lsA hP hS hl)
theorem r_lcmp {x y : Int64} (C : Ok X E own cc nL) (hd : decode cc pc = .ok (.lcmp, 1)) (k : G X E S cz (pc + 1) ls (.int (lg_cmp x y) :: st) h) : G X E S cz pc ls (.long y :: .long x :: st) h := by
  obtain ⟨p, l, e, R, s, m, args, below, meth, c, Q⟩ := X
  obtain ⟨hx, hb, hml, hown, hts, hK, hSZ, hlk⟩ := C
  intro H locs lsA hP hS hl
  exact W.lcmp hx hb hd (k H locs lsA hP hS hl)
theorem r_i2l {x : Int32} (C : Ok X E own cc nL) (hd : decode cc pc = .ok (.i2l, 1)) (k : G X E S cz (pc + 1) ls (.long x.toInt64 :: st) h) : G X E S cz pc ls (.int x :: st) h := by
  obtain ⟨p, l, e, R, s, m, args, below, meth, c, Q⟩ := X
  obtain ⟨hx, hb, hml, hown, hts, hK, hSZ, hlk⟩ := C
  intro H locs lsA hP hS hl
  exact lv_i2l hx hb hd rfl (k H locs lsA hP hS hl)
theorem r_l2i {x : Int64} (C : Ok X E own cc nL) (hd : decode cc pc = .ok (.l2i, 1)) (k : G X E S cz (pc + 1) ls (.int x.toInt32 :: st) h) : G X E S cz pc ls (.long x :: st) h := by
  obtain ⟨p, l, e, R, s, m, args, below, meth, c, Q⟩ := X
  obtain ⟨hx, hb, hml, hown, hts, hK, hSZ, hlk⟩ := C
  intro H locs lsA hP hS hl
  exact lv_l2i hx hb hd rfl (k H locs lsA hP hS hl)
theorem r_dup {v : Value} (C : Ok X E own cc nL) (hd : decode cc pc = .ok (.dup, 1)) (hv : v.category = 1 := by rfl) (k : G X E S cz (pc + 1) ls (v :: v :: st) h) : G X E S cz pc ls (v :: st) h := by
  obtain ⟨p, l, e, R, s, m, args, below, meth, c, Q⟩ := X
  obtain ⟨hx, hb, hml, hown, hts, hK, hSZ, hlk⟩ := C
  intro H locs lsA hP hS hl
  exact lv_dup hx hb hd hv (k H locs lsA hP hS hl)
theorem r_dup2 {v w : Value} (C : Ok X E own cc nL) (hd : decode cc pc = .ok (.dup2, 1)) (hv : v.category = 1 := by rfl) (hw : w.category = 1 := by rfl) (k : G X E S cz (pc + 1) ls (v :: w :: v :: w :: st) h) : G X E S cz pc ls (v :: w :: st) h := by
  obtain ⟨p, l, e, R, s, m, args, below, meth, c, Q⟩ := X
  obtain ⟨hx, hb, hml, hown, hts, hK, hSZ, hlk⟩ := C
  intro H locs lsA hP hS hl
  exact lv_dup2_11 hx hb hd hv hw (k H locs lsA hP hS hl)
theorem r_goto {off : Int} (tgt : Nat) (C : Ok X E own cc nL) (hd : decode cc pc = .ok (.goto off, 3)) (ht : (pc : Int) + off = (tgt : Int)) (k : G X E S cz tgt ls st h) : G X E S cz pc ls st h := by
  obtain ⟨p, l, e, R, s, m, args, below, meth, c, Q⟩ := X
  obtain ⟨hx, hb, hml, hown, hts, hK, hSZ, hlk⟩ := C
  intro H locs lsA hP hS hl
  exact lv_goto hx hb hd ht (k H locs lsA hP hS hl)
theorem r_if_eq {x : Int32} {off : Int} (tgt : Nat) (C : Ok X E own cc nL) (hd : decode cc pc = .ok (.ifCond .eq off, 3)) (ht : (pc : Int) + off = (tgt : Int)) (kt : x = 0 → G X E S cz tgt ls st h) (kf : ¬ x = 0 → G X E S cz (pc + 3) ls st h) : G X E S cz pc ls (.int x :: st) h := by
  obtain ⟨p, l, e, R, s, m, args, below, meth, c, Q⟩ := X
  obtain ⟨hx, hb, hml, hown, hts, hK, hSZ, hlk⟩ := C
  intro H locs lsA hP hS hl
  exact lv_if_eq hx hb hd ht (fun q => kt q H locs lsA hP hS hl) (fun q => kf q H locs lsA hP hS hl)
theorem r_icmp_eq {x y : Int32} {off : Int} (tgt : Nat) (C : Ok X E own cc nL) (hd : decode cc pc = .ok (.if_icmp .eq off, 3)) (ht : (pc : Int) + off = (tgt : Int)) (kt : x = y → G X E S cz tgt ls st h) (kf : ¬ x = y → G X E S cz (pc + 3) ls st h) : G X E S cz pc ls (.int y :: .int x :: st) h := by
  obtain ⟨p, l, e, R, s, m, args, below, meth, c, Q⟩ := X
  obtain ⟨hx, hb, hml, hown, hts, hK, hSZ, hlk⟩ := C
  intro H locs lsA hP hS hl
  exact lv_icmp_eq hx hb hd ht (fun q => kt q H locs lsA hP hS hl) (fun q => kf q H locs lsA hP hS hl)
theorem r_if_ne {x : Int32} {off : Int} (tgt : Nat) (C : Ok X E own cc nL) (hd : decode cc pc = .ok (.ifCond .ne off, 3)) (ht : (pc : Int) + off = (tgt : Int)) (kt : ¬ x = 0 → G X E S cz tgt ls st h) (kf : x = 0 → G X E S cz (pc + 3) ls st h) : G X E S cz pc ls (.int x :: st) h := by
  obtain ⟨p, l, e, R, s, m, args, below, meth, c, Q⟩ := X
  obtain ⟨hx, hb, hml, hown, hts, hK, hSZ, hlk⟩ := C
  intro H locs lsA hP hS hl
  exact lv_if_ne hx hb hd ht (fun q => kt q H locs lsA hP hS hl) (fun q => kf q H locs lsA hP hS hl)
theorem r_icmp_ne {x y : Int32} {off : Int} (tgt : Nat) (C : Ok X E own cc nL) (hd : decode cc pc = .ok (.if_icmp .ne off, 3)) (ht : (pc : Int) + off = (tgt : Int)) (kt : ¬ x = y → G X E S cz tgt ls st h) (kf : x = y → G X E S cz (pc + 3) ls st h) : G X E S cz pc ls (.int y :: .int x :: st) h := by
  obtain ⟨p, l, e, R, s, m, args, below, meth, c, Q⟩ := X
  obtain ⟨hx, hb, hml, hown, hts, hK, hSZ, hlk⟩ := C
  intro H locs lsA hP hS hl
  exact lv_icmp_ne hx hb hd ht (fun q => kt q H locs lsA hP hS hl) (fun q => kf q H locs lsA hP hS hl)
theorem r_if_lt {x : Int32} {off : Int} (tgt : Nat) (C : Ok X E own cc nL) (hd : decode cc pc = .ok (.ifCond .lt off, 3)) (ht : (pc : Int) + off = (tgt : Int)) (kt : x < 0 → G X E S cz tgt ls st h) (kf : ¬ x < 0 → G X E S cz (pc + 3) ls st h) : G X E S cz pc ls (.int x :: st) h := by
  obtain ⟨p, l, e, R, s, m, args, below, meth, c, Q⟩ := X
  obtain ⟨hx, hb, hml, hown, hts, hK, hSZ, hlk⟩ := C
  intro H locs lsA hP hS hl
  exact lv_if_lt hx hb hd ht (fun q => kt q H locs lsA hP hS hl) (fun q => kf q H locs lsA hP hS hl)
theorem r_icmp_lt {x y : Int32} {off : Int} (tgt : Nat) (C : Ok X E own cc nL) (hd : decode cc pc = .ok (.if_icmp .lt off, 3)) (ht : (pc : Int) + off = (tgt : Int)) (kt : x < y → G X E S cz tgt ls st h) (kf : ¬ x < y → G X E S cz (pc + 3) ls st h) : G X E S cz pc ls (.int y :: .int x :: st) h := by
  obtain ⟨p, l, e, R, s, m, args, below, meth, c, Q⟩ := X
  obtain ⟨hx, hb, hml, hown, hts, hK, hSZ, hlk⟩ := C
  intro H locs lsA hP hS hl
  exact lv_icmp_lt hx hb hd ht (fun q => kt q H locs lsA hP hS hl) (fun q => kf q H locs lsA hP hS hl)
theorem r_if_ge {x : Int32} {off : Int} (tgt : Nat) (C : Ok X E own cc nL) (hd : decode cc pc = .ok (.ifCond .ge off, 3)) (ht : (pc : Int) + off = (tgt : Int)) (kt : 0 ≤ x → G X E S cz tgt ls st h) (kf : ¬ 0 ≤ x → G X E S cz (pc + 3) ls st h) : G X E S cz pc ls (.int x :: st) h := by
  obtain ⟨p, l, e, R, s, m, args, below, meth, c, Q⟩ := X
  obtain ⟨hx, hb, hml, hown, hts, hK, hSZ, hlk⟩ := C
  intro H locs lsA hP hS hl
  exact lv_if_ge hx hb hd ht (fun q => kt q H locs lsA hP hS hl) (fun q => kf q H locs lsA hP hS hl)
theorem r_icmp_ge {x y : Int32} {off : Int} (tgt : Nat) (C : Ok X E own cc nL) (hd : decode cc pc = .ok (.if_icmp .ge off, 3)) (ht : (pc : Int) + off = (tgt : Int)) (kt : y ≤ x → G X E S cz tgt ls st h) (kf : ¬ y ≤ x → G X E S cz (pc + 3) ls st h) : G X E S cz pc ls (.int y :: .int x :: st) h := by
  obtain ⟨p, l, e, R, s, m, args, below, meth, c, Q⟩ := X
  obtain ⟨hx, hb, hml, hown, hts, hK, hSZ, hlk⟩ := C
  intro H locs lsA hP hS hl
  exact lv_icmp_ge hx hb hd ht (fun q => kt q H locs lsA hP hS hl) (fun q => kf q H locs lsA hP hS hl)
theorem r_if_gt {x : Int32} {off : Int} (tgt : Nat) (C : Ok X E own cc nL) (hd : decode cc pc = .ok (.ifCond .gt off, 3)) (ht : (pc : Int) + off = (tgt : Int)) (kt : 0 < x → G X E S cz tgt ls st h) (kf : ¬ 0 < x → G X E S cz (pc + 3) ls st h) : G X E S cz pc ls (.int x :: st) h := by
  obtain ⟨p, l, e, R, s, m, args, below, meth, c, Q⟩ := X
  obtain ⟨hx, hb, hml, hown, hts, hK, hSZ, hlk⟩ := C
  intro H locs lsA hP hS hl
  exact lv_if_gt hx hb hd ht (fun q => kt q H locs lsA hP hS hl) (fun q => kf q H locs lsA hP hS hl)
theorem r_icmp_gt {x y : Int32} {off : Int} (tgt : Nat) (C : Ok X E own cc nL) (hd : decode cc pc = .ok (.if_icmp .gt off, 3)) (ht : (pc : Int) + off = (tgt : Int)) (kt : y < x → G X E S cz tgt ls st h) (kf : ¬ y < x → G X E S cz (pc + 3) ls st h) : G X E S cz pc ls (.int y :: .int x :: st) h := by
  obtain ⟨p, l, e, R, s, m, args, below, meth, c, Q⟩ := X
  obtain ⟨hx, hb, hml, hown, hts, hK, hSZ, hlk⟩ := C
  intro H locs lsA hP hS hl
  exact lv_icmp_gt hx hb hd ht (fun q => kt q H locs lsA hP hS hl) (fun q => kf q H locs lsA hP hS hl)
theorem r_if_le {x : Int32} {off : Int} (tgt : Nat) (C : Ok X E own cc nL) (hd : decode cc pc = .ok (.ifCond .le off, 3)) (ht : (pc : Int) + off = (tgt : Int)) (kt : x ≤ 0 → G X E S cz tgt ls st h) (kf : ¬ x ≤ 0 → G X E S cz (pc + 3) ls st h) : G X E S cz pc ls (.int x :: st) h := by
  obtain ⟨p, l, e, R, s, m, args, below, meth, c, Q⟩ := X
  obtain ⟨hx, hb, hml, hown, hts, hK, hSZ, hlk⟩ := C
  intro H locs lsA hP hS hl
  exact lv_if_le hx hb hd ht (fun q => kt q H locs lsA hP hS hl) (fun q => kf q H locs lsA hP hS hl)
theorem r_icmp_le {x y : Int32} {off : Int} (tgt : Nat) (C : Ok X E own cc nL) (hd : decode cc pc = .ok (.if_icmp .le off, 3)) (ht : (pc : Int) + off = (tgt : Int)) (kt : x ≤ y → G X E S cz tgt ls st h) (kf : ¬ x ≤ y → G X E S cz (pc + 3) ls st h) : G X E S cz pc ls (.int y :: .int x :: st) h := by
  obtain ⟨p, l, e, R, s, m, args, below, meth, c, Q⟩ := X
  obtain ⟨hx, hb, hml, hown, hts, hK, hSZ, hlk⟩ := C
  intro H locs lsA hP hS hl
  exact lv_icmp_le hx hb hd ht (fun q => kt q H locs lsA hP hS hl) (fun q => kf q H locs lsA hP hS hl)
theorem r_tsw_in {dflt lo hi : Int} {offs : Array Int} {len : Nat} {x : Int32} {off : Int} (tgt : Nat) (C : Ok X E own cc nL) (hd : decode cc pc = .ok (.tableswitch dflt lo hi offs, len)) (h1 : ¬ x.toInt < lo) (h2 : ¬ hi < x.toInt) (ho : offs[(x.toInt - lo).toNat]? = some off) (ht : (pc : Int) + off = (tgt : Int)) (k : G X E S cz tgt ls st h) : G X E S cz pc ls (.int x :: st) h := by
  obtain ⟨p, l, e, R, s, m, args, below, meth, c, Q⟩ := X
  obtain ⟨hx, hb, hml, hown, hts, hK, hSZ, hlk⟩ := C
  intro H locs lsA hP hS hl
  exact lv_tableIn hx hb hd h1 h2 ho ht (k H locs lsA hP hS hl)
theorem r_tsw_out {dflt lo hi : Int} {offs : Array Int} {len : Nat} {x : Int32} (tgt : Nat) (C : Ok X E own cc nL) (hd : decode cc pc = .ok (.tableswitch dflt lo hi offs, len)) (ho : x.toInt < lo ∨ hi < x.toInt) (ht : (pc : Int) + dflt = (tgt : Int)) (k : G X E S cz tgt ls st h) : G X E S cz pc ls (.int x :: st) h := by
  obtain ⟨p, l, e, R, s, m, args, below, meth, c, Q⟩ := X
  obtain ⟨hx, hb, hml, hown, hts, hK, hSZ, hlk⟩ := C
  intro H locs lsA hP hS hl
  exact lv_tableOut hx hb hd ho ht (k H locs lsA hP hS hl)
theorem r_iret {v : Int32} (C : Ok X E own cc nL) (F : Fn X l0 E S d (some .int) Q0) (hd : decode cc pc = .ok (.ireturn, 1)) (hq : Q0 (some (.int v)) h) : G X E S (0, 0) pc ls [.int v] h := by
  obtain ⟨p, l, e, R, s, m, args, below, meth, c, Q⟩ := X
  obtain ⟨hx, hb, hml, hown, hts, hK, hSZ, hlk⟩ := C
  intro H locs lsA hP hS hl
  obtain ⟨-, -, hr, hQ⟩ := F
  subst hQ
  exact W.iret hx hb hr (fun t ht hW => ⟨⟨_, h, rfl, hq, va_K.moved hW.alike hK, by rw [ht]; exact hP, hSZ.to hW (by rw [ht]; exact hS.2.1)⟩, hS.F ht⟩) hS.2.2 hd
theorem r_zret {v : Int32} (C : Ok X E own cc nL) (F : Fn X l0 E S d (some .boolean) Q0) (hd : decode cc pc = .ok (.ireturn, 1)) (hv : narrow .boolean (.int v) = .int v) (hq : Q0 (some (.int v)) h) : G X E S (0, 0) pc ls [.int v] h := by
  obtain ⟨p, l, e, R, s, m, args, below, meth, c, Q⟩ := X
  obtain ⟨hx, hb, hml, hown, hts, hK, hSZ, hlk⟩ := C
  intro H locs lsA hP hS hl
  obtain ⟨-, -, hr, hQ⟩ := F
  subst hQ
  exact W.zret hx hb hr hv (fun t ht hW => ⟨⟨_, h, rfl, hq, va_K.moved hW.alike hK, by rw [ht]; exact hP, hSZ.to hW (by rw [ht]; exact hS.2.1)⟩, hS.F ht⟩) hS.2.2 hd
theorem r_vret (C : Ok X E own cc nL) (F : Fn X l0 E S d none Q0) (hd : decode cc pc = .ok (.return_, 1)) (hq : Q0 none h) : G X E S (0, 0) pc ls [] h := by
  obtain ⟨p, l, e, R, s, m, args, below, meth, c, Q⟩ := X
  obtain ⟨hx, hb, hml, hown, hts, hK, hSZ, hlk⟩ := C
  intro H locs lsA hP hS hl
  obtain ⟨-, -, hr, hQ⟩ := F
  subst hQ
  exact W.vret hx hb hr (fun t ht hW => ⟨⟨_, h, rfl, hq, va_K.moved hW.alike hK, by rw [ht]; exact hP, hSZ.to hW (by rw [ht]; exact hS.2.1)⟩, hS.F ht⟩) hS.2.2 hd
theorem r_iald {i n : Nat} {x : Int32} (j : Nat) (C : Ok X E own cc nL) (hd : decode cc pc = .ok (.iaload, 1)) (hi : S[i]? = some (.inr (0, n))) (hx0 : x = nI j) (hj : j < n) (hn : n < 2147483648) (k : G X E S cz (pc + 1) ls (.int (h i j) :: st) h) : G X E S cz pc ls (.int x :: .ref (E.1 + i) :: st) h := by
  subst hx0
  obtain ⟨p, l, e, R, s, m, args, below, meth, c, Q⟩ := X
  obtain ⟨hx, hb, hml, hown, hts, hK, hSZ, hlk⟩ := C
  intro H locs lsA hP hS hl
  have hg := wsF_get (E := E) (h := h) S 0 i hi
  rw [Nat.zero_add] at hg
  refine va_iald hx hb hK hP i 0 hg rfl (vp_in_nI hj hn) hd ?_
  rw [nI_clamp (Nat.lt_trans hj hn)]
  exact k H locs lsA hP hS hl
theorem r_zald {i n : Nat} {x : Int32} (j : Nat) (C : Ok X E own cc nL) (hd : decode cc pc = .ok (.baload, 1)) (hi : S[i]? = some (.inr (1, n))) (hx0 : x = nI j) (hj : j < n) (hn : n < 2147483648) (k : G X E S cz (pc + 1) ls (.int (h i j) :: st) h) : G X E S cz pc ls (.int x :: .ref (E.1 + i) :: st) h := by
  subst hx0
  obtain ⟨p, l, e, R, s, m, args, below, meth, c, Q⟩ := X
  obtain ⟨hx, hb, hml, hown, hts, hK, hSZ, hlk⟩ := C
  intro H locs lsA hP hS hl
  have hg := wsF_get (E := E) (h := h) S 0 i hi
  rw [Nat.zero_add] at hg
  refine va_zald hx hb hK hP i 1 hg rfl (vp_in_nI hj hn) hd ?_
  rw [nI_clamp (Nat.lt_trans hj hn)]
  exact k H locs lsA hP hS hl
theorem r_aald {i n r : Nat} {x : Int32} (j : Nat) (C : Ok X E own cc nL) (hd : decode cc pc = .ok (.aaload, 1)) (hi : S[i]? = some (.inr (2, n))) (hx0 : x = nI j) (hj : j < n) (hn : n < 2147483648) (hr : h i j = nI r) (hr0 : 0 < r) (hr1 : r < 2147483648) (k : G X E S cz (pc + 1) ls (.ref (E.1 + r) :: st) h) : G X E S cz pc ls (.int x :: .ref (E.1 + i) :: st) h := by
  subst hx0
  obtain ⟨p, l, e, R, s, m, args, below, meth, c, Q⟩ := X
  obtain ⟨hx, hb, hml, hown, hts, hK, hSZ, hlk⟩ := C
  intro H locs lsA hP hS hl
  have hg := wsF_get (E := E) (h := h) S 0 i hi
  rw [Nat.zero_add] at hg
  refine va_aldq hx hb hK hP i 2 hg rfl (vp_in_nI hj hn) hd ?_
  rw [nI_clamp (Nat.lt_trans hj hn)]
  have e1 : rfi E.1 (h i) j = some (E.1 + r) := by
    unfold rfi
    rw [hr, if_neg (nI_ne0 hr0 hr1), nI_clamp hr1]
  rw [e1]
  exact k H locs lsA hP hS hl
theorem r_alen {i n ty : Nat} (v : Int32) (C : Ok X E own cc nL) (hd : decode cc pc = .ok (.arraylength, 1)) (hi : S[i]? = some (.inr (0, n))) (hv : Int32.ofNat n = v) (k : G X E S cz (pc + 1) ls (.int v :: st) h) : G X E S cz pc ls (.ref (E.1 + i) :: st) h := by
  obtain ⟨p, l, e, R, s, m, args, below, meth, c, Q⟩ := X
  obtain ⟨hx, hb, hml, hown, hts, hK, hSZ, hlk⟩ := C
  intro H locs lsA hP hS hl
  have hg := wsF_get (E := E) (h := h) S 0 i hi
  rw [Nat.zero_add] at hg
  exact va_alen hx hb hK hP i 0 (ty := .int) hg rfl hv hd (k H locs lsA hP hS hl)
theorem r_iast {i n : Nat} {x y : Int32} (j : Nat) (C : Ok X E own cc nL) (hd : decode cc pc = .ok (.iastore, 1)) (hi : S[i]? = some (.inr (0, n))) (hx0 : x = nI j) (hj : j < n) (hn : n < 2147483648) (k : G X E S cz (pc + 1) ls st (up h i j y)) : G X E S cz pc ls (.int y :: .int x :: .ref (E.1 + i) :: st) h := by
  subst hx0
  obtain ⟨p, l, e, R, s, m, args, below, meth, c, Q⟩ := X
  obtain ⟨hx, hb, hml, hown, hts, hK, hSZ, hlk⟩ := C
  intro H locs lsA hP hS hl
  have hg := wsF_get (E := E) (h := h) S 0 i hi
  rw [Nat.zero_add] at hg
  refine va_iast hx hb hK hP (wsF_D S) hS i 0 hg rfl (vp_in_nI hj hn) hd (fun H1 locs1 hP1 _ hS1 => ?_)
  rw [nI_clamp (Nat.lt_trans hj hn)] at hP1
  have e1 := wsF_put (E := E) (h := h) (d := .inr (0, n)) (upd (h i) j y) S 0 i hi
  rw [Nat.zero_add] at e1
  have hP1 : va_P E.2.1 classes (wsF E (up h i j y) 0 S) H1 := by
    rw [show up h i j y = upr h i (upd (h i) j y) from rfl, ← e1]
    exact hP1
  exact k H1 locs1 lsA hP1 hS1 hl
theorem r_zast {i n : Nat} {x y : Int32} (j : Nat) (C : Ok X E own cc nL) (hd : decode cc pc = .ok (.bastore, 1)) (hi : S[i]? = some (.inr (1, n))) (hx0 : x = nI j) (hj : j < n) (hn : n < 2147483648) (hy : y = 0 ∨ y = 1) (k : G X E S cz (pc + 1) ls st (up h i j y)) : G X E S cz pc ls (.int y :: .int x :: .ref (E.1 + i) :: st) h := by
  subst hx0
  obtain ⟨p, l, e, R, s, m, args, below, meth, c, Q⟩ := X
  obtain ⟨hx, hb, hml, hown, hts, hK, hSZ, hlk⟩ := C
  intro H locs lsA hP hS hl
  have hg := wsF_get (E := E) (h := h) S 0 i hi
  rw [Nat.zero_add] at hg
  refine va_zast hx hb hK hP (wsF_D S) hS i 1 hg rfl (vp_in_nI hj hn) hd (fun H1 locs1 hP1 _ hS1 => ?_)
  rw [nI_clamp (Nat.lt_trans hj hn), show vp_nar .boolean y = y by rcases hy with rfl | rfl <;> decide] at hP1
  have e1 := wsF_put (E := E) (h := h) (d := .inr (1, n)) (upd (h i) j y) S 0 i hi
  rw [Nat.zero_add] at e1
  have hP1 : va_P E.2.1 classes (wsF E (up h i j y) 0 S) H1 := by
    rw [show up h i j y = upr h i (upd (h i) j y) from rfl, ← e1]
    exact hP1
  exact k H1 locs1 lsA hP1 hS1 hl
/-! fields: by their links -/
def FL (own : String) (idx ci k : Nat) : Prop := ∃ r : vw_C, classes[ci]? = some r ∧ k < r.2.2 ∧ Cond.fieldLink own idx (r.2.1 k).1 (r.2.1 k).2.1 (r.2.1 k).2.2.1 ∈ lw_tbl
/-- a field of that type that may be written -/
def FW (own : String) (idx ci k : Nat) (ty : FieldType) : Prop := ∃ r : vw_C, classes[ci]? = some r ∧ k < r.2.2 ∧ Cond.fieldLink own idx (r.2.1 k).1 (r.2.1 k).2.1 (r.2.1 k).2.2.1 ∈ lw_tbl ∧ (r.2.1 k).2.2.2 = false ∧ parseFieldDescriptor (r.2.1 k).2.2.1 = some ty
theorem inC {ci : Nat} {r : vw_C} (hc : classes[ci]? = some r) : ∀ w ∈ u_ws r.1 r.2.1 r.2.2, w ∈ tblG := by
  match ci, hc with
  | 0, hc => cases hc; exact fun w q => gw (inX0 w q) (igX0 w q)
  | 1, hc => cases hc; exact fun w q => gw (inX1 w q) (igX1 w q)
  | 2, hc => cases hc; exact fun w q => gw (inX2 w q) (igX2 w q)
  | 3, hc => cases hc; exact fun w q => gw (inX3 w q) (igX3 w q)
  | 4, hc => cases hc; exact fun w q => gw (inX4 w q) (igX4 w q)
  | 5, hc => cases hc; exact fun w q => gw (inX5 w q) (igX5 w q)
  | 6, hc => cases hc; exact fun w q => gw (inX6 w q) (igX6 w q)
  | 7, hc => cases hc; exact fun w q => gw (inX7 w q) (igX7 w q)
  | 8, hc => cases hc; exact fun w q => gw (inX8 w q) (igX8 w q)
  | n + 9, hc => simp [classes] at hc
theorem tyC {ci : Nat} {r : vw_C} (hc : classes[ci]? = some r) : (∃ ty0 : Nat → FieldType, ∀ k, k < r.2.2 → parseFieldDescriptor (r.2.1 k).2.2.1 = some (ty0 k)) ∧ ∀ a, a < r.2.2 → ∀ b, b < r.2.2 → a ≠ b → (r.2.1 a).2.1 ≠ (r.2.1 b).2.1 := by
  match ci, hc with
  | 0, hc => cases hc; exact ⟨⟨tyX0, tyX0_ok⟩, nmX0⟩
  | 1, hc => cases hc; exact ⟨⟨tyX1, tyX1_ok⟩, nmX1⟩
  | 2, hc => cases hc; exact ⟨⟨tyX2, tyX2_ok⟩, nmX2⟩
  | 3, hc => cases hc; exact ⟨⟨tyX3, tyX3_ok⟩, nmX3⟩
  | 4, hc => cases hc; exact ⟨⟨tyX4, tyX4_ok⟩, nmX4⟩
  | 5, hc => cases hc; exact ⟨⟨tyX5, tyX5_ok⟩, nmX5⟩
  | 6, hc => cases hc; exact ⟨⟨tyX6, tyX6_ok⟩, nmX6⟩
  | 7, hc => cases hc; exact ⟨⟨tyX7, tyX7_ok⟩, nmX7⟩
  | 8, hc => cases hc; exact ⟨⟨tyX8, tyX8_ok⟩, nmX8⟩
  | n + 9, hc => simp [classes] at hc
theorem r_get {idx i ci k kd : Nat} {kds : List Nat} (C : Ok X E own cc nL) (hd : decode cc pc = .ok (.getfield idx, 3)) (w : FL own idx ci k) (hi : S[i]? = some (.inl (ci, kds))) (hk : kds[k]? = some kd) (kk : G X E S cz (pc + 3) ls (fv E.1 kd (h i k) :: st) h) : G X E S cz pc ls (.ref (E.1 + i) :: st) h := by
  obtain ⟨p, l, e, R, s, m, args, below, meth, c, Q⟩ := X
  obtain ⟨hx, hb, hml, hown, hts, hK, hSZ, hlk⟩ := C
  intro H locs lsA hP hS hl
  obtain ⟨⟨C0, T0, N0⟩, hc, hkN, hw⟩ := w
  have hg := wsF_get (E := E) (h := h) S 0 i hi
  rw [Nat.zero_add] at hg
  have hv := fvs_get (z := E.1) (f := h i) kds 0 k hk
  rw [Nat.zero_add] at hv
  exact va_get hx hb hts (inC hc) hown hK hP i hg hc k hkN (hts _ (gw hw rfl)) (fun _ q => q) hv hd (kk H locs lsA hP hS hl)
theorem r_getI {idx i ci k : Nat} {kds : List Nat} (C : Ok X E own cc nL) (hd : decode cc pc = .ok (.getfield idx, 3)) (w : FL own idx ci k) (hi : S[i]? = some (.inl (ci, kds))) (hk : kds[k]? = some 0) (kk : G X E S cz (pc + 3) ls (.int (h i k) :: st) h) : G X E S cz pc ls (.ref (E.1 + i) :: st) h := r_get C hd w hi hk kk
theorem r_getR {idx i ci k r : Nat} {kds : List Nat} (C : Ok X E own cc nL) (hd : decode cc pc = .ok (.getfield idx, 3)) (w : FL own idx ci k) (hi : S[i]? = some (.inl (ci, kds))) (hk : kds[k]? = some (r + 3)) (kk : G X E S cz (pc + 3) ls (.ref (E.1 + r) :: st) h) : G X E S cz pc ls (.ref (E.1 + i) :: st) h := r_get C hd w hi hk kk
theorem r_getV {idx i ci k : Nat} (r : Nat) {kds : List Nat} (C : Ok X E own cc nL) (hd : decode cc pc = .ok (.getfield idx, 3)) (w : FL own idx ci k) (hi : S[i]? = some (.inl (ci, kds))) (hk : kds[k]? = some 2) (hr : h i k = nI r) (hr1 : r < 2147483648) (kk : G X E S cz (pc + 3) ls (.ref (E.1 + r) :: st) h) : G X E S cz pc ls (.ref (E.1 + i) :: st) h := by
  refine r_get C hd w hi hk ?_
  show G X E S cz (pc + 3) ls (.ref (E.1 + (h i k).toNatClampNeg) :: st) h
  rw [hr, nI_clamp hr1]
  exact kk
theorem r_put {idx i ci k kd : Nat} {kds : List Nat} {ty : FieldType} {x : Int32} (C : Ok X E own cc nL) (hd : decode cc pc = .ok (.putfield idx, 3)) (w : FW own idx ci k ty) (hi : S[i]? = some (.inl (ci, kds))) (hk : kds[k]? = some kd) (hn : narrow ty (fv E.1 kd x) = fv E.1 kd x) (hf : fits ty (fv E.1 kd x) = true) (kk : G X E S cz (pc + 3) ls st (up h i k x)) : G X E S cz pc ls (fv E.1 kd x :: .ref (E.1 + i) :: st) h := by
  obtain ⟨p, l, e, R, s, m, args, below, meth, c, Q⟩ := X
  obtain ⟨hx, hb, hml, hown, hts, hK, hSZ, hlk⟩ := C
  intro H locs lsA hP hS hl
  obtain ⟨⟨C0, T0, N0⟩, hc, hkN, hw, hfin, hpd⟩ := w
  have hg := wsF_get (E := E) (h := h) S 0 i hi
  rw [Nat.zero_add] at hg
  obtain ⟨⟨ty0, hty⟩, hnm⟩ := tyC hc
  have hlt : k < kds.length := (List.getElem?_eq_some_iff.mp hk).1
  refine va_put hx hb hts (inC hc) ty0 hty hnm hown hK hP (wsF_D S) hS i hg hc k hkN (hts _ (gw hw rfl)) (fun _ q => q) hfin hpd hn hf (by rw [fvs_len]; exact hlt) hd (fun H1 locs1 hP1 _ hS1 => ?_)
  have e1 := fvs_put (z := E.1) (f := h i) x kds 0 k hk
  rw [Nat.zero_add] at e1
  rw [e1] at hP1
  have e2 := wsF_put (E := E) (h := h) (d := .inl (ci, kds)) (upd (h i) k x) S 0 i hi
  rw [Nat.zero_add] at e2
  have hP1 : va_P E.2.1 classes (wsF E (up h i k x) 0 S) H1 := by
    rw [show up h i k x = upr h i (upd (h i) k x) from rfl, ← e2]
    exact hP1
  exact kk H1 locs1 lsA hP1 hS1 hl
theorem r_putI {idx i ci k : Nat} {kds : List Nat} {x : Int32} (C : Ok X E own cc nL) (hd : decode cc pc = .ok (.putfield idx, 3)) (w : FW own idx ci k .int) (hi : S[i]? = some (.inl (ci, kds))) (hk : kds[k]? = some 0) (kk : G X E S cz (pc + 3) ls st (up h i k x)) : G X E S cz pc ls (.int x :: .ref (E.1 + i) :: st) h := r_put C hd w hi hk rfl rfl kk
theorem r_putZ {idx i ci k : Nat} {kds : List Nat} {x : Int32} (C : Ok X E own cc nL) (hd : decode cc pc = .ok (.putfield idx, 3)) (w : FW own idx ci k .boolean) (hi : S[i]? = some (.inl (ci, kds))) (hk : kds[k]? = some 0) (hx0 : x = 0 ∨ x = 1) (kk : G X E S cz (pc + 3) ls st (up h i k x)) : G X E S cz pc ls (.int x :: .ref (E.1 + i) :: st) h := r_put C hd w hi hk (by rcases hx0 with rfl | rfl <;> rfl) (by rcases hx0 with rfl | rfl <;> rfl) kk
theorem r_putV {idx i ci k r : Nat} {kds : List Nat} {cn : String} (C : Ok X E own cc nL) (hd : decode cc pc = .ok (.putfield idx, 3)) (w : FW own idx ci k (.object cn)) (hi : S[i]? = some (.inl (ci, kds))) (hk : kds[k]? = some 2) (hr1 : r < 2147483648) (kk : G X E S cz (pc + 3) ls st (up h i k (nI r))) : G X E S cz pc ls (.ref (E.1 + r) :: .ref (E.1 + i) :: st) h := by
  have e : fv E.1 2 (nI r) = .ref (E.1 + r) := by
    show Value.ref (E.1 + (nI r).toNatClampNeg) = _
    rw [nI_clamp hr1]
  have := r_put (kd := 2) (x := nI r) (ls := ls) (st := st) C hd w hi hk (by rw [e]; rfl) (by rw [e]; rfl) kk
  rw [e] at this
  exact this
/-! the six static arrays -/
theorem r_gets {idx : Nat} (i : Nat) (C : Ok X E own cc nL) (hd : decode cc pc = .ok (.getstatic idx, 3)) (hi : i < 6) (ho : own = RX4) (hx0 : idx = stI i) (k : G X E S cz (pc + 3) ls (.ref (E.2.2.2 i) :: st) h) : G X E S cz pc ls st h := by
  obtain ⟨p, l, e, R, s, m, args, below, meth, c, Q⟩ := X
  obtain ⟨hx, hb, hml, hown, hts, hK, hSZ, hlk⟩ := C
  intro H locs lsA hP hS hl
  subst ho; subst hx0
  exact va_getsN hx hb (hSZ i hi).1 hS hown (va_Nw.use rfl (hSZ i hi).2.2) (fun _ q => q) hd (k H locs lsA hP hS hl)
theorem r_tlen {i : Nat} (C : Ok X E own cc nL) (hd : decode cc pc = .ok (.arraylength, 1)) (hi : i < 6) (k : G X E S cz (pc + 1) ls (.int (nI (stL i)) :: st) h) : G X E S cz pc ls (.ref (E.2.2.2 i) :: st) h := by
  obtain ⟨p, l, e, R, s, m, args, below, meth, c, Q⟩ := X
  obtain ⟨hx, hb, hml, hown, hts, hK, hSZ, hlk⟩ := C
  intro H locs lsA hP hS hl
  obtain ⟨cell, h1, h2, h3, h4, h5, h6, h7⟩ := (hSZ i hi).2.1.kept hS.2.1
  exact W.alen hx hb h1 h2 h5 rfl rfl hd (k H locs lsA hP hS hl)
theorem r_tald {i : Nat} {x : Int32} (j : Nat) (C : Ok X E own cc nL) (hd : decode cc pc = .ok (.iaload, 1)) (hi : i < 6) (hx0 : x = nI j) (hj : j < stL i) (k : G X E S cz (pc + 1) ls (.int (stV i j) :: st) h) : G X E S cz pc ls (.int x :: .ref (E.2.2.2 i) :: st) h := by
  subst hx0
  obtain ⟨p, l, e, R, s, m, args, below, meth, c, Q⟩ := X
  obtain ⟨hx, hb, hml, hown, hts, hK, hSZ, hlk⟩ := C
  intro H locs lsA hP hS hl
  obtain ⟨cell, h1, h2, h3, h4, h5, h6, h7⟩ := (hSZ i hi).2.1.kept hS.2.1
  have hj31 : j < 2 ^ 31 := by
    have : stL i ≤ 3 := by
      match i, hi with
      | 0, _ => decide
      | 1, _ => decide
      | 2, _ => decide
      | 3, _ => decide
      | 4, _ => decide
      | 5, _ => decide
    omega
  refine W.iald (v := .int (stV i j)) hx hb h1 h2 h3 ?_ ?_ rfl rfl hd (k H locs lsA hP hS hl)
  · rw [nI_clamp hj31]
    rintro (q | q)
    · exact nI_pos hj31 q
    · omega
  · rw [nI_clamp hj31]
    exact h6 j hj
/-! calls -/
def MV (M : Mr) (n : Nat) : Prop := Cond.instanceMethod M.1 ∈ lw_tbl ∧ Cond.selects M.1.cls M.1 M.1 ∈ lw_tbl ∧ Cond.initialized M.1.cls ∈ lw_tbl ∧ Cond.code M.1 M.2.1 M.2.2.1 M.2.2.2 ∈ lw_tbl ∧ (M.1.cls ≠ "java/lang/invoke/MethodHandle" ∧ M.1.cls ≠ "java/lang/invoke/VarHandle" ∧ (parseMethodDescriptor M.1.desc).map (fun d => d.parameters.length) = some n) ∧ M.2.2.1 ≤ 21
def MS (M : Mr) (n : Nat) : Prop := Cond.static M.1 ∈ lw_tbl ∧ Cond.initialized M.1.cls ∈ lw_tbl ∧ Cond.code M.1 M.2.1 M.2.2.1 M.2.2.2 ∈ lw_tbl ∧ (M.1.cls ≠ "java/lang/invoke/MethodHandle" ∧ M.1.cls ≠ "java/lang/invoke/VarHandle" ∧ (parseMethodDescriptor M.1.desc).map (fun d => d.parameters.length) = some n) ∧ M.2.2.1 ≤ 21
theorem goodG {w : Cond} (q : w ∈ tblG) : (w.onTables && w.keeps) = true ∨ ∃ ty, w = .arrayClass ty := good_of_word (tblG_good w q)
theorem goodM {M : Mr} (q : Cond.code M.1 M.2.1 M.2.2.1 M.2.2.2 ∈ lw_tbl) : GoodIn tblG (Cond.code M.1 M.2.1 M.2.2.1 M.2.2.2 :: tblG) := by
  intro w hw
  rcases List.mem_cons.mp hw with rfl | hw
  · exact ⟨gw q rfl, goodG (gw q rfl)⟩
  · exact ⟨hw, goodG hw⟩
theorem Rp.blind {E : Ev} {S : List dsc} {h : Hp} {av : List Value} : FrameBlind (va_Pc av (Rp E S h)) := by
  intro a U g mk q
  obtain ⟨q0, qK, qP, qZ⟩ := q
  exact ⟨q0, va_K.moved (u := U) (U := U.calling g mk a) (Vm.Alike.refl U.vm) qK, qP, qZ.same (U := U.calling g mk a) rfl rfl⟩
theorem W_call {p : Program} {l : Launch} {e : Env} {R : Room} {s : State} {m : MethodId} {args : Array Value} {below : List Frame} {meth : Method} {c : Code} {H : Heap} {locs : List Loc} {Q : State → Prop} {lsA : Array Slot} {st0 rest : List Value} {a : Array Value} {E : Ev} {S : List dsc} {Q1 : Pst} {pc : Nat} {cl0 sl0 : Nat}
    (hr : va_Run p l e R s m args below meth c H locs cl0 sl0 0 0 (F0 m pc lsA st0) rest (qc E S Q1 a) (fun q => E.1 ≤ q)) (hS : va_S (fun q => E.1 ≤ q) s.heap H locs)
    (kk : ∀ (v : Option Value) (h' : Hp) (H1 : Heap) (locs1 : List Loc), Q1 v h' → va_P E.2.1 classes (wsF E h' 0 S) H1 → va_S (fun q => E.1 ≤ q) s.heap H1 locs1 → W p l e R s m args below meth c H1 locs1 cl0 sl0 Q (F0 m (pc + 3) lsA (v.toList ++ rest))) : W p l e R s m args below meth c H locs cl0 sl0 Q (F0 m pc lsA st0) := by
  intro T hT X
  obtain ⟨v, st₀, t, T', L, h0, X', hL, e1, e2, ⟨⟨v', h', hv, hq, hRp⟩, hz, hk⟩, st⟩ := hr T hT X
  cases hv
  rw [h0] at hz hk
  obtain ⟨t2, a1, b1⟩ := kk v h' T'.heap (locs ++ L) hq (by rw [e1]; exact hRp.2.1) ⟨Nat.le_trans hS.1 (by rw [e1]; exact hz), fun q h1 h2 => by rw [e1, hk q (Nat.lt_of_lt_of_le h1 hS.1) h2]; exact hS.2.1 q h1 h2, fun q hq => by
      rcases List.mem_append.mp hq with h | h
      · exact hS.2.2 q h
      · exact hL q h⟩ T' rfl X'
  exact ⟨t2, st t2 a1, b1⟩
theorem r_callV {M : Mr} {idx d1 i ci : Nat} {kds : List Nat} {As rest : List Value} {Q1 : Pst} (C : Ok X E own cc nL) (F : Fn X l0 E S d ret Q0) (hd : decode cc pc = .ok (.invokevirtual idx, 3)) (hM : Sp l0 E S d1 M (.ref (E.1 + i) :: As) h Q1) (w : Cond.methodLink own idx M.1 ∈ lw_tbl) (mw : MV M As.length) (hi : S[i]? = some (.inl (ci, kds))) (hc : (classes[ci]?).map (fun r => r.1) = some M.1.cls) (hdd : d1 + 1 ≤ d) (hst : st = As.reverse ++ .ref (E.1 + i) :: rest) (hcat : (rest.map fun v => v.category).sum ≤ 8)
    (kk : ∀ (v : Option Value) (h' : Hp), Q1 v h' → G X E S (0, 0) (pc + 3) ls (v.toList ++ rest) h') : G X E S (0, 0) pc ls st h := by
  obtain ⟨p, l, e, R, s, m, args, below, meth, c, Q⟩ := X
  obtain ⟨hx, hb, hml, hown, hts, hK, hSZ, hlk⟩ := C
  intro H locs lsA hP hS hl
  obtain ⟨hl0, hR, hr, hQ⟩ := F
  subst hl0; subst hR; subst hst
  obtain ⟨m1, m2, m3, m4, m5, m6⟩ := mw
  have hg := wsF_get (E := E) (h := h) S 0 i hi
  rw [Nat.zero_add] at hg
  obtain ⟨r, hcr, hrn⟩ : ∃ r, classes[ci]? = some r ∧ r.1 = M.1.cls := by
    cases hq : classes[ci]? with
    | none => rw [hq] at hc; cases hc
    | some r => rw [hq] at hc; exact ⟨r, rfl, Option.some.inj hc⟩
  have hrec := va_recv hK hP hcr hg
  rw [hrn] at hrec
  have hG : GoodIn tblG (wsV own idx M.1.cls M.1 (Cond.code M.1 M.2.1 M.2.2.1 M.2.2.2 :: tblG)) := by
    intro w0 hw0
    unfold wsV at hw0
    rcases List.mem_append.mp hw0 with q | q
    · have : w0 ∈ tblG := by
        rcases List.mem_cons.mp q with rfl | q
        · exact gw w rfl
        rcases List.mem_cons.mp q with rfl | q
        · exact gw m1 rfl
        rcases List.mem_cons.mp q with rfl | q
        · exact gw m2 rfl
        rw [List.mem_singleton.mp q]
        exact gw m3 rfl
      exact ⟨this, goodG this⟩
    · exact goodM m4 w0 q
  refine W_call (va_runV (As := As) (rest := rest) ⟨hx, hb, hml, hown, hts⟩ hM (cwV As.length hts hG rfl rfl rfl ⟨rfl, m5⟩ ⟨hdd, ?_⟩) ⟨Rp.blind, hrec, fun U hU hW => ⟨rfl, va_K.moved hW.alike hK, by rw [hU]; exact hP, hSZ.to hW (by rw [hU]; exact hS.2.1)⟩⟩ rfl rfl (hl.1.trans hml) rfl (by show 2 * 0 + _ ≤ 8; omega) hd ⟨Nat.zero_le _, Nat.zero_le _⟩) hS (fun v h' H1 locs1 hq hP1 hS1 => ?_)
  · show 8 + (M.2.2.1 + 11) + 40 * d1 ≤ 40 * d
    omega
  · exact kk v h' hq H1 locs1 lsA hP1 hS1 hl
theorem r_callS {M : Mr} {idx d1 : Nat} {As rest : List Value} {Q1 : Pst} (C : Ok X E own cc nL) (F : Fn X l0 E S d ret Q0) (hd : decode cc pc = .ok (.invokestatic idx, 3)) (hM : Sp l0 E S d1 M As h Q1) (w : Cond.methodLink own idx M.1 ∈ lw_tbl) (mw : MS M As.length) (hdd : d1 + 1 ≤ d) (hst : st = As.reverse ++ rest) (hcat : (rest.map fun v => v.category).sum ≤ 8)
    (kk : ∀ (v : Option Value) (h' : Hp), Q1 v h' → G X E S (0, 0) (pc + 3) ls (v.toList ++ rest) h') : G X E S (0, 0) pc ls st h := by
  obtain ⟨p, l, e, R, s, m, args, below, meth, c, Q⟩ := X
  obtain ⟨hx, hb, hml, hown, hts, hK, hSZ, hlk⟩ := C
  intro H locs lsA hP hS hl
  obtain ⟨hl0, hR, hr, hQ⟩ := F
  subst hl0; subst hR; subst hst
  obtain ⟨m1, m3, m4, m5, m6⟩ := mw
  have hG : GoodIn tblG (va_wsS own idx M.1 (Cond.code M.1 M.2.1 M.2.2.1 M.2.2.2 :: tblG)) := by
    intro w0 hw0
    unfold va_wsS at hw0
    rcases List.mem_append.mp hw0 with q | q
    · have : w0 ∈ tblG := by
        rcases List.mem_cons.mp q with rfl | q
        · exact gw w rfl
        rcases List.mem_cons.mp q with rfl | q
        · exact gw m1 rfl
        rw [List.mem_singleton.mp q]
        exact gw m3 rfl
      exact ⟨this, goodG this⟩
    · exact goodM m4 w0 q
  refine W_call (va_runS (As := As) (rest := rest) ⟨hx, hb, hml, hown, hts⟩ hM (va_cwS As.length hts hG rfl rfl rfl m5 ⟨hdd, ?_⟩) ⟨Rp.blind, fun U hU hW => ⟨rfl, va_K.moved hW.alike hK, by rw [hU]; exact hP, hSZ.to hW (by rw [hU]; exact hS.2.1)⟩⟩ rfl rfl (hl.1.trans hml) rfl (by show 2 * 0 + _ ≤ 8; omega) hd ⟨Nat.zero_le _, Nat.zero_le _⟩) hS (fun v h' H1 locs1 hq hP1 hS1 => ?_)
  · show 8 + (M.2.2.1 + 11) + 40 * d1 ≤ 40 * d
    omega
  · exact kk v h' hq H1 locs1 lsA hP1 hS1 hl
/-- a method's contract out of a walk from its entry -/
theorem Sp.of {M : Mr} {av : List Value} (hy : plainName M.1.cls = true) (hlen : (lg_sl av).length ≤ M.2.2.1) (body : ∀ X : Cx, Ok X E M.1.cls M.2.1 M.2.2.1 → Fn X l0 E S d M.2.2.2 Q0 → G X E S (0, 0) 0 (lv_args 0 av) [] h) : Sp l0 E S d M av h Q0 := by
  refine Met.ofW (cc := M.2.1) (maxL := M.2.2.1) (ret := M.2.2.2) hy rfl ?_
  intro p e s m args below meth c s₁ B hml hv
  obtain ⟨rfl, hK, hP, hZ⟩ := hv
  have hts := atoms_spec (ws := Cond.code M.1 M.2.1 M.2.2.1 M.2.2.2 :: tblG) B.pre
  have hown : s.vm.findClass M.1.cls = some m.cls := findClass_of_methodNamed B.named
  have hl := lv_entry av (n := M.2.2.1) hlen
  rw [lg_entry_eq]
  exact body (p, l0, e, rmD d, s, m, av.toArray, below, meth, c, _) ⟨B.exec, B.bytes, hml, hown, fun w q => hts w (List.mem_cons_of_mem _ q), hK, hZ, B.notSynchronized⟩ ⟨rfl, rfl, B.returns, rfl⟩ s.heap [] _ hP va_S.rf (by rw [hml]; exact LH.of hl)
theorem Sp.weaken {M : Mr} {av : List Value} {Q1 : Pst} (k : Sp l0 E S d M av h Q0) (hq : ∀ v h', Q0 v h' → Q1 v h') : Sp l0 E S d M av h Q1 := by
  intro p e ha hc hk s m args below hf
  have := k p e ha hc hk s m args below hf
  refine fun a b c => ?_
  obtain ⟨t, o, q1, q2, q3, ⟨⟨⟨v, h', q4, q5, q6⟩, q7⟩, q8⟩⟩ := this a b c
  exact ⟨t, o, q1, q2, q3, ⟨⟨⟨v, h', q4, hq v h' q5, q6⟩, q7⟩, q8⟩⟩
end RULES
