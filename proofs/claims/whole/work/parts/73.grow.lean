variable {l : Launch} {E : Ev} {h : Hp}
/-! ===== constructors: the row of cells grows ===== -/
def nzl : List (String × Nat × MethodName) := [(RX7, 11, yX4_init), (RX7, 18, yX0_init), (RX7, 28, yX2_init), (RX7, 35, yX3_init), (RX7, 42, yX1_init), (RX7, 49, yX6_init), (RX7, 56, yX5_init), (RX5, 11, yX0_init)]
def NZ (U : State) : Prop := va_AO RX1 U ∧ ∀ q ∈ nzl, va_Nw (.methodLinkNest q.1 q.2.1 q.2.2 RX7) U
theorem NZ.to {u U : State} (h : NZ u) (hW : u.WarmedH U.vm) : NZ U := ⟨va_AO.moved hW.alike h.1, fun q hq => (h.2 q hq).warmM hW⟩
theorem NZ.same {u U : State} (h : NZ u) (hvm : u.vm = U.vm) : NZ U := ⟨va_AO.moved (hvm ▸ Vm.Alike.refl u.vm) h.1, fun q hq => (h.2 q hq).same rfl hvm⟩
def RpN (E : Ev) (S : List dsc) (h : Hp) (U : State) : Prop := U.heap.size = E.1 + S.length ∧ NZ U ∧ Rp E S h U
theorem RpN.blind {S : List dsc} {av : List Value} : FrameBlind (va_Pc av (RpN E S h)) := by
  intro a U g mk q
  obtain ⟨q0, qs, qn, qK, qP, qZ⟩ := q
  exact ⟨q0, qs, qn.same (U := U.calling g mk a) rfl, va_K.moved (u := U) (U := U.calling g mk a) (Vm.Alike.refl U.vm) qK, qP, qZ.same (U := U.calling g mk a) rfl rfl⟩
def rmN (d mc ms : Nat) : Room := { frames := d, cells := mc, slots := ms, locals := 40 * d }
def SpN (l : Launch) (E : Ev) (S : List dsc) (d mc ms : Nat) (M : Mr) (av : List Value) (h : Hp) (S' : List dsc) (Q : Pst) : Prop := Met l M.1 (Cond.code M.1 M.2.1 M.2.2.1 M.2.2.2 :: tblG) (rmN d mc ms) (va_Pc av (RpN E S h)) (qc E S' Q) mc ms (fun q => E.1 ≤ q)
/-- where the method began: n0 cells were there; what may be taken -/
def OkN (X : Cx) (E : Ev) (n0 mc ms : Nat) : Prop := match X with
  | (p, l, e, R, s, m, args, below, meth, c, Q) => NZ s ∧ s.heap.size = E.1 + n0 ∧ mc ≤ R.cells ∧ ms ≤ R.slots ∧ 1 ≤ R.frames ∧ 20 ≤ R.locals
def Ini (X : Cx) : Prop := match X with
  | (p, l, e, R, s, m, args, below, meth, c, Q) => meth.name = "<init>"
def FnN (X : Cx) (l0 : Launch) (E : Ev) (S : List dsc) (d mc ms : Nat) (Q0 : Pst) : Prop := match X with
  | (p, l, e, R, s, m, args, below, meth, c, Q) => l = l0 ∧ R = rmN d mc ms ∧ meth.sig.returnType = none ∧ Q = MQ below (qc E S Q0) args s mc ms (fun q => E.1 ≤ q)
theorem wsF_app {S : List dsc} {d : dsc} : ∀ j, wsF E h j (S ++ [d]) = wsF E h j S ++ [(E.1 + (j + S.length), cE E d (h (j + S.length)))] := by
  induction S with
  | nil => intro j; rfl
  | cons a S ih =>
    intro j
    show (E.1 + j, cE E a (h j)) :: wsF E h (j + 1) (S ++ [d]) = (E.1 + j, cE E a (h j)) :: (wsF E h (j + 1) S ++ _)
    rw [ih (j + 1), show j + 1 + S.length = j + (a :: S).length by rw [List.length_cons]; omega]
theorem wsF_len {S : List dsc} : ∀ j, (wsF E h j S).length = S.length := by
  induction S with
  | nil => intro j; rfl
  | cons a S ih =>
    intro j
    show (wsF E h (j + 1) S).length + 1 = S.length + 1
    rw [ih]
theorem wsF_set {d' : dsc} : ∀ (S : List dsc) (j i : Nat), i < S.length → (wsF E h j S).set i (E.1 + (j + i), cE E d' (h (j + i))) = wsF E h j (S.set i d')
  | [], _, i, q => absurd q (Nat.not_lt_zero i)
  | a :: S, j, 0, q => rfl
  | a :: S, j, i + 1, q => by
    show (E.1 + j, cE E a (h j)) :: (wsF E h (j + 1) S).set i (E.1 + (j + (i + 1)), cE E d' (h (j + (i + 1)))) = (E.1 + j, cE E a (h j)) :: wsF E h (j + 1) (S.set i d')
    have := wsF_set (d' := d') S (j + 1) i (Nat.lt_of_succ_lt_succ q)
    rw [show j + 1 + i = j + (i + 1) by omega] at this
    rw [this]
theorem fvs_set {z : Nat} {f : Nat → Int32} {kd : Nat} : ∀ (L : List Nat) (j k : Nat), k < L.length → (fvs z f j L).set k (fv z kd (f (j + k))) = fvs z f j (L.set k kd)
  | [], _, k, q => absurd q (Nat.not_lt_zero k)
  | a :: L, j, 0, q => rfl
  | a :: L, j, k + 1, q => by
    show fv z a (f j) :: (fvs z f (j + 1) L).set k (fv z kd (f (j + (k + 1)))) = fv z a (f j) :: fvs z f (j + 1) (L.set k kd)
    have := fvs_set (z := z) (f := f) (kd := kd) L (j + 1) k (Nat.lt_of_succ_lt_succ q)
    rw [show j + 1 + k = j + (k + 1) by omega] at this
    rw [this]
theorem low_P {S : List dsc} {H : Heap} (hP : va_P E.2.1 classes (wsF E h 0 S) H) (hE : E.1 ≤ H.size) : E.1 + S.length ≤ H.size := by
  cases hS : S.length with
  | zero => exact hE
  | succ n =>
    have hl : n < (wsF E h 0 S).length := by rw [wsF_len]; omega
    have hg := wsF_inv S 0 n (List.getElem?_eq_getElem hl)
    have := (hP n _ (List.getElem?_eq_getElem hl)).lt
    rw [hg] at this
    omega
section NRULES
variable {X : Cx} {S : List dsc} {cz : Nat × Nat} {pc : Nat} {ls : LSt} {st : List Value} {own : String} {cc : ByteArray} {nL n0 mc ms : Nat}
def GZ (X : Cx) (E : Ev) (S : List dsc) (cz : Nat × Nat) (pc : Nat) (ls : LSt) (st : List Value) (h : Hp) : Prop := match X with
  | (p, l, e, R, s, m, args, below, meth, c, Q) => ∀ (H : Heap) (locs : List Loc) (lsA : Array Slot), H.size = E.1 + S.length → va_P E.2.1 classes (wsF E h 0 S) H → va_S (fun q => E.1 ≤ q) s.heap H locs → LH lsA c.maxLocals ls → W p l e R s m args below meth c H locs cz.1 cz.2 Q (F0 m pc lsA st)
theorem G.sz (N : OkN X E n0 mc ms) (hn : S.length = n0 + cz.1) (kz : GZ X E S cz pc ls st h) : G X E S cz pc ls st h := by
  obtain ⟨p, l, e, R, s, m, args, below, meth, c, Q⟩ := X
  obtain ⟨hN, hs, hrest⟩ := N
  intro H locs lsA hP hS hl T hT X
  have h1 := X.heapSize
  have h2 := low_P hP (by have := hS.1; omega)
  rw [hT] at h1
  exact kz H locs lsA (by omega) hP hS hl T hT X
theorem va_push {S : List dsc} {d : dsc} {H H1 : Heap} (hs : H.size = E.1 + S.length) (hP : va_P E.2.1 classes (wsF E h 0 S) H) (o1 : ∀ q : Nat, q < H.size → H1[q]? = H[q]?) (e1 : va_at E.2.1 classes (E.1 + S.length, cE E d (h S.length)) H1) : va_P E.2.1 classes (wsF E h 0 (S ++ [d])) H1 := by
  rw [wsF_app, Nat.zero_add]
  refine (hP.kept (fun k x hx => o1 x.1 ((hP k x hx).lt))).app (fun k x hx => ?_)
  have hz : k < 1 := (List.getElem?_eq_some_iff.mp hx).1
  rw [show k = 0 by omega] at hx
  cases hx
  exact e1
theorem va_Sn {A : Nat → Prop} {H0 H H1 : Heap} {locs : List Loc} (hS : va_S A H0 H locs) (z1 : H1.size = H.size + 1) (o1 : ∀ q : Nat, q < H.size → H1[q]? = H[q]?) : va_S A H0 H1 locs := ⟨Nat.le_trans hS.1 (by omega), fun x h1 h2 => (o1 x (Nat.lt_of_lt_of_le h1 hS.1)).trans (hS.2.1 x h1 h2), hS.2.2⟩
theorem n_newI {x : Int32} (N' : Nat) (C : Ok X E own cc nL) (N : OkN X E n0 mc ms) (hn : S.length = n0 + cz.1) (hz : ∀ k, h S.length k = 0) (hd : decode cc pc = .ok (.newarray .int, 2)) (hx0 : x = nI N') (hN' : N' ≤ 1000) (h1 : cz.1 + 1 ≤ mc) (h2 : cz.2 + N' ≤ ms) (k : G X E (S ++ [.inr (0, N')]) (cz.1 + 1, cz.2 + N') (pc + 2) ls (.ref (E.1 + S.length) :: st) h) : G X E S cz pc ls (.int x :: st) h := by
  refine G.sz N hn ?_
  obtain ⟨p, l, e, R, s, m, args, below, meth, c, Q⟩ := X
  obtain ⟨hx, hb, hml, hown, hts, hK, hSZ, hlk⟩ := C
  obtain ⟨hNZ, hs0, hR1, hR2, hR3, hR4⟩ := N
  intro H locs lsA hsz hP hS hl
  subst hx0
  refine va_newaK (atype := .int) hx hb (hts _ (gw tw_49 rfl)) (g := F0 m pc lsA (.int (nI N') :: st)) rfl hd rfl (Int32.not_lt.mpr ((nI_leI (a := 0) (by decide) (by omega)).mpr (Nat.zero_le _))) (nI_clamp (by omega)) (by show N' * 4 ≤ 536870912; omega) (by omega) (by omega) hsz fun H1 cA e1 z1 o1 hAr hNm => ?_
  have hcA : E.2.2.1.1 = cA := Option.some.inj ((hK.2 0 _ rfl).2.symm.trans hNm)
  refine k H1 locs lsA (va_push hsz hP (fun q hq => o1 q (by omega)) ?_) (va_Sn hS (by omega) (fun q hq => o1 q (by omega))) hl
  show H1[E.1 + S.length]? = some (vp_cell E.2.2.1.1 (N', .inl (h S.length)))
  rw [hcA, show h S.length = fun _ => 0 from funext hz]
  exact e1
theorem n_newZ {x : Int32} (N' : Nat) (C : Ok X E own cc nL) (N : OkN X E n0 mc ms) (hn : S.length = n0 + cz.1) (hz : ∀ k, h S.length k = 0) (hd : decode cc pc = .ok (.newarray .boolean, 2)) (hx0 : x = nI N') (hN' : N' ≤ 1000) (h1 : cz.1 + 1 ≤ mc) (h2 : cz.2 + N' ≤ ms) (k : G X E (S ++ [.inr (1, N')]) (cz.1 + 1, cz.2 + N') (pc + 2) ls (.ref (E.1 + S.length) :: st) h) : G X E S cz pc ls (.int x :: st) h := by
  refine G.sz N hn ?_
  obtain ⟨p, l, e, R, s, m, args, below, meth, c, Q⟩ := X
  obtain ⟨hx, hb, hml, hown, hts, hK, hSZ, hlk⟩ := C
  obtain ⟨hNZ, hs0, hR1, hR2, hR3, hR4⟩ := N
  intro H locs lsA hsz hP hS hl
  subst hx0
  refine va_newaK (atype := .boolean) hx hb (hts _ (gw tw_214 rfl)) (g := F0 m pc lsA (.int (nI N') :: st)) rfl hd rfl (Int32.not_lt.mpr ((nI_leI (a := 0) (by decide) (by omega)).mpr (Nat.zero_le _))) (nI_clamp (by omega)) (by show N' * 1 ≤ 536870912; omega) (by omega) (by omega) hsz fun H1 cA e1 z1 o1 hAr hNm => ?_
  have hcA : E.2.2.1.2.1 = cA := Option.some.inj ((hK.2 1 _ rfl).2.symm.trans hNm)
  refine k H1 locs lsA (va_push hsz hP (fun q hq => o1 q (by omega)) ?_) (va_Sn hS (by omega) (fun q hq => o1 q (by omega))) hl
  show H1[E.1 + S.length]? = some (vp_cell E.2.2.1.2.1 (N', .inl (h S.length)))
  rw [hcA, show h S.length = fun _ => 0 from funext hz]
  exact e1
theorem n_newQ {x : Int32} {idx : Nat} (N' : Nat) (C : Ok X E own cc nL) (N : OkN X E n0 mc ms) (hn : S.length = n0 + cz.1) (hz : ∀ k, h S.length k = 0) (hd : decode cc pc = .ok (.anewarray idx, 3)) (w : Cond.classLink own idx RX1 ∈ lw_tbl) (hx0 : x = nI N') (hN' : N' ≤ 1000) (h1 : cz.1 + 1 ≤ mc) (h2 : cz.2 + N' ≤ ms) (k : G X E (S ++ [.inr (2, N')]) (cz.1 + 1, cz.2 + N') (pc + 3) ls (.ref (E.1 + S.length) :: st) h) : G X E S cz pc ls (.int x :: st) h := by
  refine G.sz N hn ?_
  obtain ⟨p, l, e, R, s, m, args, below, meth, c, Q⟩ := X
  obtain ⟨hx, hb, hml, hown, hts, hK, hSZ, hlk⟩ := C
  obtain ⟨hNZ, hs0, hR1, hR2, hR3, hR4⟩ := N
  intro H locs lsA hsz hP hS hl
  subst hx0
  have hcl : (nI N').toNatClampNeg = N' := nI_clamp (by omega)
  refine W.anew hx hb hown (hts _ (gw w rfl)) (va_AO.use hNZ.1) (g := F0 m pc lsA (.int (nI N') :: st)) rfl hd rfl (Int32.not_lt.mpr ((nI_leI (a := 0) (by decide) (by omega)).mpr (Nat.zero_le _))) (by rw [hcl]; omega) (by omega) (by rw [hcl]; omega) fun cA kA comp f1 f2 f3 f4 => ?_
  rw [hcl, hsz]
  generalize hH1 : H.push ({ cls := cA, slots := Array.replicate N' .null, vm := .none } : Cell) = H1
  have z1 : H1.size = H.size + 1 := by rw [← hH1, Array.size_push]
  have e1 : H1[H.size]? = some (arrV cA N' (fun _ => .null)) := by rw [← hH1, Array.getElem?_push_size, ← arrV_new]
  have o1 : ∀ q : Nat, q < H.size → H1[q]? = H[q]? := fun q hq => by rw [← hH1, Array.getElem?_push, if_neg (Nat.ne_of_lt hq)]
  obtain ⟨kA', comp', g1, g2, g3, g4⟩ := (hK.2 2 _ rfl).2
  have hcA : E.2.2.1.2.2 = cA := Option.some.inj (g4.symm.trans f1)
  refine k H1 locs lsA (va_push hsz hP o1 ?_) (va_Sn hS z1 o1) hl
  show H1[E.1 + S.length]? = some (vp_cell E.2.2.1.2.2 (N', .inr (.inr (.inr (.inr (rfi E.1 (h S.length)))))))
  rw [vp_cell_q, hcA, show rfi E.1 (h S.length) = fun _ => none from funext fun j => if_pos (hz j), ← hsz]
  exact e1
theorem n_new {idx ci : Nat} {kds : List Nat} {r : vw_C} (C : Ok X E own cc nL) (N : OkN X E n0 mc ms) (hn : S.length = n0 + cz.1) (hz : ∀ k, h S.length k = 0) (hd : decode cc pc = .ok (.new idx, 3)) (hc : classes[ci]? = some r) (w : Cond.classLink own idx r.1 ∈ lw_tbl) (wi : Cond.instantiable r.1 r.2.2 ∈ lw_tbl) (wn : Cond.initialized r.1 ∈ lw_tbl) (ty : Nat → FieldType) (hty : ∀ k, k < r.2.2 → parseFieldDescriptor (r.2.1 k).2.2.1 = some (ty k)) (hfs : ∀ j, j < r.2.2 → defaultValue (ty j) = vp_V (fvs E.1 (fun _ => 0) 0 kds) j) (h1 : cz.1 + 1 ≤ mc) (h2 : cz.2 + r.2.2 ≤ ms) (k : G X E (S ++ [.inl (ci, kds)]) (cz.1 + 1, cz.2 + r.2.2) (pc + 3) ls (.ref (E.1 + S.length) :: st) h) : G X E S cz pc ls st h := by
  refine G.sz N hn ?_
  obtain ⟨p, l, e, R, s, m, args, below, meth, c, Q⟩ := X
  obtain ⟨hx, hb, hml, hown, hts, hK, hSZ, hlk⟩ := C
  obtain ⟨hNZ, hs0, hR1, hR2, hR3, hR4⟩ := N
  intro H locs lsA hsz hP hS hl
  have hKn := hK.1 ci _ hc
  refine W.newcK hx hb hown (hts _ (gw w rfl)) (hts _ (gw wi rfl)) (hts _ (gw wn rfl)) (g := F0 m pc lsA st) rfl hd (by omega) (by omega) hKn.2.1 hsz fun H1 kC hkC e1 z1 o1 => ?_
  refine k H1 locs lsA (va_push hsz hP (fun q hq => o1 q (by omega)) ?_) (va_Sn hS (by omega) (fun q hq => o1 q (by omega))) hl
  refine ⟨r, hc, (u_born ty hts (inC hc) hKn hkC e1 hty).to (fun j hj => ?_)⟩
  rw [show h S.length = fun _ => 0 from funext hz]
  exact hfs j hj
def FF (own : String) (idx ci k : Nat) (ty : FieldType) : Prop := ∃ r : vw_C, classes[ci]? = some r ∧ k < r.2.2 ∧ Cond.fieldLink own idx (r.2.1 k).1 (r.2.1 k).2.1 (r.2.1 k).2.2.1 ∈ lw_tbl ∧ (r.2.1 k).2.2.2 = true ∧ (r.2.1 k).1 = own ∧ parseFieldDescriptor (r.2.1 k).2.2.1 = some ty
theorem n_putF {idx i ci k r : Nat} {kds : List Nat} {ty : FieldType} (C : Ok X E own cc nL) (I : Ini X) (hd : decode cc pc = .ok (.putfield idx, 3)) (w : FF own idx ci k ty) (hi : S[i]? = some (.inl (ci, kds))) (hk : k < kds.length) (hn : ∀ a, narrow ty (.ref a) = .ref a) (hf : ∀ a, fits ty (.ref a) = true) (kk : G X E (S.set i (.inl (ci, kds.set k (r + 3)))) cz (pc + 3) ls st h) : G X E S cz pc ls (.ref (E.1 + r) :: .ref (E.1 + i) :: st) h := by
  obtain ⟨p, l, e, R, s, m, args, below, meth, c, Q⟩ := X
  obtain ⟨hx, hb, hml, hown, hts, hK, hSZ, hlk⟩ := C
  intro H locs lsA hP hS hl
  obtain ⟨⟨C0, T0, N0⟩, hc, hkN, hw, hfin, hdcl, hpd⟩ := w
  have hg := wsF_get (E := E) (h := h) S 0 i hi
  rw [Nat.zero_add] at hg
  obtain ⟨⟨ty0, hty⟩, hnm⟩ := tyC hc
  refine va_putF hx hb hts (inC hc) ty0 hty hnm hown hK hP (wsF_D S) hS i hg hc k hkN (hts _ (gw hw rfl)) (fun _ q => q) hfin I hdcl hpd (hn _) (hf _) (by rw [fvs_len]; exact hk) hd (fun H1 locs1 hP1 _ hS1 => ?_)
  have e1 := fvs_set (z := E.1) (f := h i) (kd := r + 3) kds 0 k hk
  have e1 : (fvs E.1 (h i) 0 kds).set k (.ref (E.1 + r)) = fvs E.1 (h i) 0 (kds.set k (r + 3)) := e1
  rw [e1] at hP1
  have e2 := wsF_set (E := E) (h := h) (d' := .inl (ci, kds.set k (r + 3))) S 0 i ((List.getElem?_eq_some_iff.mp hi).1)
  rw [Nat.zero_add] at e2
  have e2 : (wsF E h 0 S).set i (E.1 + i, .inr (ci, fvs E.1 (h i) 0 (kds.set k (r + 3)))) = wsF E h 0 (S.set i (.inl (ci, kds.set k (r + 3)))) := e2
  rw [e2] at hP1
  exact kk H1 locs1 lsA hP1 hS1 hl
theorem n_putV {idx i ci k r : Nat} {kds : List Nat} {cn : String} (C : Ok X E own cc nL) (hd : decode cc pc = .ok (.putfield idx, 3)) (w : FW own idx ci k (.object cn)) (hi : S[i]? = some (.inl (ci, kds))) (hk : k < kds.length) (hr1 : r < 2147483648) (kk : G X E (S.set i (.inl (ci, kds.set k 2))) cz (pc + 3) ls st (up h i k (nI r))) : G X E S cz pc ls (.ref (E.1 + r) :: .ref (E.1 + i) :: st) h := by
  obtain ⟨p, l, e, R, s, m, args, below, meth, c, Q⟩ := X
  obtain ⟨hx, hb, hml, hown, hts, hK, hSZ, hlk⟩ := C
  intro H locs lsA hP hS hl
  obtain ⟨⟨C0, T0, N0⟩, hc, hkN, hw, hfin, hpd⟩ := w
  have hg := wsF_get (E := E) (h := h) S 0 i hi
  rw [Nat.zero_add] at hg
  obtain ⟨⟨ty0, hty⟩, hnm⟩ := tyC hc
  have hil : i < S.length := (List.getElem?_eq_some_iff.mp hi).1
  refine va_put hx hb hts (inC hc) ty0 hty hnm hown hK hP (wsF_D S) hS i hg hc k hkN (hts _ (gw hw rfl)) (fun _ q => q) hfin hpd rfl rfl (by rw [fvs_len]; exact hk) hd (fun H1 locs1 hP1 _ hS1 => ?_)
  have e0 : fv E.1 2 (nI r) = .ref (E.1 + r) := by
    show Value.ref (E.1 + (nI r).toNatClampNeg) = _
    rw [nI_clamp hr1]
  have e1 : (fvs E.1 (h i) 0 kds).set k (.ref (E.1 + r)) = fvs E.1 (upd (h i) k (nI r)) 0 (kds.set k 2) := by
    have a1 := fvs_put (z := E.1) (f := h i) (kd := 2) (nI r) (kds.set k 2) 0 k (by rw [List.getElem?_set_self hk])
    rw [Nat.zero_add] at a1
    rw [← a1, ← fvs_set (kd := 2) kds 0 k hk, List.set_set, e0]
  have hP1 : va_P E.2.1 classes ((wsF E h 0 S).set i (E.1 + i, cE E (.inl (ci, kds.set k 2)) (upd (h i) k (nI r)))) H1 := by
    show va_P E.2.1 classes ((wsF E h 0 S).set i (E.1 + i, .inr (ci, fvs E.1 (upd (h i) k (nI r)) 0 (kds.set k 2)))) H1
    rw [← e1]; exact hP1
  have e2 := wsF_set (E := E) (h := h) (d' := .inl (ci, kds.set k 2)) S 0 i hil
  rw [Nat.zero_add] at e2
  have e3 := wsF_put (E := E) (h := h) (d := .inl (ci, kds.set k 2)) (upd (h i) k (nI r)) (S.set i (.inl (ci, kds.set k 2))) 0 i (by rw [List.getElem?_set_self hil])
  rw [Nat.zero_add] at e3
  have hP1 : va_P E.2.1 classes (wsF E (up h i k (nI r)) 0 (S.set i (.inl (ci, kds.set k 2)))) H1 := by
    rw [show up h i k (nI r) = upr h i (upd (h i) k (nI r)) from rfl, ← e3, ← e2, List.set_set]
    exact hP1
  exact kk H1 locs1 lsA hP1 hS1 hl
theorem n_aast {i n r : Nat} {x : Int32} {kds : List Nat} (j : Nat) (C : Ok X E own cc nL) (hd : decode cc pc = .ok (.aastore, 1)) (hi : S[i]? = some (.inr (2, n))) (hr : S[r]? = some (.inl (1, kds))) (hx0 : x = nI j) (hj : j < n) (hn : n < 2147483648) (hr0 : 0 < r) (hr1 : r < 2147483648) (kk : G X E S cz (pc + 1) ls st (up h i j (nI r))) : G X E S cz pc ls (.ref (E.1 + r) :: .int x :: .ref (E.1 + i) :: st) h := by
  subst hx0
  obtain ⟨p, l, e, R, s, m, args, below, meth, c, Q⟩ := X
  obtain ⟨hx, hb, hml, hown, hts, hK, hSZ, hlk⟩ := C
  intro H locs lsA hP hS hl
  have hg := wsF_get (E := E) (h := h) S 0 i hi
  have hg2 := wsF_get (E := E) (h := h) S 0 r hr
  rw [Nat.zero_add] at hg hg2
  refine va_astq hx hb hK hP (wsF_D S) hS i 2 r 1 (r := (RX1, TX1, 3)) hg rfl hg2 rfl (vp_in_nI hj (by omega)) hd (fun H1 locs1 hP1 _ hS1 => ?_)
  rw [nI_clamp (by omega)] at hP1
  have e0 : va_up (rfi E.1 (h i)) j (some (E.1 + r)) = rfi E.1 (upd (h i) j (nI r)) := funext fun q => by
    unfold va_up rfi upd
    by_cases c : q = j
    · subst c
      rw [if_pos rfl, if_pos rfl, if_neg, nI_clamp hr1]
      intro z
      have := nI_z (by omega) z
      omega
    · rw [if_neg c, if_neg c]
  have e3 := wsF_put (E := E) (h := h) (d := .inr (2, n)) (upd (h i) j (nI r)) S 0 i hi
  rw [Nat.zero_add] at e3
  have hP1 : va_P E.2.1 classes (wsF E (up h i j (nI r)) 0 S) H1 := by
    rw [show up h i j (nI r) = upr h i (upd (h i) j (nI r)) from rfl, ← e3]
    show va_P E.2.1 classes ((wsF E h 0 S).set i (E.1 + i, .inl (E.2.2.1.2.2, n, .inr (.inr (.inr (.inr (rfi E.1 (upd (h i) j (nI r))))))))) H1
    rw [← e0]; exact hP1
  exact kk H1 locs1 lsA hP1 hS1 hl
theorem n_obj {idx i : Nat} (C : Ok X E own cc nL) (N : OkN X E n0 mc ms) (hd : decode cc pc = .ok (.invokespecial idx, 3)) (w : Cond.methodLink own idx ⟨"java/lang/Object", "<init>", "()V"⟩ ∈ lw_tbl) (hcat : (st.map fun v => v.category).sum ≤ 8) (kk : G X E S cz (pc + 3) ls st h) : G X E S cz pc ls (.ref (E.1 + i) :: st) h := by
  obtain ⟨p, l, e, R, s, m, args, below, meth, c, Q⟩ := X
  obtain ⟨hx, hb, hml, hown, hts, hK, hSZ, hlk⟩ := C
  obtain ⟨hNZ, hs0, hR1, hR2, hR3, hR4⟩ := N
  intro H locs lsA hP hS hl
  exact W.objInit hx hb hown (hts _ (gw w rfl)) (hts _ (gw tw_19 rfl)) (hts _ (gw tw_20 rfl)) (g := F0 m pc lsA (.ref (E.1 + i) :: st)) rfl hl.1 rfl hd hR3 (by show 2 * 0 + _ + 12 ≤ R.locals; omega) (kk H locs lsA hP hS hl)
theorem W_callN {p : Program} {l : Launch} {e : Env} {R : Room} {s : State} {m : MethodId} {args : Array Value} {below : List Frame} {meth : Method} {c : Code} {H : Heap} {locs : List Loc} {Q : State → Prop} {lsA : Array Slot} {st0 rest : List Value} {a : Array Value} {S : List dsc} {Q1 : Pst} {pc cl0 sl0 mc ms : Nat}
    (hr : va_Run p l e R s m args below meth c H locs cl0 sl0 mc ms (F0 m pc lsA st0) rest (qc E S Q1 a) (fun q => E.1 ≤ q)) (hS : va_S (fun q => E.1 ≤ q) s.heap H locs)
    (kk : ∀ (v : Option Value) (h' : Hp) (H1 : Heap) (locs1 : List Loc), Q1 v h' → va_P E.2.1 classes (wsF E h' 0 S) H1 → va_S (fun q => E.1 ≤ q) s.heap H1 locs1 → W p l e R s m args below meth c H1 locs1 (cl0 + mc) (sl0 + ms) Q (F0 m (pc + 3) lsA (v.toList ++ rest))) : W p l e R s m args below meth c H locs cl0 sl0 Q (F0 m pc lsA st0) := by
  intro T hT X
  obtain ⟨v, st₀, t, T', L, h0, X', hL, e1, e2, ⟨⟨v', h', hv, hq, hRp⟩, hz, hk⟩, st⟩ := hr T hT X
  cases hv
  rw [h0] at hz hk
  obtain ⟨t2, a1, b1⟩ := kk v h' T'.heap (locs ++ L) hq (by rw [e1]; exact hRp.2.1) ⟨Nat.le_trans hS.1 (by rw [e1]; exact hz), fun q h1 h2 => by rw [e1, hk q (Nat.lt_of_lt_of_le h1 hS.1) h2]; exact hS.2.1 q h1 h2, fun q hq => by
      rcases List.mem_append.mp hq with h | h
      · exact hS.2.2 q h
      · exact hL q h⟩ T' rfl X'
  exact ⟨t2, st t2 a1, b1⟩
def MI (M : Mr) : Prop := Cond.instanceMethod M.1 ∈ lw_tbl ∧ Cond.initialized M.1.cls ∈ lw_tbl ∧ Cond.code M.1 M.2.1 M.2.2.1 M.2.2.2 ∈ lw_tbl ∧ (M.1.cls ≠ "java/lang/invoke/MethodHandle" ∧ M.1.cls ≠ "java/lang/invoke/VarHandle" ∧ (parseMethodDescriptor M.1.desc).map (fun d => d.parameters.length) = some 0) ∧ M.1.name = "<init>" ∧ M.2.2.2 = none
/-- the room that is left in a method of X for a callee of depth d1 -/
def Rm (X : Cx) (d1 w : Nat) : Prop := match X with
  | (p, l, e, R, s, m, args, below, meth, c, Q) => d1 + 1 ≤ R.frames ∧ 8 + (w + 11) + 40 * d1 ≤ R.locals
def Ln (X : Cx) (l0 : Launch) : Prop := match X with
  | (p, l, e, R, s, m, args, below, meth, c, Q) => l = l0
theorem n_initN {M : Mr} {idx d1 i mc1 ms1 : Nat} {rest : List Value} {S' : List dsc} {Q1 : Pst} (C : Ok X E own cc nL) (N : OkN X E n0 mc ms) (L : Ln X l) (hR : Rm X d1 M.2.2.1) (hn : S.length = n0 + cz.1) (hd : decode cc pc = .ok (.invokespecial idx, 3)) (hM : SpN l E S d1 mc1 ms1 M [.ref (E.1 + i)] h S' Q1) (w : (own, idx, M.1) ∈ nzl) (mw : MI M) (hcat : (rest.map fun v => v.category).sum ≤ 8) (h1 : cz.1 + mc1 ≤ mc) (h2 : cz.2 + ms1 ≤ ms)
    (kk : ∀ (v : Option Value) (h' : Hp), Q1 v h' → G X E S' (cz.1 + mc1, cz.2 + ms1) (pc + 3) ls (v.toList ++ rest) h') : G X E S cz pc ls (.ref (E.1 + i) :: rest) h := by
  refine G.sz N hn ?_
  obtain ⟨p, l', e, R, s, m, args, below, meth, c, Q⟩ := X
  obtain ⟨hx, hb, hml, hown, hts, hK, hSZ, hlk⟩ := C
  obtain ⟨hNZ, hs0, hR1, hR2, hR3, hR4⟩ := N
  obtain ⟨hr1, hr2⟩ := hR
  have L : l' = l := L
  subst L
  intro H locs lsA hsz hP hS hl
  obtain ⟨m1, m3, m4, m5, m6, m7⟩ := mw
  refine W_callN (va_runIN (As := []) (rest := rest) (bytes := M.2.1) (maxL := M.2.2.1) ⟨hx, hb, hml, hown, hts⟩ hM ⟨va_cnB 0 hts (goodM m4) (by rw [m7]) rfl rfl (hNZ.2 _ w) (hts _ (gw m3 rfl)) m5 ⟨hr1, hr2⟩, m6, hts _ (gw m1 rfl)⟩ ⟨RpN.blind, fun U hU hW => ⟨rfl, by rw [hU]; exact hsz, hNZ.to hW, va_K.moved hW.alike hK, by rw [hU]; exact hP, hSZ.to hW (by rw [hU]; exact hS.2.1)⟩⟩ rfl rfl (hl.1.trans hml) rfl (by show 2 * 0 + _ ≤ 8; omega) hd ⟨by omega, by omega⟩) hS (fun v h' H1 locs1 hq hP1 hS1 => ?_)
  exact kk v h' hq H1 locs1 lsA hP1 hS1 hl
theorem n_init {M : Mr} {idx d1 i mc1 ms1 : Nat} {rest : List Value} {S' : List dsc} {Q1 : Pst} (C : Ok X E own cc nL) (N : OkN X E n0 mc ms) (L : Ln X l) (hR : Rm X d1 M.2.2.1) (hn : S.length = n0 + cz.1) (hd : decode cc pc = .ok (.invokespecial idx, 3)) (hM : SpN l E S d1 mc1 ms1 M [.ref (E.1 + i)] h S' Q1) (w : Cond.methodLink own idx M.1 ∈ lw_tbl) (mw : MI M) (hcat : (rest.map fun v => v.category).sum ≤ 8) (h1 : cz.1 + mc1 ≤ mc) (h2 : cz.2 + ms1 ≤ ms)
    (kk : ∀ (v : Option Value) (h' : Hp), Q1 v h' → G X E S' (cz.1 + mc1, cz.2 + ms1) (pc + 3) ls (v.toList ++ rest) h') : G X E S cz pc ls (.ref (E.1 + i) :: rest) h := by
  refine G.sz N hn ?_
  obtain ⟨p, l', e, R, s, m, args, below, meth, c, Q⟩ := X
  obtain ⟨hx, hb, hml, hown, hts, hK, hSZ, hlk⟩ := C
  obtain ⟨hNZ, hs0, hR1, hR2, hR3, hR4⟩ := N
  obtain ⟨hr1, hr2⟩ := hR
  have L : l' = l := L
  subst L
  intro H locs lsA hsz hP hS hl
  obtain ⟨m1, m3, m4, m5, m6, m7⟩ := mw
  refine W_callN (va_runI (As := []) (rest := rest) (bytes := M.2.1) (maxL := M.2.2.1) ⟨hx, hb, hml, hown, hts⟩ hM (cwI 0 hts (goodM m4) (by rw [m7]) rfl rfl (hts _ (gw m3 rfl)) (hts _ (gw w rfl)) (hts _ (gw m1 rfl)) m6 m5 ⟨hr1, hr2⟩) ⟨RpN.blind, fun U hU hW => ⟨rfl, by rw [hU]; exact hsz, hNZ.to hW, va_K.moved hW.alike hK, by rw [hU]; exact hP, hSZ.to hW (by rw [hU]; exact hS.2.1)⟩⟩ rfl rfl (hl.1.trans hml) rfl (by show 2 * 0 + _ ≤ 8; omega) hd ⟨by omega, by omega⟩) hS (fun v h' H1 locs1 hq hP1 hS1 => ?_)
  exact kk v h' hq H1 locs1 lsA hP1 hS1 hl
/-- a call that makes nothing, from anywhere -/
theorem n_callV {M : Mr} {idx d1 i ci : Nat} {kds : List Nat} {As rest : List Value} {Q1 : Pst} (C : Ok X E own cc nL) (N : OkN X E n0 mc ms) (L : Ln X l) (hR : Rm X d1 M.2.2.1) (hd : decode cc pc = .ok (.invokevirtual idx, 3)) (hM : Sp l E S d1 M (.ref (E.1 + i) :: As) h Q1) (w : Cond.methodLink own idx M.1 ∈ lw_tbl) (mw : MV M As.length) (hi : S[i]? = some (.inl (ci, kds))) (hc : (classes[ci]?).map (fun r => r.1) = some M.1.cls) (hst : st = As.reverse ++ .ref (E.1 + i) :: rest) (hcat : (rest.map fun v => v.category).sum ≤ 8) (h1 : cz.1 ≤ mc) (h2 : cz.2 ≤ ms)
    (kk : ∀ (v : Option Value) (h' : Hp), Q1 v h' → G X E S cz (pc + 3) ls (v.toList ++ rest) h') : G X E S cz pc ls st h := by
  obtain ⟨p, l', e, R, s, m, args, below, meth, c, Q⟩ := X
  obtain ⟨hx, hb, hml, hown, hts, hK, hSZ, hlk⟩ := C
  obtain ⟨hNZ, hs0, hR1, hR2, hR3, hR4⟩ := N
  obtain ⟨hr1, hr2⟩ := hR
  have L : l' = l := L
  subst L
  intro H locs lsA hP hS hl
  subst hst
  obtain ⟨m1, m2, m3, m4, m5, m6⟩ := mw
  have hg := wsF_get (E := E) (h := h) S 0 i hi
  rw [Nat.zero_add] at hg
  obtain ⟨r, hcr, hrn⟩ : ∃ r, classes[ci]? = some r ∧ r.1 = M.1.cls := by
    cases hq : classes[ci]? with
    | none => rw [hq] at hc; cases hc
    | some r => rw [hq] at hc; exact ⟨r, rfl, Option.some.inj hc⟩
  have hrec := va_recv hK hP hcr hg
  rw [hrn] at hrec
  have hG : GoodIn tblG (wsV own idx M.1.cls M.1 (Cond.code M.1 M.2.1 M.2.2.1 M.2.2.2 :: tblG)) := by
    intro w0 hw0
    unfold wsV at hw0
    rcases List.mem_append.mp hw0 with q | q
    · have : w0 ∈ tblG := by
        rcases List.mem_cons.mp q with rfl | q
        · exact gw w rfl
        rcases List.mem_cons.mp q with rfl | q
        · exact gw m1 rfl
        rcases List.mem_cons.mp q with rfl | q
        · exact gw m2 rfl
        rw [List.mem_singleton.mp q]
        exact gw m3 rfl
      exact ⟨this, goodG this⟩
    · exact goodM m4 w0 q
  refine W_call (va_runV (As := As) (rest := rest) ⟨hx, hb, hml, hown, hts⟩ hM (cwV As.length hts hG rfl rfl rfl ⟨rfl, m5⟩ ⟨hr1, hr2⟩) ⟨Rp.blind, hrec, fun U hU hW => ⟨rfl, va_K.moved hW.alike hK, by rw [hU]; exact hP, hSZ.to hW (by rw [hU]; exact hS.2.1)⟩⟩ rfl rfl (hl.1.trans hml) rfl (by show 2 * 0 + _ ≤ 8; omega) hd ⟨by show cz.1 + 0 ≤ R.cells; omega, by show cz.2 + 0 ≤ R.slots; omega⟩) hS (fun v h' H1 locs1 hq hP1 hS1 => ?_)
  exact kk v h' hq H1 locs1 lsA hP1 hS1 hl
theorem n_vret {d : Nat} {Q0 : Pst} (C : Ok X E own cc nL) (F : FnN X l E S d mc ms Q0) (hd : decode cc pc = .ok (.return_, 1)) (hcz : cz = (mc, ms)) (hq : Q0 none h) : G X E S cz pc ls [] h := by
  subst hcz
  obtain ⟨p, l, e, R, s, m, args, below, meth, c, Q⟩ := X
  obtain ⟨hx, hb, hml, hown, hts, hK, hSZ, hlk⟩ := C
  intro H locs lsA hP hS hl
  obtain ⟨-, -, hr, hQ⟩ := F
  subst hQ
  exact W.vret hx hb hr (fun t ht hW => ⟨⟨_, h, rfl, hq, va_K.moved hW.alike hK, by rw [ht]; exact hP, hSZ.to hW (by rw [ht]; exact hS.2.1)⟩, hS.F ht⟩) hS.2.2 hd
theorem SpN.of {M : Mr} {i d : Nat} {S' : List dsc} {Q0 : Pst} (hy : plainName M.1.cls = true) (hlen : 1 ≤ M.2.2.1) (hret : M.2.2.2 = none) (hini : M.1.name = "<init>") (hd1 : 1 ≤ d) (body : ∀ X : Cx, Ok X E M.1.cls M.2.1 M.2.2.1 → OkN X E S.length mc ms → Ini X → Ln X l → FnN X l E S' d mc ms Q0 → (∀ d1 w, d1 + 1 ≤ d → w ≤ 20 → Rm X d1 w) → G X E S (0, 0) 0 [(0, .ref (E.1 + i))] [] h) : SpN l E S d mc ms M [.ref (E.1 + i)] h S' Q0 := by
  refine Met.ofW (cc := M.2.1) (maxL := M.2.2.1) (ret := M.2.2.2) hy rfl ?_
  intro p e s m args below meth c s₁ B hml hv
  obtain ⟨rfl, hsz, hN, hK, hP, hZ⟩ := hv
  have hts := atoms_spec (ws := Cond.code M.1 M.2.1 M.2.2.1 M.2.2.2 :: tblG) B.pre
  have hown : s.vm.findClass M.1.cls = some m.cls := findClass_of_methodNamed B.named
  have hl := lv_entry [Value.ref (E.1 + i)] (n := M.2.2.1) hlen
  have hin : meth.name = "<init>" := ((name_of_methodNamed B.named B.method).1).trans hini
  rw [lg_entry_eq]
  exact body (p, l, e, rmN d mc ms, s, m, _, below, meth, c, _) ⟨B.exec, B.bytes, hml, hown, fun w q => hts w (List.mem_cons_of_mem _ q), hK, hZ, B.notSynchronized⟩ ⟨hN, hsz, Nat.le_refl _, Nat.le_refl _, hd1, by show 20 ≤ 40 * d; omega⟩ hin rfl ⟨rfl, rfl, B.returns.trans hret, rfl⟩ (fun d1 w q1 q2 => ⟨q1, by show 8 + (w + 11) + 40 * d1 ≤ 40 * d; omega⟩) s.heap [] _ hP va_S.rf (by rw [hml]; exact LH.of hl)
end NRULES
