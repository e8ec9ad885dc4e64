/-! ===== the machine over a heap of fixed cells: cell i lies at E.1 + i; h i k is its k-th number ===== -/
abbrev dsc : Type := (Nat × List Nat) ⊕ (Nat × Nat)
abbrev Hp : Type := Nat → Nat → Int32
abbrev Ev : Type := Nat × va_G × (ClassId × ClassId × ClassId) × (Nat → Nat)
abbrev LSt : Type := List (Nat × Value)
abbrev classes : List vw_C := [(RX0, TX0, 12), (RX1, TX1, 3), (RX2, TX2, 6), (RX3, TX3, 3), (RX4, TX4, 6), (RX5, TX5, 5), (RX6, TX6, 7), (RX7, TX7, 10), (RX8, TX8, 37)]
def fv (z : Nat) (kd : Nat) (x : Int32) : Value := match kd with
  | 0 => .int x
  | 1 => .null
  | 2 => .ref (z + x.toNatClampNeg)
  | r + 3 => .ref (z + r)
def fvs (z : Nat) (f : Nat → Int32) : Nat → List Nat → List Value
  | _, [] => []
  | k, kd :: l => fv z kd (f k) :: fvs z f (k + 1) l
theorem fvs_get {z : Nat} {f : Nat → Int32} : ∀ (l : List Nat) (j k : Nat) {kd : Nat}, l[k]? = some kd → (fvs z f j l)[k]? = some (fv z kd (f (j + k)))
  | [], _, _, _, h => by simp at h
  | a :: l, j, 0, kd, h => by
    rw [List.getElem?_cons_zero] at h
    cases h
    rfl
  | a :: l, j, k + 1, kd, h => by
    rw [List.getElem?_cons_succ] at h
    have := fvs_get (z := z) (f := f) l (j + 1) k h
    show (fv z a (f j) :: fvs z f (j + 1) l)[k + 1]? = _
    rw [List.getElem?_cons_succ, this, show j + 1 + k = j + (k + 1) by omega]
theorem fvs_len {z : Nat} {f : Nat → Int32} : ∀ (l : List Nat) (j : Nat), (fvs z f j l).length = l.length
  | [], _ => rfl
  | a :: l, j => by
    show (fvs z f (j + 1) l).length + 1 = l.length + 1
    rw [fvs_len l]
theorem fvs_congr {z : Nat} {f g : Nat → Int32} : ∀ (l : List Nat) (j : Nat), (∀ i, j ≤ i → f i = g i) → fvs z f j l = fvs z g j l
  | [], _, _ => rfl
  | a :: l, j, h => by
    show fv z a (f j) :: fvs z f (j + 1) l = fv z a (g j) :: fvs z g (j + 1) l
    rw [h j (Nat.le_refl _), fvs_congr l (j + 1) (fun i hi => h i (by omega))]
theorem fvs_put {z : Nat} {f : Nat → Int32} {kd : Nat} (x : Int32) : ∀ (l : List Nat) (j k : Nat), l[k]? = some kd → (fvs z f j l).set k (fv z kd x) = fvs z (upd f (j + k) x) j l
  | [], _, _, h => by simp at h
  | a :: l, j, 0, h => by
    rw [List.getElem?_cons_zero] at h
    cases h
    show fv z kd x :: fvs z f (j + 1) l = fv z kd (upd f (j + 0) x j) :: fvs z (upd f (j + 0) x) (j + 1) l
    rw [show upd f (j + 0) x j = x from if_pos rfl, fvs_congr (f := f) (g := upd f (j + 0) x) l (j + 1) (fun i hi => (if_neg (show ¬ i = j + 0 by omega)).symm)]
  | a :: l, j, k + 1, h => by
    rw [List.getElem?_cons_succ] at h
    show fv z a (f j) :: (fvs z f (j + 1) l).set k (fv z kd x) = fv z a (upd f (j + (k + 1)) x j) :: fvs z (upd f (j + (k + 1)) x) (j + 1) l
    rw [fvs_put x l (j + 1) k h, show upd f (j + (k + 1)) x j = f j from if_neg (by omega), show j + 1 + k = j + (k + 1) by omega]
def rfi (z : Nat) (f : Nat → Int32) : Nat → Option Nat := fun j => if f j = 0 then none else some (z + (f j).toNatClampNeg)
def cE (E : Ev) (d : dsc) (f : Nat → Int32) : va_E := match d with
  | .inl o => .inr (o.1, fvs E.1 f 0 o.2)
  | .inr (0, n) => .inl (E.2.2.1.1, n, .inl f)
  | .inr (1, n) => .inl (E.2.2.1.2.1, n, .inl f)
  | .inr (_ + 2, n) => .inl (E.2.2.1.2.2, n, .inr (.inr (.inr (.inr (rfi E.1 f)))))
def wsF (E : Ev) (h : Hp) : Nat → List dsc → va_W
  | _, [] => []
  | i, d :: l => (E.1 + i, cE E d (h i)) :: wsF E h (i + 1) l
def upr (h : Hp) (i : Nat) (f : Nat → Int32) : Hp := fun a => if a = i then f else h a
def up (h : Hp) (i k : Nat) (x : Int32) : Hp := upr h i (upd (h i) k x)
theorem wsF_get {E : Ev} {h : Hp} : ∀ (l : List dsc) (j i : Nat) {d : dsc}, l[i]? = some d → (wsF E h j l)[i]? = some (E.1 + (j + i), cE E d (h (j + i)))
  | [], _, _, _, q => by simp at q
  | a :: l, j, 0, d, q => by
    rw [List.getElem?_cons_zero] at q
    cases q
    rfl
  | a :: l, j, i + 1, d, q => by
    rw [List.getElem?_cons_succ] at q
    have := wsF_get (E := E) (h := h) l (j + 1) i q
    show ((E.1 + j, cE E a (h j)) :: wsF E h (j + 1) l)[i + 1]? = _
    rw [List.getElem?_cons_succ, this, show j + 1 + i = j + (i + 1) by omega]
theorem wsF_inv {E : Ev} {h : Hp} : ∀ (l : List dsc) (j i : Nat) {q : Nat × va_E}, (wsF E h j l)[i]? = some q → q.1 = E.1 + (j + i)
  | [], _, _, _, q => by simp [wsF] at q
  | a :: l, j, 0, d, q => by
    have q : some (E.1 + j, cE E a (h j)) = some d := q
    cases q
    rfl
  | a :: l, j, i + 1, d, q => by
    have q : (wsF E h (j + 1) l)[i]? = some d := by
      have q2 : ((E.1 + j, cE E a (h j)) :: wsF E h (j + 1) l)[i + 1]? = some d := q
      rwa [List.getElem?_cons_succ] at q2
    rw [wsF_inv l (j + 1) i q]
    omega
theorem wsF_congr {E : Ev} {h g : Hp} : ∀ (l : List dsc) (j : Nat), (∀ i, j ≤ i → h i = g i) → wsF E h j l = wsF E g j l
  | [], _, _ => rfl
  | a :: l, j, q => by
    show (E.1 + j, cE E a (h j)) :: wsF E h (j + 1) l = (E.1 + j, cE E a (g j)) :: wsF E g (j + 1) l
    rw [q j (Nat.le_refl _), wsF_congr l (j + 1) (fun i hi => q i (by omega))]
theorem wsF_put {E : Ev} {h : Hp} {d : dsc} (f : Nat → Int32) : ∀ (l : List dsc) (j i : Nat), l[i]? = some d → (wsF E h j l).set i (E.1 + (j + i), cE E d f) = wsF E (upr h (j + i) f) j l
  | [], _, _, q => by simp at q
  | a :: l, j, 0, q => by
    rw [List.getElem?_cons_zero] at q
    cases q
    show (E.1 + (j + 0), cE E d f) :: wsF E h (j + 1) l = (E.1 + j, cE E d (upr h (j + 0) f j)) :: wsF E (upr h (j + 0) f) (j + 1) l
    rw [show upr h (j + 0) f j = f from if_pos rfl, wsF_congr (h := h) (g := upr h (j + 0) f) l (j + 1) (fun i hi => (if_neg (show ¬ i = j + 0 by omega)).symm)]
    rfl
  | a :: l, j, i + 1, q => by
    rw [List.getElem?_cons_succ] at q
    show (E.1 + j, cE E a (h j)) :: (wsF E h (j + 1) l).set i (E.1 + (j + (i + 1)), cE E d f) = (E.1 + j, cE E a (upr h (j + (i + 1)) f j)) :: wsF E (upr h (j + (i + 1)) f) (j + 1) l
    have := wsF_put (E := E) (h := h) (d := d) f l (j + 1) i q
    rw [show j + 1 + i = j + (i + 1) by omega] at this
    rw [this, show upr h (j + (i + 1)) f j = h j from if_neg (by omega)]
theorem wsF_D {E : Ev} {h : Hp} (S : List dsc) : va_D (fun q => E.1 ≤ q) (wsF E h 0 S) := by
  refine ⟨fun i j p q hi hj hpq => ?_, fun k q hk => ?_⟩
  · have a := wsF_inv S 0 i hi
    have b := wsF_inv S 0 j hj
    omega
  · have a := wsF_inv S 0 k hk
    show E.1 ≤ q.1
    omega
/-! statics: six arrays of the class -/
def stN : Nat → String
  | 0 => "HALL_LEAST" | 1 => "HALL_MOST" | 2 => "LORD_LEAST" | 3 => "LORD_MOST" | 4 => "JOKE_LEAST" | _ => "JOKE_MOST"
def stL : Nat → Nat
  | 0 => 2 | 1 => 2 | 2 => 3 | 3 => 3 | 4 => 2 | _ => 2
def stV : Nat → Nat → Int32
  | 0, _ => 0
  | 1, 0 => 5 | 1, _ => 3
  | 2, 1 => 1 | 2, _ => 0
  | 3, 0 => 2 | 3, 1 => 20 | 3, _ => 15
  | 4, 0 => 0 | 4, _ => 1
  | _, 0 => 3 | _, _ => 30
def stI : Nat → Nat
  | 0 => 51 | 1 => 54 | 2 => 64 | 3 => 67 | 4 => 74 | _ => 77
def SZ (E : Ev) (U : State) : Prop := ∀ i, i < 6 → va_Z RX7 (stN i) "[I" (.ref (E.2.2.2 i)) (fun q => E.1 ≤ q) U U.heap ∧ va_T .int (E.2.2.2 i) (stL i) (fun j => .int (stV i j)) (fun q => E.1 ≤ q) U U.heap ∧ va_Nw (.fieldLinkNest RX4 (stI i) RX7 (stN i) "[I" RX7) U
theorem SZ.to {E : Ev} {u U : State} (h : SZ E u) (hvm : u.WarmedH U.vm) (hh : ∀ q : Nat, q < u.heap.size → ¬ E.1 ≤ q → U.heap[q]? = u.heap[q]?) : SZ E U := fun i hi => ⟨((h i hi).1.moved hvm.alike).kept hh, ((h i hi).2.1.moved hvm.alike).kept hh, (h i hi).2.2.warmF hvm⟩
theorem SZ.same {E : Ev} {u U : State} (h : SZ E u) (hvm : u.vm = U.vm) (hh : U.heap = u.heap) : SZ E U := fun i hi => ⟨((h i hi).1.moved (hvm ▸ Vm.Alike.refl u.vm)).kept (fun q _ _ => by rw [hh]), ((h i hi).2.1.moved (hvm ▸ Vm.Alike.refl u.vm)).kept (fun q _ _ => by rw [hh]), (h i hi).2.2.same rfl hvm⟩
def tysE (E : Ev) : List (ClassId × FieldType) := [(E.2.2.1.1, .int), (E.2.2.1.2.1, .boolean), (E.2.2.1.2.2, .object RX1)]
def Rp (E : Ev) (S : List dsc) (h : Hp) (U : State) : Prop := va_K E.2.1 classes (tysE E) U ∧ va_P E.2.1 classes (wsF E h 0 S) U.heap ∧ SZ E U
abbrev Mr : Type := MethodName × ByteArray × Nat × Option FieldType
def rmD (d : Nat) : Room := { frames := d, cells := 0, slots := 0, locals := 40 * d }
abbrev Pst : Type := Option Value → Hp → Prop
def qc (E : Ev) (S : List dsc) (Q : Pst) : Array Value → State → Outcome → State → Prop := fun _ st oc t => (∃ (v : Option Value) (h' : Hp), oc = .returned v ∧ Q v h' ∧ Rp E S h' t) ∧ va_F (fun q => E.1 ≤ q) st t
def Sp (l : Launch) (E : Ev) (S : List dsc) (d : Nat) (M : Mr) (av : List Value) (h : Hp) (Q : Pst) : Prop := Met l M.1 (Cond.code M.1 M.2.1 M.2.2.1 M.2.2.2 :: tblG) (rmD d) (va_Pc av (Rp E S h)) (qc E S Q) 0 0 (fun q => E.1 ≤ q)
/-! locals: the first entry of a place counts -/
def lk : LSt → Nat → Option Value
  | [], _ => none
  | q :: l, i => bif Nat.beq q.1 i then some q.2 else lk l i
theorem lk_cons_ne {q : Nat × Value} {l : LSt} {i : Nat} (h : q.1 ≠ i) : lk (q :: l) i = lk l i := by
  have : Nat.beq q.1 i = false := by
    cases hb : Nat.beq q.1 i with
    | false => rfl
    | true => exact absurd (Nat.eq_of_beq_eq_true hb) h
  simp only [lk, this, cond_false]
theorem lk_cons_eq {i : Nat} {v : Value} {l : LSt} : lk ((i, v) :: l) i = some v := by
  have : Nat.beq i i = true := Nat.beq_refl i
  simp only [lk, this, cond_true]
theorem lk_mem : ∀ {l : LSt} {i : Nat} {v : Value}, lk l i = some v → (i, v) ∈ l
  | [], _, _, h => by cases h
  | q :: l, i, v, h => by
    by_cases e : q.1 = i
    · obtain ⟨a, b⟩ := q
      dsimp only at e
      subst e
      rw [lk_cons_eq] at h
      cases h
      exact List.mem_cons_self
    · rw [lk_cons_ne e] at h
      exact List.mem_cons_of_mem _ (lk_mem h)
def LH (lsA : Array Slot) (nL : Nat) (ls : LSt) : Prop := lsA.size = nL ∧ lv_wf lsA ∧ ∀ (i : Nat) (v : Value), lk ls i = some v → lsA[i]? = some (.val v)
theorem LH.of {lsA : Array Slot} {nL : Nat} {ls : LSt} (h : lv_has lsA nL ls) : LH lsA nL ls := ⟨h.1, h.2.1, fun i v hk => h.2.2 (i, v) (lk_mem hk)⟩
theorem LH.one {lsA : Array Slot} {nL : Nat} {ls : LSt} (h : LH lsA nL ls) {i : Nat} {v : Value} (hk : lk ls i = some v) : lv_has lsA nL [(i, v)] := ⟨h.1, h.2.1, fun q hq => by
  rw [List.mem_singleton.mp hq]
  exact h.2.2 i v hk⟩
theorem LH.nil {lsA : Array Slot} {nL : Nat} {ls : LSt} (h : LH lsA nL ls) : lv_has lsA nL [] := ⟨h.1, h.2.1, fun q hq => by cases hq⟩
def nolong (ls : LSt) (i : Nat) : Bool := match i with
  | 0 => true
  | j + 1 => match lk ls j with
    | some v => v.category == 1
    | none => true
theorem LH.st {lsA lsB : Array Slot} {nL : Nat} {ls : LSt} {i : Nat} {v : Value} (h : LH lsA nL ls) (hi : i < nL) (hc : v.category = 1) (hn : nolong ls i = true) (he : storeLocals lsA i v = some lsB) : LH lsB nL ((i, v) :: ls) := by
  have key : ∀ l : LSt, lv_has lsA nL l → lv_has lsB nL ((i, v) :: l.filter (fun q => !(q.1 == i) && !(q.1 + 1 == i && q.2.category == 2))) := by
    intro l hl
    obtain ⟨l', e, h'⟩ := lv_store1 hl hi hc
    cases he.symm.trans e
    exact h'
  refine ⟨(key [] h.nil).1, (key [] h.nil).2.1, fun j w hj => ?_⟩
  by_cases e : i = j
  · subst e
    rw [lk_cons_eq] at hj
    cases hj
    exact (key [] h.nil).2.2 (i, v) List.mem_cons_self
  · rw [lk_cons_ne e] at hj
    refine (key _ (h.one hj)).2.2 (j, w) (List.mem_cons_of_mem _ (List.mem_filter.mpr ⟨List.mem_cons_self, ?_⟩))
    have e1 : (j == i) = false := by
      rw [beq_eq_false_iff_ne]
      exact fun q => e q.symm
    have e2 : (j + 1 == i && w.category == 2) = false := by
      by_cases g : j + 1 = i
      · subst g
        simp only [nolong, hj] at hn
        have : w.category = 1 := by simpa using hn
        rw [this]
        simp
      · have : (j + 1 == i) = false := by
          rw [beq_eq_false_iff_ne]
          exact g
        rw [this]
        rfl
    simp only [e1, e2, Bool.not_false, Bool.and_self]
def subL : LSt → LSt → Prop
  | [], _ => True
  | q :: l, ls => lk ls q.1 = some q.2 ∧ subL l ls
theorem subL.mem : ∀ {l ls : LSt}, subL l ls → ∀ q ∈ l, lk ls q.1 = some q.2
  | [], _, _, q, hq => by cases hq
  | a :: l, ls, h, q, hq => by
    rcases List.mem_cons.mp hq with rfl | hq
    · exact h.1
    · exact subL.mem h.2 q hq
theorem LH.sub {lsA : Array Slot} {nL : Nat} {ls l : LSt} (h : LH lsA nL ls) (hs : subL l ls) : LH lsA nL l := ⟨h.1, h.2.1, fun i v hk => h.2.2 i v (hs.mem (i, v) (lk_mem hk))⟩
