variable {l : Launch} {E : Ev} {h : Hp}
/-! ===== the law ===== -/
def OkX (X : Cx) (E : Ev) (b L : Nat) (xs : Nat → Int32) : Prop := match X with
  | (p, l, e, R, s, m, args, below, meth, c, Q) => va_X b L xs s s.heap ∧ b < s.heap.size ∧ s.heap.size = E.1
section LAWR
variable {X : Cx} {S : List dsc} {cz : Nat × Nat} {pc : Nat} {ls : LSt} {st : List Value} {own : String} {cc : ByteArray} {nL b L : Nat} {xs : Nat → Int32}
theorem n_slen (C : Ok X E own cc nL) (Y : OkX X E b L xs) (hd : decode cc pc = .ok (.arraylength, 1)) (k : G X E S cz (pc + 1) ls (.int (nI L) :: st) h) : G X E S cz pc ls (.ref b :: st) h := by
  obtain ⟨p, l, e, R, s, m, args, below, meth, c, Q⟩ := X
  obtain ⟨hx, hb, hml, hown, hts, hK, hSZ, hlk⟩ := C
  obtain ⟨hX, hbl, hsz⟩ := Y
  intro H locs lsA hP hS hl
  exact va_slen hx hb hX hbl (by show ¬ E.1 ≤ b; omega) hS hd (k H locs lsA hP hS hl)
theorem n_sld {x : Int32} (j : Nat) (C : Ok X E own cc nL) (Y : OkX X E b L xs) (hd : decode cc pc = .ok (.iaload, 1)) (hx0 : x = nI j) (hj : j < L) (hL : L ≤ 320) (k : G X E S cz (pc + 1) ls (.int (xs j) :: st) h) : G X E S cz pc ls (.int x :: .ref b :: st) h := by
  subst hx0
  obtain ⟨p, l, e, R, s, m, args, below, meth, c, Q⟩ := X
  obtain ⟨hx, hb, hml, hown, hts, hK, hSZ, hlk⟩ := C
  obtain ⟨hX, hbl, hsz⟩ := Y
  intro H locs lsA hP hS hl
  refine va_sld hx hb hX hbl (by show ¬ E.1 ≤ b; omega) hS (vp_in_nI hj (by omega)) hd ?_
  rw [nI_clamp (by omega)]
  exact k H locs lsA hP hS hl
end LAWR
theorem MA_hi {g : Hp} {A : At} (q : MA h A) (e : ∀ a, 49 ≤ a → g a = h a) : MA g A := by
  obtain ⟨a1, ⟨b1, b2⟩, b3, b4, b5, b6, b7, ⟨b8, b9⟩, b10, ⟨b11, b12⟩, b13, b14⟩ := q
  refine ⟨a1, ⟨by rw [e 49 (by omega)]; exact b1, by rw [e 50 (by omega)]; exact b2⟩, by rw [e 49 (by omega)]; exact b3, by rw [e 49 (by omega)]; exact b4, ?_, by rw [e 49 (by omega)]; exact b6, by rw [e 57 (by omega)]; exact b7, ⟨by rw [e 49 (by omega)]; exact b8, by rw [e 61 (by omega)]; exact b9⟩, by rw [e 62 (by omega), e 63 (by omega), e 64 (by omega)]; exact b10, ⟨by rw [e 49 (by omega)]; exact b11, by rw [e 65 (by omega)]; exact b12⟩, by rw [e 49 (by omega)]; exact b13, by rw [e 66 (by omega)]; exact b14⟩
  unfold MH
  rw [e 49 (by omega), e 54 (by omega), e 55 (by omega), e 56 (by omega)]
  exact b5
theorem relB {A A' : At} (q : A' = A ∨ (Ph A ∧ A' = fA A)) (f : At → Int32 × At) (hf : Ph A → Rel (f A) (f (fA A))) : Rel (f A) (f A') := by
  rcases q with rfl | ⟨q1, rfl⟩
  · exact ⟨rfl, Or.inl rfl⟩
  · exact hf q1
def LSl (E : Ev) (b k : Nat) : LSt := [(0, .ref b), (1, .ref (E.1 + 0)), (2, .ref (E.1 + 49)), (3, .int (nI (5 * k)))]
set_option maxHeartbeats 4000000 in
theorem law_c0 {X : Cx} {b L k : Nat} {xs : Nat → Int32} (C : Ok X E RL cL_law 4) (N : OkN X E 0 600000 7302250) (Lx : Ln X l) (hRm : ∀ d1 w, d1 ≤ 40 → w ≤ 40 → Rm X d1 w) (Y : OkX X E b L xs) (hk : 5 * k + 5 ≤ L) (hL : L ≤ 320) (hB : Both h) (K : ∀ g, Both g → G X E SHP (68, 1994) 940 (LSl E b k) [] g) : G X E SHP (68, 1994) 160 (LSl E b k) [] h := by
  obtain ⟨A, A1, hM, hC, hrel⟩ := hB
  refine r_aload_n C dL_law_160 rfl ?_
  refine r_aload_n C dL_law_161 rfl ?_
  refine r_iload_n C dL_law_162 rfl ?_
  refine r_iconst (1) C dL_law_163 rfl ?_
  refine r_iadd C dL_law_164 ?_
  refine n_sld (5 * k + 1) C Y dL_law_165 (nI_add (5 * k) 1) (by omega) hL ?_
  refine n_callV (i := 0) (As := [.int (xs (5 * k + 1))]) (rest := []) C N Lx (hRm _ _ (by decide) (by decide)) dL_law_166 (s7_feed hC) tw_270 m7_feed rfl rfl rfl (Nat.le_of_ble_eq_true rfl) (by decide) (by decide) (fun v g q => ?_)
  obtain ⟨rfl, hC1, fr1⟩ := q
  have hM1 := MA_hi hM fr1
  show G X E SHP (68, 1994) 169 (LSl E b k) [.int (opFeed A1 (xs (5 * k + 1))).1] g
  refine r_aload_n C dL_law_169 rfl ?_
  refine r_aload_n C dL_law_170 rfl ?_
  refine r_iload_n C dL_law_171 rfl ?_
  refine r_iconst (1) C dL_law_172 rfl ?_
  refine r_iadd C dL_law_173 ?_
  refine n_sld (5 * k + 1) C Y dL_law_174 (nI_add (5 * k) 1) (by omega) hL ?_
  refine n_callV (i := 49) (As := [.int (xs (5 * k + 1))]) (rest := [.int (opFeed A1 (xs (5 * k + 1))).1]) C N Lx (hRm _ _ (by decide) (by decide)) dL_law_175 (s8_feedA hM1) tw_786 m8_feed rfl rfl rfl (Nat.le_of_ble_eq_true rfl) (by decide) (by decide) (fun v g2 q => ?_)
  obtain ⟨rfl, hM2, fr2⟩ := q
  have hr := relB hrel (fun A => opFeed A (xs (5 * k + 1))) (fun hP => rl_feed hP)
  show G X E SHP (68, 1994) 178 (LSl E b k) [.int (opFeed A (xs (5 * k + 1))).1, .int (opFeed A1 (xs (5 * k + 1))).1] g2
  refine r_icmp_eq 940 C dL_law_178 (by decide) (fun c_178 => ?_) (fun c_178 => ?_)
  · exact K g2 ⟨_, _, hM2, CA_low hC1 fr2, hr.2⟩
  · exact absurd hr.1 c_178
set_option maxHeartbeats 4000000 in
theorem law_c1 {X : Cx} {b L k : Nat} {xs : Nat → Int32} (C : Ok X E RL cL_law 4) (N : OkN X E 0 600000 7302250) (Lx : Ln X l) (hRm : ∀ d1 w, d1 ≤ 40 → w ≤ 40 → Rm X d1 w) (Y : OkX X E b L xs) (hk : 5 * k + 5 ≤ L) (hL : L ≤ 320) (hB : Both h) (K : ∀ g, Both g → G X E SHP (68, 1994) 940 (LSl E b k) [] g) : G X E SHP (68, 1994) 183 (LSl E b k) [] h := by
  obtain ⟨A, A1, hM, hC, hrel⟩ := hB
  refine r_aload_n C dL_law_183 rfl ?_
  refine n_callV (i := 0) (As := []) (rest := []) C N Lx (hRm _ _ (by decide) (by decide)) dL_law_184 (s7_hall hC) tw_280 m7_hall rfl rfl rfl (Nat.le_of_ble_eq_true rfl) (by decide) (by decide) (fun v g q => ?_)
  obtain ⟨rfl, hC1, fr1⟩ := q
  have hM1 := MA_hi hM fr1
  show G X E SHP (68, 1994) 187 (LSl E b k) [.int (opHall A1).1] g
  refine r_aload_n C dL_law_187 rfl ?_
  refine n_callV (i := 49) (As := []) (rest := [.int (opHall A1).1]) C N Lx (hRm _ _ (by decide) (by decide)) dL_law_188 (s8_hall hM1) tw_795 m8_hall rfl rfl rfl (Nat.le_of_ble_eq_true rfl) (by decide) (by decide) (fun v g2 q => ?_)
  obtain ⟨rfl, hM2, fr2⟩ := q
  have hr := relB hrel (fun A => opHall A) (fun hP => rl_hall hP)
  show G X E SHP (68, 1994) 191 (LSl E b k) [.int (opHall A).1, .int (opHall A1).1] g2
  refine r_icmp_eq 940 C dL_law_191 (by decide) (fun c_191 => ?_) (fun c_191 => ?_)
  · exact K g2 ⟨_, _, hM2, CA_low hC1 fr2, hr.2⟩
  · exact absurd hr.1 c_191
set_option maxHeartbeats 4000000 in
theorem law_c2 {X : Cx} {b L k : Nat} {xs : Nat → Int32} (C : Ok X E RL cL_law 4) (N : OkN X E 0 600000 7302250) (Lx : Ln X l) (hRm : ∀ d1 w, d1 ≤ 40 → w ≤ 40 → Rm X d1 w) (Y : OkX X E b L xs) (hk : 5 * k + 5 ≤ L) (hL : L ≤ 320) (hB : Both h) (K : ∀ g, Both g → G X E SHP (68, 1994) 940 (LSl E b k) [] g) : G X E SHP (68, 1994) 196 (LSl E b k) [] h := by
  obtain ⟨A, A1, hM, hC, hrel⟩ := hB
  refine r_aload_n C dL_law_196 rfl ?_
  refine n_callV (i := 0) (As := []) (rest := []) C N Lx (hRm _ _ (by decide) (by decide)) dL_law_197 (s7_faultA hC) tw_359 m7_fault rfl rfl rfl (Nat.le_of_ble_eq_true rfl) (by decide) (by decide) (fun v g q => ?_)
  obtain ⟨rfl, hC1, fr1⟩ := q
  have hM1 := MA_hi hM fr1
  show G X E SHP (68, 1994) 200 (LSl E b k) [.int ((aF A1, A1)).1] g
  refine r_aload_n C dL_law_200 rfl ?_
  refine n_callV (i := 49) (As := []) (rest := [.int ((aF A1, A1)).1]) C N Lx (hRm _ _ (by decide) (by decide)) dL_law_201 (s8_faultA hM1) tw_835 m8_fault rfl rfl rfl (Nat.le_of_ble_eq_true rfl) (by decide) (by decide) (fun v g2 q => ?_)
  obtain ⟨rfl, hM2, fr2⟩ := q
  have hr := relB hrel (fun A => (aF A, A)) (fun hP => rl_fault hP)
  show G X E SHP (68, 1994) 204 (LSl E b k) [.int ((aF A, A)).1, .int ((aF A1, A1)).1] g2
  refine r_icmp_eq 940 C dL_law_204 (by decide) (fun c_204 => ?_) (fun c_204 => ?_)
  · exact K g2 ⟨_, _, hM2, CA_low hC1 fr2, hr.2⟩
  · exact absurd hr.1 c_204
set_option maxHeartbeats 4000000 in
theorem law_c3 {X : Cx} {b L k : Nat} {xs : Nat → Int32} (C : Ok X E RL cL_law 4) (N : OkN X E 0 600000 7302250) (Lx : Ln X l) (hRm : ∀ d1 w, d1 ≤ 40 → w ≤ 40 → Rm X d1 w) (Y : OkX X E b L xs) (hk : 5 * k + 5 ≤ L) (hL : L ≤ 320) (hB : Both h) (K : ∀ g, Both g → G X E SHP (68, 1994) 940 (LSl E b k) [] g) : G X E SHP (68, 1994) 209 (LSl E b k) [] h := by
  obtain ⟨A, A1, hM, hC, hrel⟩ := hB
  refine r_aload_n C dL_law_209 rfl ?_
  refine r_aload_n C dL_law_210 rfl ?_
  refine r_iload_n C dL_law_211 rfl ?_
  refine r_iconst (1) C dL_law_212 rfl ?_
  refine r_iadd C dL_law_213 ?_
  refine n_sld (5 * k + 1) C Y dL_law_214 (nI_add (5 * k) 1) (by omega) hL ?_
  refine n_callV (i := 0) (As := [.int (xs (5 * k + 1))]) (rest := []) C N Lx (hRm _ _ (by decide) (by decide)) dL_law_215 (s7_told hC) tw_363 m7_told rfl rfl rfl (Nat.le_of_ble_eq_true rfl) (by decide) (by decide) (fun v g q => ?_)
  obtain ⟨rfl, hC1, fr1⟩ := q
  have hM1 := MA_hi hM fr1
  show G X E SHP (68, 1994) 218 (LSl E b k) [.int ((vTold A1 (xs (5 * k + 1)), A1)).1] g
  refine r_aload_n C dL_law_218 rfl ?_
  refine r_aload_n C dL_law_219 rfl ?_
  refine r_iload_n C dL_law_220 rfl ?_
  refine r_iconst (1) C dL_law_221 rfl ?_
  refine r_iadd C dL_law_222 ?_
  refine n_sld (5 * k + 1) C Y dL_law_223 (nI_add (5 * k) 1) (by omega) hL ?_
  refine n_callV (i := 49) (As := [.int (xs (5 * k + 1))]) (rest := [.int ((vTold A1 (xs (5 * k + 1)), A1)).1]) C N Lx (hRm _ _ (by decide) (by decide)) dL_law_224 (s8_toldA hM1) tw_839 m8_told rfl rfl rfl (Nat.le_of_ble_eq_true rfl) (by decide) (by decide) (fun v g2 q => ?_)
  obtain ⟨rfl, hM2, fr2⟩ := q
  have hr := relB hrel (fun A => (vTold A (xs (5 * k + 1)), A)) (fun hP => rl_told hP)
  show G X E SHP (68, 1994) 227 (LSl E b k) [.int ((vTold A (xs (5 * k + 1)), A)).1, .int ((vTold A1 (xs (5 * k + 1)), A1)).1] g2
  refine r_icmp_eq 940 C dL_law_227 (by decide) (fun c_227 => ?_) (fun c_227 => ?_)
  · exact K g2 ⟨_, _, hM2, CA_low hC1 fr2, hr.2⟩
  · exact absurd hr.1 c_227
set_option maxHeartbeats 4000000 in
theorem law_c4 {X : Cx} {b L k : Nat} {xs : Nat → Int32} (C : Ok X E RL cL_law 4) (N : OkN X E 0 600000 7302250) (Lx : Ln X l) (hRm : ∀ d1 w, d1 ≤ 40 → w ≤ 40 → Rm X d1 w) (Y : OkX X E b L xs) (hk : 5 * k + 5 ≤ L) (hL : L ≤ 320) (hB : Both h) (K : ∀ g, Both g → G X E SHP (68, 1994) 940 (LSl E b k) [] g) : G X E SHP (68, 1994) 232 (LSl E b k) [] h := by
  obtain ⟨A, A1, hM, hC, hrel⟩ := hB
  refine r_aload_n C dL_law_232 rfl ?_
  refine r_aload_n C dL_law_233 rfl ?_
  refine r_iload_n C dL_law_234 rfl ?_
  refine r_iconst (1) C dL_law_235 rfl ?_
  refine r_iadd C dL_law_236 ?_
  refine n_sld (5 * k + 1) C Y dL_law_237 (nI_add (5 * k) 1) (by omega) hL ?_
  refine r_aload_n C dL_law_238 rfl ?_
  refine r_iload_n C dL_law_239 rfl ?_
  refine r_iconst (2) C dL_law_240 rfl ?_
  refine r_iadd C dL_law_241 ?_
  refine n_sld (5 * k + 2) C Y dL_law_242 (nI_add (5 * k) 2) (by omega) hL ?_
  refine n_callV (i := 0) (As := [.int (xs (5 * k + 1)), .int (xs (5 * k + 2))]) (rest := []) C N Lx (hRm _ _ (by decide) (by decide)) dL_law_243 (s7_lord hC) tw_381 m7_lord rfl rfl rfl (Nat.le_of_ble_eq_true rfl) (by decide) (by decide) (fun v g q => ?_)
  obtain ⟨rfl, hC1, fr1⟩ := q
  have hM1 := MA_hi hM fr1
  show G X E SHP (68, 1994) 246 (LSl E b k) [.int ((vLord A1 (xs (5 * k + 1)) (xs (5 * k + 2)), A1)).1] g
  refine r_aload_n C dL_law_246 rfl ?_
  refine r_aload_n C dL_law_247 rfl ?_
  refine r_iload_n C dL_law_248 rfl ?_
  refine r_iconst (1) C dL_law_249 rfl ?_
  refine r_iadd C dL_law_250 ?_
  refine n_sld (5 * k + 1) C Y dL_law_251 (nI_add (5 * k) 1) (by omega) hL ?_
  refine r_aload_n C dL_law_252 rfl ?_
  refine r_iload_n C dL_law_253 rfl ?_
  refine r_iconst (2) C dL_law_254 rfl ?_
  refine r_iadd C dL_law_255 ?_
  refine n_sld (5 * k + 2) C Y dL_law_256 (nI_add (5 * k) 2) (by omega) hL ?_
  refine n_callV (i := 49) (As := [.int (xs (5 * k + 1)), .int (xs (5 * k + 2))]) (rest := [.int ((vLord A1 (xs (5 * k + 1)) (xs (5 * k + 2)), A1)).1]) C N Lx (hRm _ _ (by decide) (by decide)) dL_law_257 (s8_lordA hM1) tw_846 m8_lord rfl rfl rfl (Nat.le_of_ble_eq_true rfl) (by decide) (by decide) (fun v g2 q => ?_)
  obtain ⟨rfl, hM2, fr2⟩ := q
  have hr := relB hrel (fun A => (vLord A (xs (5 * k + 1)) (xs (5 * k + 2)), A)) (fun hP => rl_lord hP)
  show G X E SHP (68, 1994) 260 (LSl E b k) [.int ((vLord A (xs (5 * k + 1)) (xs (5 * k + 2)), A)).1, .int ((vLord A1 (xs (5 * k + 1)) (xs (5 * k + 2)), A1)).1] g2
  refine r_icmp_eq 940 C dL_law_260 (by decide) (fun c_260 => ?_) (fun c_260 => ?_)
  · exact K g2 ⟨_, _, hM2, CA_low hC1 fr2, hr.2⟩
  · exact absurd hr.1 c_260
set_option maxHeartbeats 4000000 in
theorem law_c5 {X : Cx} {b L k : Nat} {xs : Nat → Int32} (C : Ok X E RL cL_law 4) (N : OkN X E 0 600000 7302250) (Lx : Ln X l) (hRm : ∀ d1 w, d1 ≤ 40 → w ≤ 40 → Rm X d1 w) (Y : OkX X E b L xs) (hk : 5 * k + 5 ≤ L) (hL : L ≤ 320) (hB : Both h) (K : ∀ g, Both g → G X E SHP (68, 1994) 940 (LSl E b k) [] g) : G X E SHP (68, 1994) 265 (LSl E b k) [] h := by
  obtain ⟨A, A1, hM, hC, hrel⟩ := hB
  refine r_aload_n C dL_law_265 rfl ?_
  refine r_aload_n C dL_law_266 rfl ?_
  refine r_iload_n C dL_law_267 rfl ?_
  refine r_iconst (1) C dL_law_268 rfl ?_
  refine r_iadd C dL_law_269 ?_
  refine n_sld (5 * k + 1) C Y dL_law_270 (nI_add (5 * k) 1) (by omega) hL ?_
  refine r_aload_n C dL_law_271 rfl ?_
  refine r_iload_n C dL_law_272 rfl ?_
  refine r_iconst (2) C dL_law_273 rfl ?_
  refine r_iadd C dL_law_274 ?_
  refine n_sld (5 * k + 2) C Y dL_law_275 (nI_add (5 * k) 2) (by omega) hL ?_
  refine n_callV (i := 0) (As := [.int (xs (5 * k + 1)), .int (xs (5 * k + 2))]) (rest := []) C N Lx (hRm _ _ (by decide) (by decide)) dL_law_276 (s7_joke hC) tw_397 m7_joke rfl rfl rfl (Nat.le_of_ble_eq_true rfl) (by decide) (by decide) (fun v g q => ?_)
  obtain ⟨rfl, hC1, fr1⟩ := q
  have hM1 := MA_hi hM fr1
  show G X E SHP (68, 1994) 279 (LSl E b k) [.int ((vJoke A1 (xs (5 * k + 1)) (xs (5 * k + 2)), A1)).1] g
  refine r_aload_n C dL_law_279 rfl ?_
  refine r_aload_n C dL_law_280 rfl ?_
  refine r_iload_n C dL_law_281 rfl ?_
  refine r_iconst (1) C dL_law_282 rfl ?_
  refine r_iadd C dL_law_283 ?_
  refine n_sld (5 * k + 1) C Y dL_law_284 (nI_add (5 * k) 1) (by omega) hL ?_
  refine r_aload_n C dL_law_285 rfl ?_
  refine r_iload_n C dL_law_286 rfl ?_
  refine r_iconst (2) C dL_law_287 rfl ?_
  refine r_iadd C dL_law_288 ?_
  refine n_sld (5 * k + 2) C Y dL_law_289 (nI_add (5 * k) 2) (by omega) hL ?_
  refine n_callV (i := 49) (As := [.int (xs (5 * k + 1)), .int (xs (5 * k + 2))]) (rest := [.int ((vJoke A1 (xs (5 * k + 1)) (xs (5 * k + 2)), A1)).1]) C N Lx (hRm _ _ (by decide) (by decide)) dL_law_290 (s8_jokeA hM1) tw_859 m8_joke rfl rfl rfl (Nat.le_of_ble_eq_true rfl) (by decide) (by decide) (fun v g2 q => ?_)
  obtain ⟨rfl, hM2, fr2⟩ := q
  have hr := relB hrel (fun A => (vJoke A (xs (5 * k + 1)) (xs (5 * k + 2)), A)) (fun hP => rl_joke hP)
  show G X E SHP (68, 1994) 293 (LSl E b k) [.int ((vJoke A (xs (5 * k + 1)) (xs (5 * k + 2)), A)).1, .int ((vJoke A1 (xs (5 * k + 1)) (xs (5 * k + 2)), A1)).1] g2
  refine r_icmp_eq 940 C dL_law_293 (by decide) (fun c_293 => ?_) (fun c_293 => ?_)
  · exact K g2 ⟨_, _, hM2, CA_low hC1 fr2, hr.2⟩
  · exact absurd hr.1 c_293
set_option maxHeartbeats 4000000 in
theorem law_c6 {X : Cx} {b L k : Nat} {xs : Nat → Int32} (C : Ok X E RL cL_law 4) (N : OkN X E 0 600000 7302250) (Lx : Ln X l) (hRm : ∀ d1 w, d1 ≤ 40 → w ≤ 40 → Rm X d1 w) (Y : OkX X E b L xs) (hk : 5 * k + 5 ≤ L) (hL : L ≤ 320) (hB : Both h) (K : ∀ g, Both g → G X E SHP (68, 1994) 940 (LSl E b k) [] g) : G X E SHP (68, 1994) 298 (LSl E b k) [] h := by
  obtain ⟨A, A1, hM, hC, hrel⟩ := hB
  refine r_aload_n C dL_law_298 rfl ?_
  refine r_aload_n C dL_law_299 rfl ?_
  refine r_iload_n C dL_law_300 rfl ?_
  refine r_iconst (1) C dL_law_301 rfl ?_
  refine r_iadd C dL_law_302 ?_
  refine n_sld (5 * k + 1) C Y dL_law_303 (nI_add (5 * k) 1) (by omega) hL ?_
  refine r_aload_n C dL_law_304 rfl ?_
  refine r_iload_n C dL_law_305 rfl ?_
  refine r_iconst (2) C dL_law_306 rfl ?_
  refine r_iadd C dL_law_307 ?_
  refine n_sld (5 * k + 2) C Y dL_law_308 (nI_add (5 * k) 2) (by omega) hL ?_
  refine r_aload_n C dL_law_309 rfl ?_
  refine r_iload_n C dL_law_310 rfl ?_
  refine r_iconst (3) C dL_law_311 rfl ?_
  refine r_iadd C dL_law_312 ?_
  refine n_sld (5 * k + 3) C Y dL_law_313 (nI_add (5 * k) 3) (by omega) hL ?_
  refine n_callV (i := 0) (As := [.int (xs (5 * k + 1)), .int (xs (5 * k + 2)), .int (xs (5 * k + 3))]) (rest := []) C N Lx (hRm _ _ (by decide) (by decide)) dL_law_314 (s7_tell hC) tw_409 m7_tell rfl rfl rfl (Nat.le_of_ble_eq_true rfl) (by decide) (by decide) (fun v g q => ?_)
  obtain ⟨rfl, hC1, fr1⟩ := q
  have hM1 := MA_hi hM fr1
  show G X E SHP (68, 1994) 317 (LSl E b k) [.int (opTell A1 (xs (5 * k + 1)) (xs (5 * k + 2)) (xs (5 * k + 3))).1] g
  refine r_aload_n C dL_law_317 rfl ?_
  refine r_aload_n C dL_law_318 rfl ?_
  refine r_iload_n C dL_law_319 rfl ?_
  refine r_iconst (1) C dL_law_320 rfl ?_
  refine r_iadd C dL_law_321 ?_
  refine n_sld (5 * k + 1) C Y dL_law_322 (nI_add (5 * k) 1) (by omega) hL ?_
  refine r_aload_n C dL_law_323 rfl ?_
  refine r_iload_n C dL_law_324 rfl ?_
  refine r_iconst (2) C dL_law_325 rfl ?_
  refine r_iadd C dL_law_326 ?_
  refine n_sld (5 * k + 2) C Y dL_law_327 (nI_add (5 * k) 2) (by omega) hL ?_
  refine r_aload_n C dL_law_328 rfl ?_
  refine r_iload_n C dL_law_329 rfl ?_
  refine r_iconst (3) C dL_law_330 rfl ?_
  refine r_iadd C dL_law_331 ?_
  refine n_sld (5 * k + 3) C Y dL_law_332 (nI_add (5 * k) 3) (by omega) hL ?_
  refine n_callV (i := 49) (As := [.int (xs (5 * k + 1)), .int (xs (5 * k + 2)), .int (xs (5 * k + 3))]) (rest := [.int (opTell A1 (xs (5 * k + 1)) (xs (5 * k + 2)) (xs (5 * k + 3))).1]) C N Lx (hRm _ _ (by decide) (by decide)) dL_law_333 (s8_tell hM1) tw_871 m8_tell rfl rfl rfl (Nat.le_of_ble_eq_true rfl) (by decide) (by decide) (fun v g2 q => ?_)
  obtain ⟨rfl, hM2, fr2⟩ := q
  have hr := relB hrel (fun A => opTell A (xs (5 * k + 1)) (xs (5 * k + 2)) (xs (5 * k + 3))) (fun hP => rl_tell hP)
  show G X E SHP (68, 1994) 336 (LSl E b k) [.int (opTell A (xs (5 * k + 1)) (xs (5 * k + 2)) (xs (5 * k + 3))).1, .int (opTell A1 (xs (5 * k + 1)) (xs (5 * k + 2)) (xs (5 * k + 3))).1] g2
  refine r_icmp_eq 940 C dL_law_336 (by decide) (fun c_336 => ?_) (fun c_336 => ?_)
  · exact K g2 ⟨_, _, hM2, CA_low hC1 fr2, hr.2⟩
  · exact absurd hr.1 c_336
set_option maxHeartbeats 4000000 in
theorem law_c7 {X : Cx} {b L k : Nat} {xs : Nat → Int32} (C : Ok X E RL cL_law 4) (N : OkN X E 0 600000 7302250) (Lx : Ln X l) (hRm : ∀ d1 w, d1 ≤ 40 → w ≤ 40 → Rm X d1 w) (Y : OkX X E b L xs) (hk : 5 * k + 5 ≤ L) (hL : L ≤ 320) (hB : Both h) (K : ∀ g, Both g → G X E SHP (68, 1994) 940 (LSl E b k) [] g) : G X E SHP (68, 1994) 341 (LSl E b k) [] h := by
  obtain ⟨A, A1, hM, hC, hrel⟩ := hB
  refine r_aload_n C dL_law_341 rfl ?_
  refine r_aload_n C dL_law_342 rfl ?_
  refine r_iload_n C dL_law_343 rfl ?_
  refine r_iconst (1) C dL_law_344 rfl ?_
  refine r_iadd C dL_law_345 ?_
  refine n_sld (5 * k + 1) C Y dL_law_346 (nI_add (5 * k) 1) (by omega) hL ?_
  refine n_callV (i := 0) (As := [.int (xs (5 * k + 1))]) (rest := []) C N Lx (hRm _ _ (by decide) (by decide)) dL_law_347 (s7_night hC) tw_464 m7_night rfl rfl rfl (Nat.le_of_ble_eq_true rfl) (by decide) (by decide) (fun v g q => ?_)
  obtain ⟨rfl, hC1, fr1⟩ := q
  have hM1 := MA_hi hM fr1
  show G X E SHP (68, 1994) 350 (LSl E b k) [.int (opNight A1 (xs (5 * k + 1))).1] g
  refine r_aload_n C dL_law_350 rfl ?_
  refine r_aload_n C dL_law_351 rfl ?_
  refine r_iload_n C dL_law_352 rfl ?_
  refine r_iconst (1) C dL_law_353 rfl ?_
  refine r_iadd C dL_law_354 ?_
  refine n_sld (5 * k + 1) C Y dL_law_355 (nI_add (5 * k) 1) (by omega) hL ?_
  refine n_callV (i := 49) (As := [.int (xs (5 * k + 1))]) (rest := [.int (opNight A1 (xs (5 * k + 1))).1]) C N Lx (hRm _ _ (by decide) (by decide)) dL_law_356 (s8_night hM1) tw_906 m8_night rfl rfl rfl (Nat.le_of_ble_eq_true rfl) (by decide) (by decide) (fun v g2 q => ?_)
  obtain ⟨rfl, hM2, fr2⟩ := q
  have hr := relB hrel (fun A => opNight A (xs (5 * k + 1))) (fun hP => rl_night hP)
  show G X E SHP (68, 1994) 359 (LSl E b k) [.int (opNight A (xs (5 * k + 1))).1, .int (opNight A1 (xs (5 * k + 1))).1] g2
  refine r_icmp_eq 940 C dL_law_359 (by decide) (fun c_359 => ?_) (fun c_359 => ?_)
  · exact K g2 ⟨_, _, hM2, CA_low hC1 fr2, hr.2⟩
  · exact absurd hr.1 c_359
set_option maxHeartbeats 4000000 in
theorem law_c8 {X : Cx} {b L k : Nat} {xs : Nat → Int32} (C : Ok X E RL cL_law 4) (N : OkN X E 0 600000 7302250) (Lx : Ln X l) (hRm : ∀ d1 w, d1 ≤ 40 → w ≤ 40 → Rm X d1 w) (Y : OkX X E b L xs) (hk : 5 * k + 5 ≤ L) (hL : L ≤ 320) (hB : Both h) (K : ∀ g, Both g → G X E SHP (68, 1994) 940 (LSl E b k) [] g) : G X E SHP (68, 1994) 364 (LSl E b k) [] h := by
  obtain ⟨A, A1, hM, hC, hrel⟩ := hB
  refine r_aload_n C dL_law_364 rfl ?_
  refine r_aload_n C dL_law_365 rfl ?_
  refine r_iload_n C dL_law_366 rfl ?_
  refine r_iconst (1) C dL_law_367 rfl ?_
  refine r_iadd C dL_law_368 ?_
  refine n_sld (5 * k + 1) C Y dL_law_369 (nI_add (5 * k) 1) (by omega) hL ?_
  refine n_callV (i := 0) (As := [.int (xs (5 * k + 1))]) (rest := []) C N Lx (hRm _ _ (by decide) (by decide)) dL_law_370 (s7_drift hC) tw_476 m7_drift rfl rfl rfl (Nat.le_of_ble_eq_true rfl) (by decide) (by decide) (fun v g q => ?_)
  obtain ⟨rfl, hC1, fr1⟩ := q
  have hM1 := MA_hi hM fr1
  show G X E SHP (68, 1994) 373 (LSl E b k) [.int (opDrift A1 (xs (5 * k + 1))).1] g
  refine r_aload_n C dL_law_373 rfl ?_
  refine r_aload_n C dL_law_374 rfl ?_
  refine r_iload_n C dL_law_375 rfl ?_
  refine r_iconst (1) C dL_law_376 rfl ?_
  refine r_iadd C dL_law_377 ?_
  refine n_sld (5 * k + 1) C Y dL_law_378 (nI_add (5 * k) 1) (by omega) hL ?_
  refine n_callV (i := 49) (As := [.int (xs (5 * k + 1))]) (rest := [.int (opDrift A1 (xs (5 * k + 1))).1]) C N Lx (hRm _ _ (by decide) (by decide)) dL_law_379 (s8_drift hM1) tw_914 m8_drift rfl rfl rfl (Nat.le_of_ble_eq_true rfl) (by decide) (by decide) (fun v g2 q => ?_)
  obtain ⟨rfl, hM2, fr2⟩ := q
  have hr := relB hrel (fun A => opDrift A (xs (5 * k + 1))) (fun hP => rl_drift hP)
  show G X E SHP (68, 1994) 382 (LSl E b k) [.int (opDrift A (xs (5 * k + 1))).1, .int (opDrift A1 (xs (5 * k + 1))).1] g2
  refine r_icmp_eq 940 C dL_law_382 (by decide) (fun c_382 => ?_) (fun c_382 => ?_)
  · exact K g2 ⟨_, _, hM2, CA_low hC1 fr2, hr.2⟩
  · exact absurd hr.1 c_382
set_option maxHeartbeats 4000000 in
theorem law_c9 {X : Cx} {b L k : Nat} {xs : Nat → Int32} (C : Ok X E RL cL_law 4) (N : OkN X E 0 600000 7302250) (Lx : Ln X l) (hRm : ∀ d1 w, d1 ≤ 40 → w ≤ 40 → Rm X d1 w) (Y : OkX X E b L xs) (hk : 5 * k + 5 ≤ L) (hL : L ≤ 320) (hB : Both h) (K : ∀ g, Both g → G X E SHP (68, 1994) 940 (LSl E b k) [] g) : G X E SHP (68, 1994) 387 (LSl E b k) [] h := by
  obtain ⟨A, A1, hM, hC, hrel⟩ := hB
  refine r_aload_n C dL_law_387 rfl ?_
  refine r_aload_n C dL_law_388 rfl ?_
  refine r_iload_n C dL_law_389 rfl ?_
  refine r_iconst (1) C dL_law_390 rfl ?_
  refine r_iadd C dL_law_391 ?_
  refine n_sld (5 * k + 1) C Y dL_law_392 (nI_add (5 * k) 1) (by omega) hL ?_
  refine n_callV (i := 0) (As := [.int (xs (5 * k + 1))]) (rest := []) C N Lx (hRm _ _ (by decide) (by decide)) dL_law_393 (s7_undo hC) tw_499 m7_undo rfl rfl rfl (Nat.le_of_ble_eq_true rfl) (by decide) (by decide) (fun v g q => ?_)
  obtain ⟨rfl, hC1, fr1⟩ := q
  have hM1 := MA_hi hM fr1
  show G X E SHP (68, 1994) 396 (LSl E b k) [.int (opUndo A1 (xs (5 * k + 1))).1] g
  refine r_aload_n C dL_law_396 rfl ?_
  refine r_aload_n C dL_law_397 rfl ?_
  refine r_iload_n C dL_law_398 rfl ?_
  refine r_iconst (1) C dL_law_399 rfl ?_
  refine r_iadd C dL_law_400 ?_
  refine n_sld (5 * k + 1) C Y dL_law_401 (nI_add (5 * k) 1) (by omega) hL ?_
  refine n_callV (i := 49) (As := [.int (xs (5 * k + 1))]) (rest := [.int (opUndo A1 (xs (5 * k + 1))).1]) C N Lx (hRm _ _ (by decide) (by decide)) dL_law_402 (s8_undo hM1) tw_932 m8_undo rfl rfl rfl (Nat.le_of_ble_eq_true rfl) (by decide) (by decide) (fun v g2 q => ?_)
  obtain ⟨rfl, hM2, fr2⟩ := q
  have hr := relB hrel (fun A => opUndo A (xs (5 * k + 1))) (fun hP => rl_undo hP)
  show G X E SHP (68, 1994) 405 (LSl E b k) [.int (opUndo A (xs (5 * k + 1))).1, .int (opUndo A1 (xs (5 * k + 1))).1] g2
  refine r_icmp_eq 940 C dL_law_405 (by decide) (fun c_405 => ?_) (fun c_405 => ?_)
  · exact K g2 ⟨_, _, hM2, CA_low hC1 fr2, hr.2⟩
  · exact absurd hr.1 c_405
set_option maxHeartbeats 4000000 in
theorem law_c10 {X : Cx} {b L k : Nat} {xs : Nat → Int32} (C : Ok X E RL cL_law 4) (N : OkN X E 0 600000 7302250) (Lx : Ln X l) (hRm : ∀ d1 w, d1 ≤ 40 → w ≤ 40 → Rm X d1 w) (Y : OkX X E b L xs) (hk : 5 * k + 5 ≤ L) (hL : L ≤ 320) (hB : Both h) (K : ∀ g, Both g → G X E SHP (68, 1994) 940 (LSl E b k) [] g) : G X E SHP (68, 1994) 410 (LSl E b k) [] h := by
  obtain ⟨A, A1, hM, hC, hrel⟩ := hB
  refine r_aload_n C dL_law_410 rfl ?_
  refine r_aload_n C dL_law_411 rfl ?_
  refine r_iload_n C dL_law_412 rfl ?_
  refine r_iconst (1) C dL_law_413 rfl ?_
  refine r_iadd C dL_law_414 ?_
  refine n_sld (5 * k + 1) C Y dL_law_415 (nI_add (5 * k) 1) (by omega) hL ?_
  refine r_aload_n C dL_law_416 rfl ?_
  refine r_iload_n C dL_law_417 rfl ?_
  refine r_iconst (2) C dL_law_418 rfl ?_
  refine r_iadd C dL_law_419 ?_
  refine n_sld (5 * k + 2) C Y dL_law_420 (nI_add (5 * k) 2) (by omega) hL ?_
  refine r_aload_n C dL_law_421 rfl ?_
  refine r_iload_n C dL_law_422 rfl ?_
  refine r_iconst (3) C dL_law_423 rfl ?_
  refine r_iadd C dL_law_424 ?_
  refine n_sld (5 * k + 3) C Y dL_law_425 (nI_add (5 * k) 3) (by omega) hL ?_
  refine n_callV (i := 0) (As := [.int (xs (5 * k + 1)), .int (xs (5 * k + 2)), .int (xs (5 * k + 3))]) (rest := []) C N Lx (hRm _ _ (by decide) (by decide)) dL_law_426 (s7_falls hC) tw_511 m7_falls rfl rfl rfl (Nat.le_of_ble_eq_true rfl) (by decide) (by decide) (fun v g q => ?_)
  obtain ⟨rfl, hC1, fr1⟩ := q
  have hM1 := MA_hi hM fr1
  show G X E SHP (68, 1994) 429 (LSl E b k) [.int ((vFalls A1 (xs (5 * k + 1)) (xs (5 * k + 2)) (xs (5 * k + 3)), A1)).1] g
  refine r_aload_n C dL_law_429 rfl ?_
  refine r_aload_n C dL_law_430 rfl ?_
  refine r_iload_n C dL_law_431 rfl ?_
  refine r_iconst (1) C dL_law_432 rfl ?_
  refine r_iadd C dL_law_433 ?_
  refine n_sld (5 * k + 1) C Y dL_law_434 (nI_add (5 * k) 1) (by omega) hL ?_
  refine r_aload_n C dL_law_435 rfl ?_
  refine r_iload_n C dL_law_436 rfl ?_
  refine r_iconst (2) C dL_law_437 rfl ?_
  refine r_iadd C dL_law_438 ?_
  refine n_sld (5 * k + 2) C Y dL_law_439 (nI_add (5 * k) 2) (by omega) hL ?_
  refine r_aload_n C dL_law_440 rfl ?_
  refine r_iload_n C dL_law_441 rfl ?_
  refine r_iconst (3) C dL_law_442 rfl ?_
  refine r_iadd C dL_law_443 ?_
  refine n_sld (5 * k + 3) C Y dL_law_444 (nI_add (5 * k) 3) (by omega) hL ?_
  refine n_callV (i := 49) (As := [.int (xs (5 * k + 1)), .int (xs (5 * k + 2)), .int (xs (5 * k + 3))]) (rest := [.int ((vFalls A1 (xs (5 * k + 1)) (xs (5 * k + 2)) (xs (5 * k + 3)), A1)).1]) C N Lx (hRm _ _ (by decide) (by decide)) dL_law_445 (s8_falls hM1) tw_936 m8_falls rfl rfl rfl (Nat.le_of_ble_eq_true rfl) (by decide) (by decide) (fun v g2 q => ?_)
  obtain ⟨rfl, hM2, fr2⟩ := q
  have hr := relB hrel (fun A => (vFalls A (xs (5 * k + 1)) (xs (5 * k + 2)) (xs (5 * k + 3)), A)) (fun hP => rl_falls hP)
  show G X E SHP (68, 1994) 448 (LSl E b k) [.int ((vFalls A (xs (5 * k + 1)) (xs (5 * k + 2)) (xs (5 * k + 3)), A)).1, .int ((vFalls A1 (xs (5 * k + 1)) (xs (5 * k + 2)) (xs (5 * k + 3)), A1)).1] g2
  refine r_icmp_eq 940 C dL_law_448 (by decide) (fun c_448 => ?_) (fun c_448 => ?_)
  · exact K g2 ⟨_, _, hM2, CA_low hC1 fr2, hr.2⟩
  · exact absurd hr.1 c_448
set_option maxHeartbeats 4000000 in
theorem law_c11 {X : Cx} {b L k : Nat} {xs : Nat → Int32} (C : Ok X E RL cL_law 4) (N : OkN X E 0 600000 7302250) (Lx : Ln X l) (hRm : ∀ d1 w, d1 ≤ 40 → w ≤ 40 → Rm X d1 w) (Y : OkX X E b L xs) (hk : 5 * k + 5 ≤ L) (hL : L ≤ 320) (hB : Both h) (K : ∀ g, Both g → G X E SHP (68, 1994) 940 (LSl E b k) [] g) : G X E SHP (68, 1994) 453 (LSl E b k) [] h := by
  obtain ⟨A, A1, hM, hC, hrel⟩ := hB
  refine r_aload_n C dL_law_453 rfl ?_
  refine r_aload_n C dL_law_454 rfl ?_
  refine r_iload_n C dL_law_455 rfl ?_
  refine r_iconst (1) C dL_law_456 rfl ?_
  refine r_iadd C dL_law_457 ?_
  refine n_sld (5 * k + 1) C Y dL_law_458 (nI_add (5 * k) 1) (by omega) hL ?_
  refine r_aload_n C dL_law_459 rfl ?_
  refine r_iload_n C dL_law_460 rfl ?_
  refine r_iconst (2) C dL_law_461 rfl ?_
  refine r_iadd C dL_law_462 ?_
  refine n_sld (5 * k + 2) C Y dL_law_463 (nI_add (5 * k) 2) (by omega) hL ?_
  refine n_callV (i := 0) (As := [.int (xs (5 * k + 1)), .int (xs (5 * k + 2))]) (rest := []) C N Lx (hRm _ _ (by decide) (by decide)) dL_law_464 (s7_alone hC) tw_515 m7_alone rfl rfl rfl (Nat.le_of_ble_eq_true rfl) (by decide) (by decide) (fun v g q => ?_)
  obtain ⟨rfl, hC1, fr1⟩ := q
  have hM1 := MA_hi hM fr1
  show G X E SHP (68, 1994) 467 (LSl E b k) [.int ((vAlone A1 (xs (5 * k + 1)) (xs (5 * k + 2)), A1)).1] g
  refine r_aload_n C dL_law_467 rfl ?_
  refine r_aload_n C dL_law_468 rfl ?_
  refine r_iload_n C dL_law_469 rfl ?_
  refine r_iconst (1) C dL_law_470 rfl ?_
  refine r_iadd C dL_law_471 ?_
  refine n_sld (5 * k + 1) C Y dL_law_472 (nI_add (5 * k) 1) (by omega) hL ?_
  refine r_aload_n C dL_law_473 rfl ?_
  refine r_iload_n C dL_law_474 rfl ?_
  refine r_iconst (2) C dL_law_475 rfl ?_
  refine r_iadd C dL_law_476 ?_
  refine n_sld (5 * k + 2) C Y dL_law_477 (nI_add (5 * k) 2) (by omega) hL ?_
  refine n_callV (i := 49) (As := [.int (xs (5 * k + 1)), .int (xs (5 * k + 2))]) (rest := [.int ((vAlone A1 (xs (5 * k + 1)) (xs (5 * k + 2)), A1)).1]) C N Lx (hRm _ _ (by decide) (by decide)) dL_law_478 (s8_alone hM1) tw_940 m8_alone rfl rfl rfl (Nat.le_of_ble_eq_true rfl) (by decide) (by decide) (fun v g2 q => ?_)
  obtain ⟨rfl, hM2, fr2⟩ := q
  have hr := relB hrel (fun A => (vAlone A (xs (5 * k + 1)) (xs (5 * k + 2)), A)) (fun hP => rl_alone hP)
  show G X E SHP (68, 1994) 481 (LSl E b k) [.int ((vAlone A (xs (5 * k + 1)) (xs (5 * k + 2)), A)).1, .int ((vAlone A1 (xs (5 * k + 1)) (xs (5 * k + 2)), A1)).1] g2
  refine r_icmp_eq 940 C dL_law_481 (by decide) (fun c_481 => ?_) (fun c_481 => ?_)
  · exact K g2 ⟨_, _, hM2, CA_low hC1 fr2, hr.2⟩
  · exact absurd hr.1 c_481
set_option maxHeartbeats 4000000 in
theorem law_c12 {X : Cx} {b L k : Nat} {xs : Nat → Int32} (C : Ok X E RL cL_law 4) (N : OkN X E 0 600000 7302250) (Lx : Ln X l) (hRm : ∀ d1 w, d1 ≤ 40 → w ≤ 40 → Rm X d1 w) (Y : OkX X E b L xs) (hk : 5 * k + 5 ≤ L) (hL : L ≤ 320) (hB : Both h) (K : ∀ g, Both g → G X E SHP (68, 1994) 940 (LSl E b k) [] g) : G X E SHP (68, 1994) 486 (LSl E b k) [] h := by
  obtain ⟨A, A1, hM, hC, hrel⟩ := hB
  refine r_aload_n C dL_law_486 rfl ?_
  refine r_aload_n C dL_law_487 rfl ?_
  refine r_iload_n C dL_law_488 rfl ?_
  refine r_iconst (1) C dL_law_489 rfl ?_
  refine r_iadd C dL_law_490 ?_
  refine n_sld (5 * k + 1) C Y dL_law_491 (nI_add (5 * k) 1) (by omega) hL ?_
  refine r_aload_n C dL_law_492 rfl ?_
  refine r_iload_n C dL_law_493 rfl ?_
  refine r_iconst (2) C dL_law_494 rfl ?_
  refine r_iadd C dL_law_495 ?_
  refine n_sld (5 * k + 2) C Y dL_law_496 (nI_add (5 * k) 2) (by omega) hL ?_
  refine r_aload_n C dL_law_497 rfl ?_
  refine r_iload_n C dL_law_498 rfl ?_
  refine r_iconst (3) C dL_law_499 rfl ?_
  refine r_iadd C dL_law_500 ?_
  refine n_sld (5 * k + 3) C Y dL_law_501 (nI_add (5 * k) 3) (by omega) hL ?_
  refine r_aload_n C dL_law_502 rfl ?_
  refine r_iload_n C dL_law_503 rfl ?_
  refine r_iconst (4) C dL_law_504 rfl ?_
  refine r_iadd C dL_law_505 ?_
  refine n_sld (5 * k + 4) C Y dL_law_506 (nI_add (5 * k) 4) (by omega) hL ?_
  refine n_callV (i := 0) (As := [.int (xs (5 * k + 1)), .int (xs (5 * k + 2)), .int (xs (5 * k + 3)), .int (xs (5 * k + 4))]) (rest := []) C N Lx (hRm _ _ (by decide) (by decide)) dL_law_507 (s7_duel hC) tw_532 m7_duel rfl rfl rfl (Nat.le_of_ble_eq_true rfl) (by decide) (by decide) (fun v g q => ?_)
  obtain ⟨rfl, hC1, fr1⟩ := q
  have hM1 := MA_hi hM fr1
  show G X E SHP (68, 1994) 510 (LSl E b k) [.int ((vDuel A1 (xs (5 * k + 1)) (xs (5 * k + 2)) (xs (5 * k + 3)) (xs (5 * k + 4)), A1)).1] g
  refine r_aload_n C dL_law_510 rfl ?_
  refine r_aload_n C dL_law_511 rfl ?_
  refine r_iload_n C dL_law_512 rfl ?_
  refine r_iconst (1) C dL_law_513 rfl ?_
  refine r_iadd C dL_law_514 ?_
  refine n_sld (5 * k + 1) C Y dL_law_515 (nI_add (5 * k) 1) (by omega) hL ?_
  refine r_aload_n C dL_law_516 rfl ?_
  refine r_iload_n C dL_law_517 rfl ?_
  refine r_iconst (2) C dL_law_518 rfl ?_
  refine r_iadd C dL_law_519 ?_
  refine n_sld (5 * k + 2) C Y dL_law_520 (nI_add (5 * k) 2) (by omega) hL ?_
  refine r_aload_n C dL_law_521 rfl ?_
  refine r_iload_n C dL_law_522 rfl ?_
  refine r_iconst (3) C dL_law_523 rfl ?_
  refine r_iadd C dL_law_524 ?_
  refine n_sld (5 * k + 3) C Y dL_law_525 (nI_add (5 * k) 3) (by omega) hL ?_
  refine r_aload_n C dL_law_526 rfl ?_
  refine r_iload_n C dL_law_527 rfl ?_
  refine r_iconst (4) C dL_law_528 rfl ?_
  refine r_iadd C dL_law_529 ?_
  refine n_sld (5 * k + 4) C Y dL_law_530 (nI_add (5 * k) 4) (by omega) hL ?_
  refine n_callV (i := 49) (As := [.int (xs (5 * k + 1)), .int (xs (5 * k + 2)), .int (xs (5 * k + 3)), .int (xs (5 * k + 4))]) (rest := [.int ((vDuel A1 (xs (5 * k + 1)) (xs (5 * k + 2)) (xs (5 * k + 3)) (xs (5 * k + 4)), A1)).1]) C N Lx (hRm _ _ (by decide) (by decide)) dL_law_531 (s8_duel hM1) tw_952 m8_duel rfl rfl rfl (Nat.le_of_ble_eq_true rfl) (by decide) (by decide) (fun v g2 q => ?_)
  obtain ⟨rfl, hM2, fr2⟩ := q
  have hr := relB hrel (fun A => (vDuel A (xs (5 * k + 1)) (xs (5 * k + 2)) (xs (5 * k + 3)) (xs (5 * k + 4)), A)) (fun hP => rl_duel hP)
  show G X E SHP (68, 1994) 534 (LSl E b k) [.int ((vDuel A (xs (5 * k + 1)) (xs (5 * k + 2)) (xs (5 * k + 3)) (xs (5 * k + 4)), A)).1, .int ((vDuel A1 (xs (5 * k + 1)) (xs (5 * k + 2)) (xs (5 * k + 3)) (xs (5 * k + 4)), A1)).1] g2
  refine r_icmp_eq 940 C dL_law_534 (by decide) (fun c_534 => ?_) (fun c_534 => ?_)
  · exact K g2 ⟨_, _, hM2, CA_low hC1 fr2, hr.2⟩
  · exact absurd hr.1 c_534
set_option maxHeartbeats 4000000 in
theorem law_c13 {X : Cx} {b L k : Nat} {xs : Nat → Int32} (C : Ok X E RL cL_law 4) (N : OkN X E 0 600000 7302250) (Lx : Ln X l) (hRm : ∀ d1 w, d1 ≤ 40 → w ≤ 40 → Rm X d1 w) (Y : OkX X E b L xs) (hk : 5 * k + 5 ≤ L) (hL : L ≤ 320) (hB : Both h) (K : ∀ g, Both g → G X E SHP (68, 1994) 940 (LSl E b k) [] g) : G X E SHP (68, 1994) 539 (LSl E b k) [] h := by
  obtain ⟨A, A1, hM, hC, hrel⟩ := hB
  refine r_aload_n C dL_law_539 rfl ?_
  refine n_callV (i := 0) (As := []) (rest := []) C N Lx (hRm _ _ (by decide) (by decide)) dL_law_540 (s7_safe hC) tw_544 m7_safe rfl rfl rfl (Nat.le_of_ble_eq_true rfl) (by decide) (by decide) (fun v g q => ?_)
  obtain ⟨rfl, hC1, fr1⟩ := q
  have hM1 := MA_hi hM fr1
  show G X E SHP (68, 1994) 543 (LSl E b k) [.int ((vSafe A1, A1)).1] g
  refine r_aload_n C dL_law_543 rfl ?_
  refine n_callV (i := 49) (As := []) (rest := [.int ((vSafe A1, A1)).1]) C N Lx (hRm _ _ (by decide) (by decide)) dL_law_544 (s8_safe hM1) tw_964 m8_safe rfl rfl rfl (Nat.le_of_ble_eq_true rfl) (by decide) (by decide) (fun v g2 q => ?_)
  obtain ⟨rfl, hM2, fr2⟩ := q
  have hr := relB hrel (fun A => (vSafe A, A)) (fun hP => rl_safe hP)
  show G X E SHP (68, 1994) 547 (LSl E b k) [.int ((vSafe A, A)).1, .int ((vSafe A1, A1)).1] g2
  refine r_icmp_eq 940 C dL_law_547 (by decide) (fun c_547 => ?_) (fun c_547 => ?_)
  · exact K g2 ⟨_, _, hM2, CA_low hC1 fr2, hr.2⟩
  · exact absurd hr.1 c_547
set_option maxHeartbeats 4000000 in
theorem law_c14 {X : Cx} {b L k : Nat} {xs : Nat → Int32} (C : Ok X E RL cL_law 4) (N : OkN X E 0 600000 7302250) (Lx : Ln X l) (hRm : ∀ d1 w, d1 ≤ 40 → w ≤ 40 → Rm X d1 w) (Y : OkX X E b L xs) (hk : 5 * k + 5 ≤ L) (hL : L ≤ 320) (hB : Both h) (K : ∀ g, Both g → G X E SHP (68, 1994) 940 (LSl E b k) [] g) : G X E SHP (68, 1994) 552 (LSl E b k) [] h := by
  obtain ⟨A, A1, hM, hC, hrel⟩ := hB
  refine r_aload_n C dL_law_552 rfl ?_
  refine r_aload_n C dL_law_553 rfl ?_
  refine r_iload_n C dL_law_554 rfl ?_
  refine r_iconst (1) C dL_law_555 rfl ?_
  refine r_iadd C dL_law_556 ?_
  refine n_sld (5 * k + 1) C Y dL_law_557 (nI_add (5 * k) 1) (by omega) hL ?_
  refine n_callV (i := 0) (As := [.int (xs (5 * k + 1))]) (rest := []) C N Lx (hRm _ _ (by decide) (by decide)) dL_law_558 (s7_draws hC) tw_556 m7_draws rfl rfl rfl (Nat.le_of_ble_eq_true rfl) (by decide) (by decide) (fun v g q => ?_)
  obtain ⟨rfl, hC1, fr1⟩ := q
  have hM1 := MA_hi hM fr1
  show G X E SHP (68, 1994) 561 (LSl E b k) [.int ((vDraws A1 (xs (5 * k + 1)), A1)).1] g
  refine r_aload_n C dL_law_561 rfl ?_
  refine r_aload_n C dL_law_562 rfl ?_
  refine r_iload_n C dL_law_563 rfl ?_
  refine r_iconst (1) C dL_law_564 rfl ?_
  refine r_iadd C dL_law_565 ?_
  refine n_sld (5 * k + 1) C Y dL_law_566 (nI_add (5 * k) 1) (by omega) hL ?_
  refine n_callV (i := 49) (As := [.int (xs (5 * k + 1))]) (rest := [.int ((vDraws A1 (xs (5 * k + 1)), A1)).1]) C N Lx (hRm _ _ (by decide) (by decide)) dL_law_567 (s8_draws hM1) tw_968 m8_draws rfl rfl rfl (Nat.le_of_ble_eq_true rfl) (by decide) (by decide) (fun v g2 q => ?_)
  obtain ⟨rfl, hM2, fr2⟩ := q
  have hr := relB hrel (fun A => (vDraws A (xs (5 * k + 1)), A)) (fun hP => rl_draws hP)
  show G X E SHP (68, 1994) 570 (LSl E b k) [.int ((vDraws A (xs (5 * k + 1)), A)).1, .int ((vDraws A1 (xs (5 * k + 1)), A1)).1] g2
  refine r_icmp_eq 940 C dL_law_570 (by decide) (fun c_570 => ?_) (fun c_570 => ?_)
  · exact K g2 ⟨_, _, hM2, CA_low hC1 fr2, hr.2⟩
  · exact absurd hr.1 c_570
set_option maxHeartbeats 4000000 in
theorem law_c15 {X : Cx} {b L k : Nat} {xs : Nat → Int32} (C : Ok X E RL cL_law 4) (N : OkN X E 0 600000 7302250) (Lx : Ln X l) (hRm : ∀ d1 w, d1 ≤ 40 → w ≤ 40 → Rm X d1 w) (Y : OkX X E b L xs) (hk : 5 * k + 5 ≤ L) (hL : L ≤ 320) (hB : Both h) (K : ∀ g, Both g → G X E SHP (68, 1994) 940 (LSl E b k) [] g) : G X E SHP (68, 1994) 575 (LSl E b k) [] h := by
  obtain ⟨A, A1, hM, hC, hrel⟩ := hB
  refine r_aload_n C dL_law_575 rfl ?_
  refine r_aload_n C dL_law_576 rfl ?_
  refine r_iload_n C dL_law_577 rfl ?_
  refine r_iconst (1) C dL_law_578 rfl ?_
  refine r_iadd C dL_law_579 ?_
  refine n_sld (5 * k + 1) C Y dL_law_580 (nI_add (5 * k) 1) (by omega) hL ?_
  refine n_callV (i := 0) (As := [.int (xs (5 * k + 1))]) (rest := []) C N Lx (hRm _ _ (by decide) (by decide)) dL_law_581 (s7_cover hC) tw_561 m7_cover rfl rfl rfl (Nat.le_of_ble_eq_true rfl) (by decide) (by decide) (fun v g q => ?_)
  obtain ⟨rfl, hC1, fr1⟩ := q
  have hM1 := MA_hi hM fr1
  show G X E SHP (68, 1994) 584 (LSl E b k) [.int ((vCover A1 (xs (5 * k + 1)), A1)).1] g
  refine r_aload_n C dL_law_584 rfl ?_
  refine r_aload_n C dL_law_585 rfl ?_
  refine r_iload_n C dL_law_586 rfl ?_
  refine r_iconst (1) C dL_law_587 rfl ?_
  refine r_iadd C dL_law_588 ?_
  refine n_sld (5 * k + 1) C Y dL_law_589 (nI_add (5 * k) 1) (by omega) hL ?_
  refine n_callV (i := 49) (As := [.int (xs (5 * k + 1))]) (rest := [.int ((vCover A1 (xs (5 * k + 1)), A1)).1]) C N Lx (hRm _ _ (by decide) (by decide)) dL_law_590 (s8_cover hM1) tw_972 m8_cover rfl rfl rfl (Nat.le_of_ble_eq_true rfl) (by decide) (by decide) (fun v g2 q => ?_)
  obtain ⟨rfl, hM2, fr2⟩ := q
  have hr := relB hrel (fun A => (vCover A (xs (5 * k + 1)), A)) (fun hP => rl_cover hP)
  show G X E SHP (68, 1994) 593 (LSl E b k) [.int ((vCover A (xs (5 * k + 1)), A)).1, .int ((vCover A1 (xs (5 * k + 1)), A1)).1] g2
  refine r_icmp_eq 940 C dL_law_593 (by decide) (fun c_593 => ?_) (fun c_593 => ?_)
  · exact K g2 ⟨_, _, hM2, CA_low hC1 fr2, hr.2⟩
  · exact absurd hr.1 c_593
set_option maxHeartbeats 4000000 in
theorem law_c16 {X : Cx} {b L k : Nat} {xs : Nat → Int32} (C : Ok X E RL cL_law 4) (N : OkN X E 0 600000 7302250) (Lx : Ln X l) (hRm : ∀ d1 w, d1 ≤ 40 → w ≤ 40 → Rm X d1 w) (Y : OkX X E b L xs) (hk : 5 * k + 5 ≤ L) (hL : L ≤ 320) (hB : Both h) (K : ∀ g, Both g → G X E SHP (68, 1994) 940 (LSl E b k) [] g) : G X E SHP (68, 1994) 598 (LSl E b k) [] h := by
  obtain ⟨A, A1, hM, hC, hrel⟩ := hB
  refine r_aload_n C dL_law_598 rfl ?_
  refine r_aload_n C dL_law_599 rfl ?_
  refine r_iload_n C dL_law_600 rfl ?_
  refine r_iconst (1) C dL_law_601 rfl ?_
  refine r_iadd C dL_law_602 ?_
  refine n_sld (5 * k + 1) C Y dL_law_603 (nI_add (5 * k) 1) (by omega) hL ?_
  refine r_aload_n C dL_law_604 rfl ?_
  refine r_iload_n C dL_law_605 rfl ?_
  refine r_iconst (2) C dL_law_606 rfl ?_
  refine r_iadd C dL_law_607 ?_
  refine n_sld (5 * k + 2) C Y dL_law_608 (nI_add (5 * k) 2) (by omega) hL ?_
  refine r_aload_n C dL_law_609 rfl ?_
  refine r_iload_n C dL_law_610 rfl ?_
  refine r_iconst (3) C dL_law_611 rfl ?_
  refine r_iadd C dL_law_612 ?_
  refine n_sld (5 * k + 3) C Y dL_law_613 (nI_add (5 * k) 3) (by omega) hL ?_
  refine n_callV (i := 0) (As := [.int (xs (5 * k + 1)), .int (xs (5 * k + 2)), .int (xs (5 * k + 3))]) (rest := []) C N Lx (hRm _ _ (by decide) (by decide)) dL_law_614 (s7_toldBy hC) tw_574 m7_toldBy rfl rfl rfl (Nat.le_of_ble_eq_true rfl) (by decide) (by decide) (fun v g q => ?_)
  obtain ⟨rfl, hC1, fr1⟩ := q
  have hM1 := MA_hi hM fr1
  show G X E SHP (68, 1994) 617 (LSl E b k) [.int ((vToldBy A1 (xs (5 * k + 1)) (xs (5 * k + 2)) (xs (5 * k + 3)), A1)).1] g
  refine r_aload_n C dL_law_617 rfl ?_
  refine r_aload_n C dL_law_618 rfl ?_
  refine r_iload_n C dL_law_619 rfl ?_
  refine r_iconst (1) C dL_law_620 rfl ?_
  refine r_iadd C dL_law_621 ?_
  refine n_sld (5 * k + 1) C Y dL_law_622 (nI_add (5 * k) 1) (by omega) hL ?_
  refine r_aload_n C dL_law_623 rfl ?_
  refine r_iload_n C dL_law_624 rfl ?_
  refine r_iconst (2) C dL_law_625 rfl ?_
  refine r_iadd C dL_law_626 ?_
  refine n_sld (5 * k + 2) C Y dL_law_627 (nI_add (5 * k) 2) (by omega) hL ?_
  refine r_aload_n C dL_law_628 rfl ?_
  refine r_iload_n C dL_law_629 rfl ?_
  refine r_iconst (3) C dL_law_630 rfl ?_
  refine r_iadd C dL_law_631 ?_
  refine n_sld (5 * k + 3) C Y dL_law_632 (nI_add (5 * k) 3) (by omega) hL ?_
  refine n_callV (i := 49) (As := [.int (xs (5 * k + 1)), .int (xs (5 * k + 2)), .int (xs (5 * k + 3))]) (rest := [.int ((vToldBy A1 (xs (5 * k + 1)) (xs (5 * k + 2)) (xs (5 * k + 3)), A1)).1]) C N Lx (hRm _ _ (by decide) (by decide)) dL_law_633 (s8_toldBy hM1) tw_976 m8_toldBy rfl rfl rfl (Nat.le_of_ble_eq_true rfl) (by decide) (by decide) (fun v g2 q => ?_)
  obtain ⟨rfl, hM2, fr2⟩ := q
  have hr := relB hrel (fun A => (vToldBy A (xs (5 * k + 1)) (xs (5 * k + 2)) (xs (5 * k + 3)), A)) (fun hP => rl_toldBy hP)
  show G X E SHP (68, 1994) 636 (LSl E b k) [.int ((vToldBy A (xs (5 * k + 1)) (xs (5 * k + 2)) (xs (5 * k + 3)), A)).1, .int ((vToldBy A1 (xs (5 * k + 1)) (xs (5 * k + 2)) (xs (5 * k + 3)), A1)).1] g2
  refine r_icmp_eq 940 C dL_law_636 (by decide) (fun c_636 => ?_) (fun c_636 => ?_)
  · exact K g2 ⟨_, _, hM2, CA_low hC1 fr2, hr.2⟩
  · exact absurd hr.1 c_636
set_option maxHeartbeats 4000000 in
theorem law_c17 {X : Cx} {b L k : Nat} {xs : Nat → Int32} (C : Ok X E RL cL_law 4) (N : OkN X E 0 600000 7302250) (Lx : Ln X l) (hRm : ∀ d1 w, d1 ≤ 40 → w ≤ 40 → Rm X d1 w) (Y : OkX X E b L xs) (hk : 5 * k + 5 ≤ L) (hL : L ≤ 320) (hB : Both h) (K : ∀ g, Both g → G X E SHP (68, 1994) 940 (LSl E b k) [] g) : G X E SHP (68, 1994) 641 (LSl E b k) [] h := by
  obtain ⟨A, A1, hM, hC, hrel⟩ := hB
  refine r_aload_n C dL_law_641 rfl ?_
  refine r_aload_n C dL_law_642 rfl ?_
  refine r_iload_n C dL_law_643 rfl ?_
  refine r_iconst (1) C dL_law_644 rfl ?_
  refine r_iadd C dL_law_645 ?_
  refine n_sld (5 * k + 1) C Y dL_law_646 (nI_add (5 * k) 1) (by omega) hL ?_
  refine r_aload_n C dL_law_647 rfl ?_
  refine r_iload_n C dL_law_648 rfl ?_
  refine r_iconst (2) C dL_law_649 rfl ?_
  refine r_iadd C dL_law_650 ?_
  refine n_sld (5 * k + 2) C Y dL_law_651 (nI_add (5 * k) 2) (by omega) hL ?_
  refine n_callV (i := 0) (As := [.int (xs (5 * k + 1)), .int (xs (5 * k + 2))]) (rest := []) C N Lx (hRm _ _ (by decide) (by decide)) dL_law_652 (s7_sure hC) tw_591 m7_sure rfl rfl rfl (Nat.le_of_ble_eq_true rfl) (by decide) (by decide) (fun v g q => ?_)
  obtain ⟨rfl, hC1, fr1⟩ := q
  have hM1 := MA_hi hM fr1
  show G X E SHP (68, 1994) 655 (LSl E b k) [.int ((vSure A1 (xs (5 * k + 1)) (xs (5 * k + 2)), A1)).1] g
  refine r_aload_n C dL_law_655 rfl ?_
  refine r_aload_n C dL_law_656 rfl ?_
  refine r_iload_n C dL_law_657 rfl ?_
  refine r_iconst (1) C dL_law_658 rfl ?_
  refine r_iadd C dL_law_659 ?_
  refine n_sld (5 * k + 1) C Y dL_law_660 (nI_add (5 * k) 1) (by omega) hL ?_
  refine r_aload_n C dL_law_661 rfl ?_
  refine r_iload_n C dL_law_662 rfl ?_
  refine r_iconst (2) C dL_law_663 rfl ?_
  refine r_iadd C dL_law_664 ?_
  refine n_sld (5 * k + 2) C Y dL_law_665 (nI_add (5 * k) 2) (by omega) hL ?_
  refine n_callV (i := 49) (As := [.int (xs (5 * k + 1)), .int (xs (5 * k + 2))]) (rest := [.int ((vSure A1 (xs (5 * k + 1)) (xs (5 * k + 2)), A1)).1]) C N Lx (hRm _ _ (by decide) (by decide)) dL_law_666 (s8_sure hM1) tw_988 m8_sure rfl rfl rfl (Nat.le_of_ble_eq_true rfl) (by decide) (by decide) (fun v g2 q => ?_)
  obtain ⟨rfl, hM2, fr2⟩ := q
  have hr := relB hrel (fun A => (vSure A (xs (5 * k + 1)) (xs (5 * k + 2)), A)) (fun hP => rl_sure hP)
  show G X E SHP (68, 1994) 669 (LSl E b k) [.int ((vSure A (xs (5 * k + 1)) (xs (5 * k + 2)), A)).1, .int ((vSure A1 (xs (5 * k + 1)) (xs (5 * k + 2)), A1)).1] g2
  refine r_icmp_eq 940 C dL_law_669 (by decide) (fun c_669 => ?_) (fun c_669 => ?_)
  · exact K g2 ⟨_, _, hM2, CA_low hC1 fr2, hr.2⟩
  · exact absurd hr.1 c_669
set_option maxHeartbeats 4000000 in
theorem law_c18 {X : Cx} {b L k : Nat} {xs : Nat → Int32} (C : Ok X E RL cL_law 4) (N : OkN X E 0 600000 7302250) (Lx : Ln X l) (hRm : ∀ d1 w, d1 ≤ 40 → w ≤ 40 → Rm X d1 w) (Y : OkX X E b L xs) (hk : 5 * k + 5 ≤ L) (hL : L ≤ 320) (hB : Both h) (K : ∀ g, Both g → G X E SHP (68, 1994) 940 (LSl E b k) [] g) : G X E SHP (68, 1994) 674 (LSl E b k) [] h := by
  obtain ⟨A, A1, hM, hC, hrel⟩ := hB
  refine r_aload_n C dL_law_674 rfl ?_
  refine r_aload_n C dL_law_675 rfl ?_
  refine r_iload_n C dL_law_676 rfl ?_
  refine r_iconst (1) C dL_law_677 rfl ?_
  refine r_iadd C dL_law_678 ?_
  refine n_sld (5 * k + 1) C Y dL_law_679 (nI_add (5 * k) 1) (by omega) hL ?_
  refine n_callV (i := 0) (As := [.int (xs (5 * k + 1))]) (rest := []) C N Lx (hRm _ _ (by decide) (by decide)) dL_law_680 (s7_wired hC) tw_599 m7_wired rfl rfl rfl (Nat.le_of_ble_eq_true rfl) (by decide) (by decide) (fun v g q => ?_)
  obtain ⟨rfl, hC1, fr1⟩ := q
  have hM1 := MA_hi hM fr1
  show G X E SHP (68, 1994) 683 (LSl E b k) [.int ((vWired A1 (xs (5 * k + 1)), A1)).1] g
  refine r_aload_n C dL_law_683 rfl ?_
  refine r_aload_n C dL_law_684 rfl ?_
  refine r_iload_n C dL_law_685 rfl ?_
  refine r_iconst (1) C dL_law_686 rfl ?_
  refine r_iadd C dL_law_687 ?_
  refine n_sld (5 * k + 1) C Y dL_law_688 (nI_add (5 * k) 1) (by omega) hL ?_
  refine n_callV (i := 49) (As := [.int (xs (5 * k + 1))]) (rest := [.int ((vWired A1 (xs (5 * k + 1)), A1)).1]) C N Lx (hRm _ _ (by decide) (by decide)) dL_law_689 (s8_wired hM1) tw_996 m8_wired rfl rfl rfl (Nat.le_of_ble_eq_true rfl) (by decide) (by decide) (fun v g2 q => ?_)
  obtain ⟨rfl, hM2, fr2⟩ := q
  have hr := relB hrel (fun A => (vWired A (xs (5 * k + 1)), A)) (fun hP => rl_wired hP)
  show G X E SHP (68, 1994) 692 (LSl E b k) [.int ((vWired A (xs (5 * k + 1)), A)).1, .int ((vWired A1 (xs (5 * k + 1)), A1)).1] g2
  refine r_icmp_eq 940 C dL_law_692 (by decide) (fun c_692 => ?_) (fun c_692 => ?_)
  · exact K g2 ⟨_, _, hM2, CA_low hC1 fr2, hr.2⟩
  · exact absurd hr.1 c_692
set_option maxHeartbeats 4000000 in
theorem law_c19 {X : Cx} {b L k : Nat} {xs : Nat → Int32} (C : Ok X E RL cL_law 4) (N : OkN X E 0 600000 7302250) (Lx : Ln X l) (hRm : ∀ d1 w, d1 ≤ 40 → w ≤ 40 → Rm X d1 w) (Y : OkX X E b L xs) (hk : 5 * k + 5 ≤ L) (hL : L ≤ 320) (hB : Both h) (K : ∀ g, Both g → G X E SHP (68, 1994) 940 (LSl E b k) [] g) : G X E SHP (68, 1994) 697 (LSl E b k) [] h := by
  obtain ⟨A, A1, hM, hC, hrel⟩ := hB
  refine r_aload_n C dL_law_697 rfl ?_
  refine r_aload_n C dL_law_698 rfl ?_
  refine r_iload_n C dL_law_699 rfl ?_
  refine r_iconst (1) C dL_law_700 rfl ?_
  refine r_iadd C dL_law_701 ?_
  refine n_sld (5 * k + 1) C Y dL_law_702 (nI_add (5 * k) 1) (by omega) hL ?_
  refine r_aload_n C dL_law_703 rfl ?_
  refine r_iload_n C dL_law_704 rfl ?_
  refine r_iconst (2) C dL_law_705 rfl ?_
  refine r_iadd C dL_law_706 ?_
  refine n_sld (5 * k + 2) C Y dL_law_707 (nI_add (5 * k) 2) (by omega) hL ?_
  refine r_aload_n C dL_law_708 rfl ?_
  refine r_iload_n C dL_law_709 rfl ?_
  refine r_iconst (3) C dL_law_710 rfl ?_
  refine r_iadd C dL_law_711 ?_
  refine n_sld (5 * k + 3) C Y dL_law_712 (nI_add (5 * k) 3) (by omega) hL ?_
  refine r_if_eq 720 C dL_law_713 (by decide) (fun c_713 => ?_) (fun c_713 => ?_)
  · skip
    refine r_iconst (0) C dL_law_720 rfl ?_
    refine n_callV (i := 0) (As := [.int (xs (5 * k + 1)), .int (xs (5 * k + 2)), .int (b01 false)]) (rest := []) C N Lx (hRm _ _ (by decide) (by decide)) dL_law_721 (s7_see (zz := false) hC) tw_603 m7_see rfl rfl rfl (Nat.le_of_ble_eq_true rfl) (by decide) (by decide) (fun v g q => ?_)
    obtain ⟨rfl, hC1, fr1⟩ := q
    have hM1 := MA_hi hM fr1
    show G X E SHP (68, 1994) 724 (LSl E b k) [.int (opSee A1 (xs (5 * k + 1)) (xs (5 * k + 2)) (b01 false)).1] g
    refine r_aload_n C dL_law_724 rfl ?_
    refine r_aload_n C dL_law_725 rfl ?_
    refine r_iload_n C dL_law_726 rfl ?_
    refine r_iconst (1) C dL_law_727 rfl ?_
    refine r_iadd C dL_law_728 ?_
    refine n_sld (5 * k + 1) C Y dL_law_729 (nI_add (5 * k) 1) (by omega) hL ?_
    refine r_aload_n C dL_law_730 rfl ?_
    refine r_iload_n C dL_law_731 rfl ?_
    refine r_iconst (2) C dL_law_732 rfl ?_
    refine r_iadd C dL_law_733 ?_
    refine n_sld (5 * k + 2) C Y dL_law_734 (nI_add (5 * k) 2) (by omega) hL ?_
    refine r_aload_n C dL_law_735 rfl ?_
    refine r_iload_n C dL_law_736 rfl ?_
    refine r_iconst (3) C dL_law_737 rfl ?_
    refine r_iadd C dL_law_738 ?_
    refine n_sld (5 * k + 3) C Y dL_law_739 (nI_add (5 * k) 3) (by omega) hL ?_
    refine r_if_eq 747 C dL_law_740 (by decide) (fun c_740 => ?_) (fun c_740 => ?_)
    · skip
      refine r_iconst (0) C dL_law_747 rfl ?_
      refine n_callV (i := 49) (As := [.int (xs (5 * k + 1)), .int (xs (5 * k + 2)), .int (b01 false)]) (rest := [.int (opSee A1 (xs (5 * k + 1)) (xs (5 * k + 2)) (b01 false)).1]) C N Lx (hRm _ _ (by decide) (by decide)) dL_law_748 (s8_see hM1) tw_1000 m8_see rfl rfl rfl (Nat.le_of_ble_eq_true rfl) (by decide) (by decide) (fun v g2 q => ?_)
      obtain ⟨rfl, hM2, fr2⟩ := q
      have hr := relB hrel (fun A => opSee A (xs (5 * k + 1)) (xs (5 * k + 2)) (b01 false)) (fun hP => rl_see hP)
      show G X E SHP (68, 1994) 751 (LSl E b k) [.int (opSee A (xs (5 * k + 1)) (xs (5 * k + 2)) (b01 false)).1, .int (opSee A1 (xs (5 * k + 1)) (xs (5 * k + 2)) (b01 false)).1] g2
      refine r_icmp_eq 940 C dL_law_751 (by decide) (fun c_751 => ?_) (fun c_751 => ?_)
      · exact K g2 ⟨_, _, hM2, CA_low hC1 fr2, hr.2⟩
      · exact absurd hr.1 c_751
    · skip
      exact absurd c_713 c_740
  · skip
    refine r_iconst (1) C dL_law_716 rfl ?_
    refine r_goto 721 C dL_law_717 (by decide) ?_
    refine n_callV (i := 0) (As := [.int (xs (5 * k + 1)), .int (xs (5 * k + 2)), .int (b01 true)]) (rest := []) C N Lx (hRm _ _ (by decide) (by decide)) dL_law_721 (s7_see (zz := true) hC) tw_603 m7_see rfl rfl rfl (Nat.le_of_ble_eq_true rfl) (by decide) (by decide) (fun v g q => ?_)
    obtain ⟨rfl, hC1, fr1⟩ := q
    have hM1 := MA_hi hM fr1
    show G X E SHP (68, 1994) 724 (LSl E b k) [.int (opSee A1 (xs (5 * k + 1)) (xs (5 * k + 2)) (b01 true)).1] g
    refine r_aload_n C dL_law_724 rfl ?_
    refine r_aload_n C dL_law_725 rfl ?_
    refine r_iload_n C dL_law_726 rfl ?_
    refine r_iconst (1) C dL_law_727 rfl ?_
    refine r_iadd C dL_law_728 ?_
    refine n_sld (5 * k + 1) C Y dL_law_729 (nI_add (5 * k) 1) (by omega) hL ?_
    refine r_aload_n C dL_law_730 rfl ?_
    refine r_iload_n C dL_law_731 rfl ?_
    refine r_iconst (2) C dL_law_732 rfl ?_
    refine r_iadd C dL_law_733 ?_
    refine n_sld (5 * k + 2) C Y dL_law_734 (nI_add (5 * k) 2) (by omega) hL ?_
    refine r_aload_n C dL_law_735 rfl ?_
    refine r_iload_n C dL_law_736 rfl ?_
    refine r_iconst (3) C dL_law_737 rfl ?_
    refine r_iadd C dL_law_738 ?_
    refine n_sld (5 * k + 3) C Y dL_law_739 (nI_add (5 * k) 3) (by omega) hL ?_
    refine r_if_eq 747 C dL_law_740 (by decide) (fun c_740 => ?_) (fun c_740 => ?_)
    · skip
      exact absurd c_740 c_713
    · skip
      refine r_iconst (1) C dL_law_743 rfl ?_
      refine r_goto 748 C dL_law_744 (by decide) ?_
      refine n_callV (i := 49) (As := [.int (xs (5 * k + 1)), .int (xs (5 * k + 2)), .int (b01 true)]) (rest := [.int (opSee A1 (xs (5 * k + 1)) (xs (5 * k + 2)) (b01 true)).1]) C N Lx (hRm _ _ (by decide) (by decide)) dL_law_748 (s8_see hM1) tw_1000 m8_see rfl rfl rfl (Nat.le_of_ble_eq_true rfl) (by decide) (by decide) (fun v g2 q => ?_)
      obtain ⟨rfl, hM2, fr2⟩ := q
      have hr := relB hrel (fun A => opSee A (xs (5 * k + 1)) (xs (5 * k + 2)) (b01 true)) (fun hP => rl_see hP)
      show G X E SHP (68, 1994) 751 (LSl E b k) [.int (opSee A (xs (5 * k + 1)) (xs (5 * k + 2)) (b01 true)).1, .int (opSee A1 (xs (5 * k + 1)) (xs (5 * k + 2)) (b01 true)).1] g2
      refine r_icmp_eq 940 C dL_law_751 (by decide) (fun c_751 => ?_) (fun c_751 => ?_)
      · exact K g2 ⟨_, _, hM2, CA_low hC1 fr2, hr.2⟩
      · exact absurd hr.1 c_751
set_option maxHeartbeats 4000000 in
theorem law_c20 {X : Cx} {b L k : Nat} {xs : Nat → Int32} (C : Ok X E RL cL_law 4) (N : OkN X E 0 600000 7302250) (Lx : Ln X l) (hRm : ∀ d1 w, d1 ≤ 40 → w ≤ 40 → Rm X d1 w) (Y : OkX X E b L xs) (hk : 5 * k + 5 ≤ L) (hL : L ≤ 320) (hB : Both h) (K : ∀ g, Both g → G X E SHP (68, 1994) 940 (LSl E b k) [] g) : G X E SHP (68, 1994) 756 (LSl E b k) [] h := by
  obtain ⟨A, A1, hM, hC, hrel⟩ := hB
  refine r_aload_n C dL_law_756 rfl ?_
  refine r_aload_n C dL_law_757 rfl ?_
  refine r_iload_n C dL_law_758 rfl ?_
  refine r_iconst (1) C dL_law_759 rfl ?_
  refine r_iadd C dL_law_760 ?_
  refine n_sld (5 * k + 1) C Y dL_law_761 (nI_add (5 * k) 1) (by omega) hL ?_
  refine n_callV (i := 0) (As := [.int (xs (5 * k + 1))]) (rest := []) C N Lx (hRm _ _ (by decide) (by decide)) dL_law_762 (s7_tastes hC) tw_611 m7_tastes rfl rfl rfl (Nat.le_of_ble_eq_true rfl) (by decide) (by decide) (fun v g q => ?_)
  obtain ⟨rfl, hC1, fr1⟩ := q
  have hM1 := MA_hi hM fr1
  show G X E SHP (68, 1994) 765 (LSl E b k) [.int ((vTastes A1 (xs (5 * k + 1)), A1)).1] g
  refine r_aload_n C dL_law_765 rfl ?_
  refine r_aload_n C dL_law_766 rfl ?_
  refine r_iload_n C dL_law_767 rfl ?_
  refine r_iconst (1) C dL_law_768 rfl ?_
  refine r_iadd C dL_law_769 ?_
  refine n_sld (5 * k + 1) C Y dL_law_770 (nI_add (5 * k) 1) (by omega) hL ?_
  refine n_callV (i := 49) (As := [.int (xs (5 * k + 1))]) (rest := [.int ((vTastes A1 (xs (5 * k + 1)), A1)).1]) C N Lx (hRm _ _ (by decide) (by decide)) dL_law_771 (s8_tastes hM1) tw_1004 m8_tastes rfl rfl rfl (Nat.le_of_ble_eq_true rfl) (by decide) (by decide) (fun v g2 q => ?_)
  obtain ⟨rfl, hM2, fr2⟩ := q
  have hr := relB hrel (fun A => (vTastes A (xs (5 * k + 1)), A)) (fun hP => rl_tastes hP)
  show G X E SHP (68, 1994) 774 (LSl E b k) [.int ((vTastes A (xs (5 * k + 1)), A)).1, .int ((vTastes A1 (xs (5 * k + 1)), A1)).1] g2
  refine r_icmp_eq 940 C dL_law_774 (by decide) (fun c_774 => ?_) (fun c_774 => ?_)
  · exact K g2 ⟨_, _, hM2, CA_low hC1 fr2, hr.2⟩
  · exact absurd hr.1 c_774
set_option maxHeartbeats 4000000 in
theorem law_c21 {X : Cx} {b L k : Nat} {xs : Nat → Int32} (C : Ok X E RL cL_law 4) (N : OkN X E 0 600000 7302250) (Lx : Ln X l) (hRm : ∀ d1 w, d1 ≤ 40 → w ≤ 40 → Rm X d1 w) (Y : OkX X E b L xs) (hk : 5 * k + 5 ≤ L) (hL : L ≤ 320) (hB : Both h) (K : ∀ g, Both g → G X E SHP (68, 1994) 940 (LSl E b k) [] g) : G X E SHP (68, 1994) 779 (LSl E b k) [] h := by
  obtain ⟨A, A1, hM, hC, hrel⟩ := hB
  refine r_aload_n C dL_law_779 rfl ?_
  refine r_aload_n C dL_law_780 rfl ?_
  refine r_iload_n C dL_law_781 rfl ?_
  refine r_iconst (1) C dL_law_782 rfl ?_
  refine r_iadd C dL_law_783 ?_
  refine n_sld (5 * k + 1) C Y dL_law_784 (nI_add (5 * k) 1) (by omega) hL ?_
  refine r_aload_n C dL_law_785 rfl ?_
  refine r_iload_n C dL_law_786 rfl ?_
  refine r_iconst (2) C dL_law_787 rfl ?_
  refine r_iadd C dL_law_788 ?_
  refine n_sld (5 * k + 2) C Y dL_law_789 (nI_add (5 * k) 2) (by omega) hL ?_
  refine n_callV (i := 0) (As := [.int (xs (5 * k + 1)), .int (xs (5 * k + 2))]) (rest := []) C N Lx (hRm _ _ (by decide) (by decide)) dL_law_790 (s7_sads hC) tw_619 m7_sads rfl rfl rfl (Nat.le_of_ble_eq_true rfl) (by decide) (by decide) (fun v g q => ?_)
  obtain ⟨rfl, hC1, fr1⟩ := q
  have hM1 := MA_hi hM fr1
  show G X E SHP (68, 1994) 793 (LSl E b k) [.int ((vSads A1 (xs (5 * k + 1)) (xs (5 * k + 2)), A1)).1] g
  refine r_aload_n C dL_law_793 rfl ?_
  refine r_aload_n C dL_law_794 rfl ?_
  refine r_iload_n C dL_law_795 rfl ?_
  refine r_iconst (1) C dL_law_796 rfl ?_
  refine r_iadd C dL_law_797 ?_
  refine n_sld (5 * k + 1) C Y dL_law_798 (nI_add (5 * k) 1) (by omega) hL ?_
  refine r_aload_n C dL_law_799 rfl ?_
  refine r_iload_n C dL_law_800 rfl ?_
  refine r_iconst (2) C dL_law_801 rfl ?_
  refine r_iadd C dL_law_802 ?_
  refine n_sld (5 * k + 2) C Y dL_law_803 (nI_add (5 * k) 2) (by omega) hL ?_
  refine n_callV (i := 49) (As := [.int (xs (5 * k + 1)), .int (xs (5 * k + 2))]) (rest := [.int ((vSads A1 (xs (5 * k + 1)) (xs (5 * k + 2)), A1)).1]) C N Lx (hRm _ _ (by decide) (by decide)) dL_law_804 (s8_sads hM1) tw_1012 m8_sads rfl rfl rfl (Nat.le_of_ble_eq_true rfl) (by decide) (by decide) (fun v g2 q => ?_)
  obtain ⟨rfl, hM2, fr2⟩ := q
  have hr := relB hrel (fun A => (vSads A (xs (5 * k + 1)) (xs (5 * k + 2)), A)) (fun hP => rl_sads hP)
  show G X E SHP (68, 1994) 807 (LSl E b k) [.int ((vSads A (xs (5 * k + 1)) (xs (5 * k + 2)), A)).1, .int ((vSads A1 (xs (5 * k + 1)) (xs (5 * k + 2)), A1)).1] g2
  refine r_icmp_eq 940 C dL_law_807 (by decide) (fun c_807 => ?_) (fun c_807 => ?_)
  · exact K g2 ⟨_, _, hM2, CA_low hC1 fr2, hr.2⟩
  · exact absurd hr.1 c_807
set_option maxHeartbeats 4000000 in
theorem law_c22 {X : Cx} {b L k : Nat} {xs : Nat → Int32} (C : Ok X E RL cL_law 4) (N : OkN X E 0 600000 7302250) (Lx : Ln X l) (hRm : ∀ d1 w, d1 ≤ 40 → w ≤ 40 → Rm X d1 w) (Y : OkX X E b L xs) (hk : 5 * k + 5 ≤ L) (hL : L ≤ 320) (hB : Both h) (K : ∀ g, Both g → G X E SHP (68, 1994) 940 (LSl E b k) [] g) : G X E SHP (68, 1994) 812 (LSl E b k) [] h := by
  obtain ⟨A, A1, hM, hC, hrel⟩ := hB
  refine r_aload_n C dL_law_812 rfl ?_
  refine r_aload_n C dL_law_813 rfl ?_
  refine r_iload_n C dL_law_814 rfl ?_
  refine r_iconst (1) C dL_law_815 rfl ?_
  refine r_iadd C dL_law_816 ?_
  refine n_sld (5 * k + 1) C Y dL_law_817 (nI_add (5 * k) 1) (by omega) hL ?_
  refine r_aload_n C dL_law_818 rfl ?_
  refine r_iload_n C dL_law_819 rfl ?_
  refine r_iconst (2) C dL_law_820 rfl ?_
  refine r_iadd C dL_law_821 ?_
  refine n_sld (5 * k + 2) C Y dL_law_822 (nI_add (5 * k) 2) (by omega) hL ?_
  refine n_callV (i := 0) (As := [.int (xs (5 * k + 1)), .int (xs (5 * k + 2))]) (rest := []) C N Lx (hRm _ _ (by decide) (by decide)) dL_law_823 (s7_write hC) tw_623 m7_write rfl rfl rfl (Nat.le_of_ble_eq_true rfl) (by decide) (by decide) (fun v g q => ?_)
  obtain ⟨rfl, hC1, fr1⟩ := q
  have hM1 := MA_hi hM fr1
  show G X E SHP (68, 1994) 826 (LSl E b k) [.int (opWrite A1 (xs (5 * k + 1)) (xs (5 * k + 2))).1] g
  refine r_aload_n C dL_law_826 rfl ?_
  refine r_aload_n C dL_law_827 rfl ?_
  refine r_iload_n C dL_law_828 rfl ?_
  refine r_iconst (1) C dL_law_829 rfl ?_
  refine r_iadd C dL_law_830 ?_
  refine n_sld (5 * k + 1) C Y dL_law_831 (nI_add (5 * k) 1) (by omega) hL ?_
  refine r_aload_n C dL_law_832 rfl ?_
  refine r_iload_n C dL_law_833 rfl ?_
  refine r_iconst (2) C dL_law_834 rfl ?_
  refine r_iadd C dL_law_835 ?_
  refine n_sld (5 * k + 2) C Y dL_law_836 (nI_add (5 * k) 2) (by omega) hL ?_
  refine n_callV (i := 49) (As := [.int (xs (5 * k + 1)), .int (xs (5 * k + 2))]) (rest := [.int (opWrite A1 (xs (5 * k + 1)) (xs (5 * k + 2))).1]) C N Lx (hRm _ _ (by decide) (by decide)) dL_law_837 (s8_write hM1) tw_1016 m8_write rfl rfl rfl (Nat.le_of_ble_eq_true rfl) (by decide) (by decide) (fun v g2 q => ?_)
  obtain ⟨rfl, hM2, fr2⟩ := q
  have hr := relB hrel (fun A => opWrite A (xs (5 * k + 1)) (xs (5 * k + 2))) (fun hP => rl_write hP)
  show G X E SHP (68, 1994) 840 (LSl E b k) [.int (opWrite A (xs (5 * k + 1)) (xs (5 * k + 2))).1, .int (opWrite A1 (xs (5 * k + 1)) (xs (5 * k + 2))).1] g2
  refine r_icmp_eq 940 C dL_law_840 (by decide) (fun c_840 => ?_) (fun c_840 => ?_)
  · exact K g2 ⟨_, _, hM2, CA_low hC1 fr2, hr.2⟩
  · exact absurd hr.1 c_840
set_option maxHeartbeats 4000000 in
theorem law_c23 {X : Cx} {b L k : Nat} {xs : Nat → Int32} (C : Ok X E RL cL_law 4) (N : OkN X E 0 600000 7302250) (Lx : Ln X l) (hRm : ∀ d1 w, d1 ≤ 40 → w ≤ 40 → Rm X d1 w) (Y : OkX X E b L xs) (hk : 5 * k + 5 ≤ L) (hL : L ≤ 320) (hB : Both h) (K : ∀ g, Both g → G X E SHP (68, 1994) 940 (LSl E b k) [] g) : G X E SHP (68, 1994) 845 (LSl E b k) [] h := by
  obtain ⟨A, A1, hM, hC, hrel⟩ := hB
  refine r_aload_n C dL_law_845 rfl ?_
  refine n_callV (i := 0) (As := []) (rest := []) C N Lx (hRm _ _ (by decide) (by decide)) dL_law_846 (s7_judge hC) tw_631 m7_judge rfl rfl rfl (Nat.le_of_ble_eq_true rfl) (by decide) (by decide) (fun v g q => ?_)
  obtain ⟨rfl, hC1, fr1⟩ := q
  have hM1 := MA_hi hM fr1
  show G X E SHP (68, 1994) 849 (LSl E b k) [.int ((vJudge A1, A1)).1] g
  refine r_aload_n C dL_law_849 rfl ?_
  refine n_callV (i := 49) (As := []) (rest := [.int ((vJudge A1, A1)).1]) C N Lx (hRm _ _ (by decide) (by decide)) dL_law_850 (s8_judgeA hM1) tw_1020 m8_judge rfl rfl rfl (Nat.le_of_ble_eq_true rfl) (by decide) (by decide) (fun v g2 q => ?_)
  obtain ⟨rfl, hM2, fr2⟩ := q
  have hr := relB hrel (fun A => (vJudge A, A)) (fun hP => rl_judge hP)
  show G X E SHP (68, 1994) 853 (LSl E b k) [.int ((vJudge A, A)).1, .int ((vJudge A1, A1)).1] g2
  refine r_icmp_eq 940 C dL_law_853 (by decide) (fun c_853 => ?_) (fun c_853 => ?_)
  · exact K g2 ⟨_, _, hM2, CA_low hC1 fr2, hr.2⟩
  · exact absurd hr.1 c_853
set_option maxHeartbeats 4000000 in
theorem law_c24 {X : Cx} {b L k : Nat} {xs : Nat → Int32} (C : Ok X E RL cL_law 4) (N : OkN X E 0 600000 7302250) (Lx : Ln X l) (hRm : ∀ d1 w, d1 ≤ 40 → w ≤ 40 → Rm X d1 w) (Y : OkX X E b L xs) (hk : 5 * k + 5 ≤ L) (hL : L ≤ 320) (hB : Both h) (K : ∀ g, Both g → G X E SHP (68, 1994) 940 (LSl E b k) [] g) : G X E SHP (68, 1994) 858 (LSl E b k) [] h := by
  obtain ⟨A, A1, hM, hC, hrel⟩ := hB
  refine r_aload_n C dL_law_858 rfl ?_
  refine n_callV (i := 0) (As := []) (rest := []) C N Lx (hRm _ _ (by decide) (by decide)) dL_law_859 (s7_tear hC) tw_639 m7_tear rfl rfl rfl (Nat.le_of_ble_eq_true rfl) (by decide) (by decide) (fun v g q => ?_)
  obtain ⟨rfl, hC1, fr1⟩ := q
  have hM1 := MA_hi hM fr1
  show G X E SHP (68, 1994) 862 (LSl E b k) [.int (opTear A1).1] g
  refine r_aload_n C dL_law_862 rfl ?_
  refine n_callV (i := 49) (As := []) (rest := [.int (opTear A1).1]) C N Lx (hRm _ _ (by decide) (by decide)) dL_law_863 (s8_tearA hM1) tw_1024 m8_tear rfl rfl rfl (Nat.le_of_ble_eq_true rfl) (by decide) (by decide) (fun v g2 q => ?_)
  obtain ⟨rfl, hM2, fr2⟩ := q
  have hr := relB hrel (fun A => opTear A) (fun hP => rl_tear hP)
  show G X E SHP (68, 1994) 866 (LSl E b k) [.int (opTear A).1, .int (opTear A1).1] g2
  refine r_icmp_eq 940 C dL_law_866 (by decide) (fun c_866 => ?_) (fun c_866 => ?_)
  · exact K g2 ⟨_, _, hM2, CA_low hC1 fr2, hr.2⟩
  · exact absurd hr.1 c_866
set_option maxHeartbeats 4000000 in
theorem law_c25 {X : Cx} {b L k : Nat} {xs : Nat → Int32} (C : Ok X E RL cL_law 4) (N : OkN X E 0 600000 7302250) (Lx : Ln X l) (hRm : ∀ d1 w, d1 ≤ 40 → w ≤ 40 → Rm X d1 w) (Y : OkX X E b L xs) (hk : 5 * k + 5 ≤ L) (hL : L ≤ 320) (hB : Both h) (K : ∀ g, Both g → G X E SHP (68, 1994) 940 (LSl E b k) [] g) : G X E SHP (68, 1994) 871 (LSl E b k) [] h := by
  obtain ⟨A, A1, hM, hC, hrel⟩ := hB
  refine r_aload_n C dL_law_871 rfl ?_
  refine r_aload_n C dL_law_872 rfl ?_
  refine r_iload_n C dL_law_873 rfl ?_
  refine r_iconst (1) C dL_law_874 rfl ?_
  refine r_iadd C dL_law_875 ?_
  refine n_sld (5 * k + 1) C Y dL_law_876 (nI_add (5 * k) 1) (by omega) hL ?_
  refine n_callV (i := 0) (As := [.int (xs (5 * k + 1))]) (rest := []) C N Lx (hRm _ _ (by decide) (by decide)) dL_law_877 (s7_seedA hC) tw_643 m7_seed rfl rfl rfl (Nat.le_of_ble_eq_true rfl) (by decide) (by decide) (fun v g q => ?_)
  obtain ⟨rfl, hC1, fr1⟩ := q
  have hM1 := MA_hi hM fr1
  show G X E SHP (68, 1994) 880 (LSl E b k) [.int (opSeed A1 (xs (5 * k + 1))).1] g
  refine r_aload_n C dL_law_880 rfl ?_
  refine r_aload_n C dL_law_881 rfl ?_
  refine r_iload_n C dL_law_882 rfl ?_
  refine r_iconst (1) C dL_law_883 rfl ?_
  refine r_iadd C dL_law_884 ?_
  refine n_sld (5 * k + 1) C Y dL_law_885 (nI_add (5 * k) 1) (by omega) hL ?_
  refine n_callV (i := 49) (As := [.int (xs (5 * k + 1))]) (rest := [.int (opSeed A1 (xs (5 * k + 1))).1]) C N Lx (hRm _ _ (by decide) (by decide)) dL_law_886 (s8_seedA hM1) tw_1028 m8_seed rfl rfl rfl (Nat.le_of_ble_eq_true rfl) (by decide) (by decide) (fun v g2 q => ?_)
  obtain ⟨rfl, hM2, fr2⟩ := q
  have hr := relB hrel (fun A => opSeed A (xs (5 * k + 1))) (fun hP => rl_seed hP)
  show G X E SHP (68, 1994) 889 (LSl E b k) [.int (opSeed A (xs (5 * k + 1))).1, .int (opSeed A1 (xs (5 * k + 1))).1] g2
  refine r_icmp_eq 940 C dL_law_889 (by decide) (fun c_889 => ?_) (fun c_889 => ?_)
  · exact K g2 ⟨_, _, hM2, CA_low hC1 fr2, hr.2⟩
  · exact absurd hr.1 c_889
set_option maxHeartbeats 4000000 in
theorem law_c26 {X : Cx} {b L k : Nat} {xs : Nat → Int32} (C : Ok X E RL cL_law 4) (N : OkN X E 0 600000 7302250) (Lx : Ln X l) (hRm : ∀ d1 w, d1 ≤ 40 → w ≤ 40 → Rm X d1 w) (Y : OkX X E b L xs) (hk : 5 * k + 5 ≤ L) (hL : L ≤ 320) (hB : Both h) (K : ∀ g, Both g → G X E SHP (68, 1994) 940 (LSl E b k) [] g) : G X E SHP (68, 1994) 894 (LSl E b k) [] h := by
  obtain ⟨A, A1, hM, hC, hrel⟩ := hB
  refine r_aload_n C dL_law_894 rfl ?_
  refine r_aload_n C dL_law_895 rfl ?_
  refine r_iload_n C dL_law_896 rfl ?_
  refine r_iconst (1) C dL_law_897 rfl ?_
  refine r_iadd C dL_law_898 ?_
  refine n_sld (5 * k + 1) C Y dL_law_899 (nI_add (5 * k) 1) (by omega) hL ?_
  refine n_callV (i := 0) (As := [.int (xs (5 * k + 1))]) (rest := []) C N Lx (hRm _ _ (by decide) (by decide)) dL_law_900 (s7_keep hC) tw_647 m7_keep rfl rfl rfl (Nat.le_of_ble_eq_true rfl) (by decide) (by decide) (fun v g q => ?_)
  obtain ⟨rfl, hC1, fr1⟩ := q
  have hM1 := MA_hi hM fr1
  show G X E SHP (68, 1994) 903 (LSl E b k) [.int (opKeep A1 (xs (5 * k + 1))).1] g
  refine r_aload_n C dL_law_903 rfl ?_
  refine r_aload_n C dL_law_904 rfl ?_
  refine r_iload_n C dL_law_905 rfl ?_
  refine r_iconst (1) C dL_law_906 rfl ?_
  refine r_iadd C dL_law_907 ?_
  refine n_sld (5 * k + 1) C Y dL_law_908 (nI_add (5 * k) 1) (by omega) hL ?_
  refine n_callV (i := 49) (As := [.int (xs (5 * k + 1))]) (rest := [.int (opKeep A1 (xs (5 * k + 1))).1]) C N Lx (hRm _ _ (by decide) (by decide)) dL_law_909 (s8_keep hM1) tw_1032 m8_keep rfl rfl rfl (Nat.le_of_ble_eq_true rfl) (by decide) (by decide) (fun v g2 q => ?_)
  obtain ⟨rfl, hM2, fr2⟩ := q
  have hr := relB hrel (fun A => opKeep A (xs (5 * k + 1))) (fun hP => rl_keep hP)
  show G X E SHP (68, 1994) 912 (LSl E b k) [.int (opKeep A (xs (5 * k + 1))).1, .int (opKeep A1 (xs (5 * k + 1))).1] g2
  refine r_icmp_eq 940 C dL_law_912 (by decide) (fun c_912 => ?_) (fun c_912 => ?_)
  · exact K g2 ⟨_, _, hM2, CA_low hC1 fr2, hr.2⟩
  · exact absurd hr.1 c_912
set_option maxHeartbeats 4000000 in
theorem law_c27 {X : Cx} {b L k : Nat} {xs : Nat → Int32} (C : Ok X E RL cL_law 4) (N : OkN X E 0 600000 7302250) (Lx : Ln X l) (hRm : ∀ d1 w, d1 ≤ 40 → w ≤ 40 → Rm X d1 w) (Y : OkX X E b L xs) (hk : 5 * k + 5 ≤ L) (hL : L ≤ 320) (hB : Both h) (K : ∀ g, Both g → G X E SHP (68, 1994) 940 (LSl E b k) [] g) : G X E SHP (68, 1994) 917 (LSl E b k) [] h := by
  obtain ⟨A, A1, hM, hC, hrel⟩ := hB
  refine r_aload_n C dL_law_917 rfl ?_
  refine r_aload_n C dL_law_918 rfl ?_
  refine r_iload_n C dL_law_919 rfl ?_
  refine r_iconst (1) C dL_law_920 rfl ?_
  refine r_iadd C dL_law_921 ?_
  refine n_sld (5 * k + 1) C Y dL_law_922 (nI_add (5 * k) 1) (by omega) hL ?_
  refine n_callV (i := 0) (As := [.int (xs (5 * k + 1))]) (rest := []) C N Lx (hRm _ _ (by decide) (by decide)) dL_law_923 (s7_goBack hC) tw_659 m7_goBack rfl rfl rfl (Nat.le_of_ble_eq_true rfl) (by decide) (by decide) (fun v g q => ?_)
  obtain ⟨rfl, hC1, fr1⟩ := q
  have hM1 := MA_hi hM fr1
  show G X E SHP (68, 1994) 926 (LSl E b k) [.int (opBack A1 (xs (5 * k + 1))).1] g
  refine r_aload_n C dL_law_926 rfl ?_
  refine r_aload_n C dL_law_927 rfl ?_
  refine r_iload_n C dL_law_928 rfl ?_
  refine r_iconst (1) C dL_law_929 rfl ?_
  refine r_iadd C dL_law_930 ?_
  refine n_sld (5 * k + 1) C Y dL_law_931 (nI_add (5 * k) 1) (by omega) hL ?_
  refine n_callV (i := 49) (As := [.int (xs (5 * k + 1))]) (rest := [.int (opBack A1 (xs (5 * k + 1))).1]) C N Lx (hRm _ _ (by decide) (by decide)) dL_law_932 (s8_goBack hM1) tw_1036 m8_goBack rfl rfl rfl (Nat.le_of_ble_eq_true rfl) (by decide) (by decide) (fun v g2 q => ?_)
  obtain ⟨rfl, hM2, fr2⟩ := q
  have hr := relB hrel (fun A => opBack A (xs (5 * k + 1))) (fun hP => rl_back hP)
  show G X E SHP (68, 1994) 935 (LSl E b k) [.int (opBack A (xs (5 * k + 1))).1, .int (opBack A1 (xs (5 * k + 1))).1] g2
  refine r_icmp_eq 940 C dL_law_935 (by decide) (fun c_935 => ?_) (fun c_935 => ?_)
  · exact K g2 ⟨_, _, hM2, CA_low hC1 fr2, hr.2⟩
  · exact absurd hr.1 c_935
