variable {l : Launch} {E : Ev} {h : Hp}
theorem G.S {X : Cx} {S S' : List dsc} {cz : Nat × Nat} {pc : Nat} {ls : LSt} {st : List Value} (k : G X E S' cz pc ls st h) (e : S = S') : G X E S cz pc ls st h := by subst e; exact k
theorem set_ok {P L : List dsc} {o k : Nat} {d : dsc} (ho : P.length = o) : (P ++ L).set (o + k) d = P ++ L.set k d := by
  subst ho
  rw [List.set_append_right _ _ (by omega), Nat.add_sub_cancel_left]
theorem get_ok {P L : List dsc} {o k : Nat} (ho : P.length = o) : (P ++ L)[o + k]? = L[k]? := by
  subst ho
  rw [List.getElem?_append_right (by omega), Nat.add_sub_cancel_left]
theorem len_ok {P L : List dsc} {o : Nat} (ho : P.length = o) : (P ++ L).length = o + L.length := by rw [List.length_append, ho]
section NR2
variable {X : Cx} {S : List dsc} {cz : Nat × Nat} {pc : Nat} {ls : LSt} {st : List Value} {own : String} {cc : ByteArray} {nL n0 mc ms : Nat}
theorem m_newI {x : Int32} {S' : List dsc} {cz' : Nat × Nat} (N' q : Nat) (C : Ok X E own cc nL) (N : OkN X E n0 mc ms) (hq : S.length = q) (hn : q = n0 + cz.1) (hz : ∀ k, h q k = 0) (hd : decode cc pc = .ok (.newarray .int, 2)) (hx0 : x = nI N') (hN' : N' ≤ 1000) (h1 : cz.1 + 1 ≤ mc) (h2 : cz.2 + N' ≤ ms) (hS : S ++ [.inr (0, N')] = S') (hc : (cz.1 + 1, cz.2 + N') = cz') (k : G X E S' cz' (pc + 2) ls (.ref (E.1 + q) :: st) h) : G X E S cz pc ls (.int x :: st) h := by
  subst hq; subst hS; subst hc
  exact n_newI N' C N hn hz hd hx0 hN' h1 h2 k
theorem m_newZ {x : Int32} {S' : List dsc} {cz' : Nat × Nat} (N' q : Nat) (C : Ok X E own cc nL) (N : OkN X E n0 mc ms) (hq : S.length = q) (hn : q = n0 + cz.1) (hz : ∀ k, h q k = 0) (hd : decode cc pc = .ok (.newarray .boolean, 2)) (hx0 : x = nI N') (hN' : N' ≤ 1000) (h1 : cz.1 + 1 ≤ mc) (h2 : cz.2 + N' ≤ ms) (hS : S ++ [.inr (1, N')] = S') (hc : (cz.1 + 1, cz.2 + N') = cz') (k : G X E S' cz' (pc + 2) ls (.ref (E.1 + q) :: st) h) : G X E S cz pc ls (.int x :: st) h := by
  subst hq; subst hS; subst hc
  exact n_newZ N' C N hn hz hd hx0 hN' h1 h2 k
theorem m_newQ {x : Int32} {idx : Nat} {S' : List dsc} {cz' : Nat × Nat} (N' q : Nat) (C : Ok X E own cc nL) (N : OkN X E n0 mc ms) (hq : S.length = q) (hn : q = n0 + cz.1) (hz : ∀ k, h q k = 0) (hd : decode cc pc = .ok (.anewarray idx, 3)) (w : Cond.classLink own idx RX1 ∈ lw_tbl) (hx0 : x = nI N') (hN' : N' ≤ 1000) (h1 : cz.1 + 1 ≤ mc) (h2 : cz.2 + N' ≤ ms) (hS : S ++ [.inr (2, N')] = S') (hc : (cz.1 + 1, cz.2 + N') = cz') (k : G X E S' cz' (pc + 3) ls (.ref (E.1 + q) :: st) h) : G X E S cz pc ls (.int x :: st) h := by
  subst hq; subst hS; subst hc
  exact n_newQ N' C N hn hz hd w hx0 hN' h1 h2 k
theorem m_new {idx ci : Nat} {kds : List Nat} {r : vw_C} {S' : List dsc} {cz' : Nat × Nat} (q : Nat) (C : Ok X E own cc nL) (N : OkN X E n0 mc ms) (hq : S.length = q) (hn : q = n0 + cz.1) (hz : ∀ k, h q k = 0) (hd : decode cc pc = .ok (.new idx, 3)) (hc : classes[ci]? = some r) (w : Cond.classLink own idx r.1 ∈ lw_tbl) (wi : Cond.instantiable r.1 r.2.2 ∈ lw_tbl) (wn : Cond.initialized r.1 ∈ lw_tbl) (ty : Nat → FieldType) (hty : ∀ k, k < r.2.2 → parseFieldDescriptor (r.2.1 k).2.2.1 = some (ty k)) (hfs : ∀ j, j < r.2.2 → defaultValue (ty j) = vp_V (fvs E.1 (fun _ => 0) 0 kds) j) (h1 : cz.1 + 1 ≤ mc) (h2 : cz.2 + r.2.2 ≤ ms) (hS : S ++ [.inl (ci, kds)] = S') (hcz : (cz.1 + 1, cz.2 + r.2.2) = cz') (k : G X E S' cz' (pc + 3) ls (.ref (E.1 + q) :: st) h) : G X E S cz pc ls st h := by
  subst hq; subst hS; subst hcz
  exact n_new C N hn hz hd hc w wi wn ty hty hfs h1 h2 k
theorem m_initN {M : Mr} {idx d1 i mc1 ms1 : Nat} {rest : List Value} {S1 S2 S' : List dsc} {cz' : Nat × Nat} (C : Ok X E own cc nL) (N : OkN X E n0 mc ms) (L : Ln X l) (hR : Rm X d1 M.2.2.1) (hd : decode cc pc = .ok (.invokespecial idx, 3)) (h' : Hp) (hM : SpN l E S1 d1 mc1 ms1 M [.ref (E.1 + i)] h S2 (PD none h')) (hS : S = S1) (hn : S1.length = n0 + cz.1) (hS2 : S2 = S') (w : (own, idx, M.1) ∈ nzl) (mw : MI M) (hcat : (rest.map fun v => v.category).sum ≤ 8) (h1 : cz.1 + mc1 ≤ mc) (h2 : cz.2 + ms1 ≤ ms) (hcz : (cz.1 + mc1, cz.2 + ms1) = cz')
    (kk : G X E S' cz' (pc + 3) ls rest h') : G X E S cz pc ls (.ref (E.1 + i) :: rest) h := by
  subst hS; subst hS2; subst hcz
  exact n_initN C N L hR hn hd hM w mw hcat h1 h2 (fun v g q => by obtain ⟨rfl, rfl⟩ := q; exact kk)
theorem m_putF {idx i ci k r : Nat} {kds : List Nat} {ty : FieldType} {S' : List dsc} (C : Ok X E own cc nL) (I : Ini X) (hd : decode cc pc = .ok (.putfield idx, 3)) (w : FF own idx ci k ty) (hi : S[i]? = some (.inl (ci, kds))) (hk : k < kds.length) (hn : ∀ a, narrow ty (.ref a) = .ref a) (hf : ∀ a, fits ty (.ref a) = true) (hS : S.set i (.inl (ci, kds.set k (r + 3))) = S') (kk : G X E S' cz (pc + 3) ls st h) : G X E S cz pc ls (.ref (E.1 + r) :: .ref (E.1 + i) :: st) h := by
  subst hS
  exact n_putF C I hd w hi hk hn hf kk
theorem m_putV {idx i ci k r : Nat} {kds : List Nat} {cn : String} {S' : List dsc} (C : Ok X E own cc nL) (hd : decode cc pc = .ok (.putfield idx, 3)) (w : FW own idx ci k (.object cn)) (hi : S[i]? = some (.inl (ci, kds))) (hk : k < kds.length) (hr1 : r < 2147483648) (hS : S.set i (.inl (ci, kds.set k 2)) = S') (kk : G X E S' cz (pc + 3) ls st (up h i k (nI r))) : G X E S cz pc ls (.ref (E.1 + r) :: .ref (E.1 + i) :: st) h := by
  subst hS
  exact n_putV C hd w hi hk hr1 kk
end NR2
theorem mi0 : MI M0_init := ⟨tw_53, tw_3, tw_54, ⟨by decide, by decide, by decide +kernel⟩, rfl, rfl⟩
theorem mi1 : MI M1_init := ⟨tw_168, tw_6, tw_169, ⟨by decide, by decide, by decide +kernel⟩, rfl, rfl⟩
theorem mi2 : MI M2_init := ⟨tw_117, tw_4, tw_118, ⟨by decide, by decide, by decide +kernel⟩, rfl, rfl⟩
theorem mi3 : MI M3_init := ⟨tw_150, tw_5, tw_151, ⟨by decide, by decide, by decide +kernel⟩, rfl, rfl⟩
theorem mi4 : MI M4_init := ⟨tw_24, tw_2, tw_25, ⟨by decide, by decide, by decide +kernel⟩, rfl, rfl⟩
theorem mi5 : MI M5_init := ⟨tw_218, tw_8, tw_219, ⟨by decide, by decide, by decide +kernel⟩, rfl, rfl⟩
theorem mi6 : MI M6_init := ⟨tw_187, tw_7, tw_188, ⟨by decide, by decide, by decide +kernel⟩, rfl, rfl⟩
theorem mi7 : MI M7_init := ⟨tw_16, tw_1, tw_17, ⟨by decide, by decide, by decide +kernel⟩, rfl, rfl⟩
theorem mi8 : MI M8_init := ⟨tw_667, tw_9, tw_668, ⟨by decide, by decide, by decide +kernel⟩, rfl, rfl⟩
theorem hf0 : ∀ j, j < 12 → defaultValue (tyX0 j) = vp_V (fvs E.1 (fun _ => 0) 0 [0, 0, 0, 0, 0, 1, 1, 1, 1, 1, 1, 1]) j
  | 0, _ => rfl
  | 1, _ => rfl
  | 2, _ => rfl
  | 3, _ => rfl
  | 4, _ => rfl
  | 5, _ => rfl
  | 6, _ => rfl
  | 7, _ => rfl
  | 8, _ => rfl
  | 9, _ => rfl
  | 10, _ => rfl
  | 11, _ => rfl
theorem hf1 : ∀ j, j < 3 → defaultValue (tyX1 j) = vp_V (fvs E.1 (fun _ => 0) 0 [1, 0, 0]) j
  | 0, _ => rfl
  | 1, _ => rfl
  | 2, _ => rfl
theorem hf2 : ∀ j, j < 6 → defaultValue (tyX2 j) = vp_V (fvs E.1 (fun _ => 0) 0 [0, 0, 0, 0, 1, 1]) j
  | 0, _ => rfl
  | 1, _ => rfl
  | 2, _ => rfl
  | 3, _ => rfl
  | 4, _ => rfl
  | 5, _ => rfl
theorem hf3 : ∀ j, j < 3 → defaultValue (tyX3 j) = vp_V (fvs E.1 (fun _ => 0) 0 [1, 0, 0]) j
  | 0, _ => rfl
  | 1, _ => rfl
  | 2, _ => rfl
theorem hf4 : ∀ j, j < 6 → defaultValue (tyX4 j) = vp_V (fvs E.1 (fun _ => 0) 0 [1, 1, 0, 0, 0, 0]) j
  | 0, _ => rfl
  | 1, _ => rfl
  | 2, _ => rfl
  | 3, _ => rfl
  | 4, _ => rfl
  | 5, _ => rfl
theorem hf5 : ∀ j, j < 5 → defaultValue (tyX5 j) = vp_V (fvs E.1 (fun _ => 0) 0 [1, 1, 1, 1, 1]) j
  | 0, _ => rfl
  | 1, _ => rfl
  | 2, _ => rfl
  | 3, _ => rfl
  | 4, _ => rfl
theorem hf6 : ∀ j, j < 7 → defaultValue (tyX6 j) = vp_V (fvs E.1 (fun _ => 0) 0 [1, 1, 1, 1, 1, 0, 0]) j
  | 0, _ => rfl
  | 1, _ => rfl
  | 2, _ => rfl
  | 3, _ => rfl
  | 4, _ => rfl
  | 5, _ => rfl
  | 6, _ => rfl
theorem hf7 : ∀ j, j < 10 → defaultValue (tyX7 j) = vp_V (fvs E.1 (fun _ => 0) 0 [1, 1, 1, 1, 1, 1, 1, 1, 0, 0]) j
  | 0, _ => rfl
  | 1, _ => rfl
  | 2, _ => rfl
  | 3, _ => rfl
  | 4, _ => rfl
  | 5, _ => rfl
  | 6, _ => rfl
  | 7, _ => rfl
  | 8, _ => rfl
  | 9, _ => rfl
theorem hf8 : ∀ j, j < 37 → defaultValue (tyX8 j) = vp_V (fvs E.1 (fun _ => 0) 0 [0, 1, 0, 0, 0, 0, 0, 0, 0, 0, 0, 0, 1, 1, 1, 0, 0, 0, 1, 1, 1, 1, 1, 1, 1, 1, 0, 1, 1, 1, 0, 0, 1, 0, 1, 1, 0]) j
  | 0, _ => rfl
  | 1, _ => rfl
  | 2, _ => rfl
  | 3, _ => rfl
  | 4, _ => rfl
  | 5, _ => rfl
  | 6, _ => rfl
  | 7, _ => rfl
  | 8, _ => rfl
  | 9, _ => rfl
  | 10, _ => rfl
  | 11, _ => rfl
  | 12, _ => rfl
  | 13, _ => rfl
  | 14, _ => rfl
  | 15, _ => rfl
  | 16, _ => rfl
  | 17, _ => rfl
  | 18, _ => rfl
  | 19, _ => rfl
  | 20, _ => rfl
  | 21, _ => rfl
  | 22, _ => rfl
  | 23, _ => rfl
  | 24, _ => rfl
  | 25, _ => rfl
  | 26, _ => rfl
  | 27, _ => rfl
  | 28, _ => rfl
  | 29, _ => rfl
  | 30, _ => rfl
  | 31, _ => rfl
  | 32, _ => rfl
  | 33, _ => rfl
  | 34, _ => rfl
  | 35, _ => rfl
  | 36, _ => rfl
  | n + 37, hj => absurd hj (by omega)
theorem ffX0_9 : FF RX0 9 0 5 (.array .int) := ⟨_, rfl, by decide, tw_72, rfl, rfl, by decide +kernel⟩
theorem ffX0_15 : FF RX0 15 0 6 (.array .int) := ⟨_, rfl, by decide, tw_74, rfl, rfl, by decide +kernel⟩
theorem ffX0_18 : FF RX0 18 0 7 (.array .int) := ⟨_, rfl, by decide, tw_76, rfl, rfl, by decide +kernel⟩
theorem ffX0_21 : FF RX0 21 0 8 (.array .int) := ⟨_, rfl, by decide, tw_78, rfl, rfl, by decide +kernel⟩
theorem ffX0_24 : FF RX0 24 0 9 (.array .int) := ⟨_, rfl, by decide, tw_82, rfl, rfl, by decide +kernel⟩
theorem ffX0_27 : FF RX0 27 0 10 (.array .int) := ⟨_, rfl, by decide, tw_85, rfl, rfl, by decide +kernel⟩
theorem ffX0_30 : FF RX0 30 0 11 (.array .int) := ⟨_, rfl, by decide, tw_87, rfl, rfl, by decide +kernel⟩
set_option maxHeartbeats 4000000 in
theorem s0_init {P : List dsc} {o : Nat} (ho : P.length = o) (hz : ∀ a, o < a → ∀ k, h a k = 0) : SpN l E (P ++ [.inl (0, [0, 0, 0, 0, 0, 1, 1, 1, 1, 1, 1, 1])]) 1 7 37 M0_init [.ref (E.1 + o)] h (P ++ [.inl (0, [0, 0, 0, 0, 0, (o + 1) + 3, (o + 2) + 3, (o + 3) + 3, (o + 4) + 3, (o + 5) + 3, (o + 6) + 3, (o + 7) + 3]), .inr (0, 6), .inr (0, 6), .inr (0, 6), .inr (0, 6), .inr (0, 6), .inr (0, 3), .inr (0, 4)]) (PD none (h)) := by
  refine SpN.of (by decide) (by decide) rfl rfl (by decide) (fun X C N I Lx F hR => ?_)
  have C : Ok X E RX0 cX0_init 1 := C
  rw [len_ok ho] at N
  have N : OkN X E (o + 1) 7 37 := N
  refine r_aload_n C dX0_init_0 rfl ?_
  refine n_obj C N dX0_init_1 tw_55 (Nat.le_of_ble_eq_true rfl) ?_
  refine r_aload_n C dX0_init_4 rfl ?_
  refine r_bipush (6) C dX0_init_5 rfl ?_
  refine m_newI (6) (o + 1) C N (len_ok ho) (by omega) (fun k => by first | exact hz (o + 1) (by omega) k | (rw [up_row _ _ _ _ (by omega)]; exact hz (o + 1) (by omega) k)) dX0_init_7 rfl (by decide) (by decide) (by decide) (by rw [List.append_assoc]; rfl) rfl (S' := P ++ [.inl (0, [0, 0, 0, 0, 0, 1, 1, 1, 1, 1, 1, 1]), .inr (0, 6)]) ?_
  refine m_putF (r := o + 1) C I dX0_init_9 ffX0_9 ((get_ok (k := 0) ho).trans rfl) (Nat.le_of_ble_eq_true rfl) (fun _ => rfl) (fun _ => rfl) (set_ok (k := 0) ho) (S' := P ++ [.inl (0, [0, 0, 0, 0, 0, (o + 1) + 3, 1, 1, 1, 1, 1, 1]), .inr (0, 6)]) ?_
  refine r_aload_n C dX0_init_12 rfl ?_
  refine r_bipush (6) C dX0_init_13 rfl ?_
  refine m_newI (6) (o + 2) C N (len_ok ho) (by omega) (fun k => by first | exact hz (o + 2) (by omega) k | (rw [up_row _ _ _ _ (by omega)]; exact hz (o + 2) (by omega) k)) dX0_init_15 rfl (by decide) (by decide) (by decide) (by rw [List.append_assoc]; rfl) rfl (S' := P ++ [.inl (0, [0, 0, 0, 0, 0, (o + 1) + 3, 1, 1, 1, 1, 1, 1]), .inr (0, 6), .inr (0, 6)]) ?_
  refine m_putF (r := o + 2) C I dX0_init_17 ffX0_15 ((get_ok (k := 0) ho).trans rfl) (Nat.le_of_ble_eq_true rfl) (fun _ => rfl) (fun _ => rfl) (set_ok (k := 0) ho) (S' := P ++ [.inl (0, [0, 0, 0, 0, 0, (o + 1) + 3, (o + 2) + 3, 1, 1, 1, 1, 1]), .inr (0, 6), .inr (0, 6)]) ?_
  refine r_aload_n C dX0_init_20 rfl ?_
  refine r_bipush (6) C dX0_init_21 rfl ?_
  refine m_newI (6) (o + 3) C N (len_ok ho) (by omega) (fun k => by first | exact hz (o + 3) (by omega) k | (rw [up_row _ _ _ _ (by omega)]; exact hz (o + 3) (by omega) k)) dX0_init_23 rfl (by decide) (by decide) (by decide) (by rw [List.append_assoc]; rfl) rfl (S' := P ++ [.inl (0, [0, 0, 0, 0, 0, (o + 1) + 3, (o + 2) + 3, 1, 1, 1, 1, 1]), .inr (0, 6), .inr (0, 6), .inr (0, 6)]) ?_
  refine m_putF (r := o + 3) C I dX0_init_25 ffX0_18 ((get_ok (k := 0) ho).trans rfl) (Nat.le_of_ble_eq_true rfl) (fun _ => rfl) (fun _ => rfl) (set_ok (k := 0) ho) (S' := P ++ [.inl (0, [0, 0, 0, 0, 0, (o + 1) + 3, (o + 2) + 3, (o + 3) + 3, 1, 1, 1, 1]), .inr (0, 6), .inr (0, 6), .inr (0, 6)]) ?_
  refine r_aload_n C dX0_init_28 rfl ?_
  refine r_bipush (6) C dX0_init_29 rfl ?_
  refine m_newI (6) (o + 4) C N (len_ok ho) (by omega) (fun k => by first | exact hz (o + 4) (by omega) k | (rw [up_row _ _ _ _ (by omega)]; exact hz (o + 4) (by omega) k)) dX0_init_31 rfl (by decide) (by decide) (by decide) (by rw [List.append_assoc]; rfl) rfl (S' := P ++ [.inl (0, [0, 0, 0, 0, 0, (o + 1) + 3, (o + 2) + 3, (o + 3) + 3, 1, 1, 1, 1]), .inr (0, 6), .inr (0, 6), .inr (0, 6), .inr (0, 6)]) ?_
  refine m_putF (r := o + 4) C I dX0_init_33 ffX0_21 ((get_ok (k := 0) ho).trans rfl) (Nat.le_of_ble_eq_true rfl) (fun _ => rfl) (fun _ => rfl) (set_ok (k := 0) ho) (S' := P ++ [.inl (0, [0, 0, 0, 0, 0, (o + 1) + 3, (o + 2) + 3, (o + 3) + 3, (o + 4) + 3, 1, 1, 1]), .inr (0, 6), .inr (0, 6), .inr (0, 6), .inr (0, 6)]) ?_
  refine r_aload_n C dX0_init_36 rfl ?_
  refine r_bipush (6) C dX0_init_37 rfl ?_
  refine m_newI (6) (o + 5) C N (len_ok ho) (by omega) (fun k => by first | exact hz (o + 5) (by omega) k | (rw [up_row _ _ _ _ (by omega)]; exact hz (o + 5) (by omega) k)) dX0_init_39 rfl (by decide) (by decide) (by decide) (by rw [List.append_assoc]; rfl) rfl (S' := P ++ [.inl (0, [0, 0, 0, 0, 0, (o + 1) + 3, (o + 2) + 3, (o + 3) + 3, (o + 4) + 3, 1, 1, 1]), .inr (0, 6), .inr (0, 6), .inr (0, 6), .inr (0, 6), .inr (0, 6)]) ?_
  refine m_putF (r := o + 5) C I dX0_init_41 ffX0_24 ((get_ok (k := 0) ho).trans rfl) (Nat.le_of_ble_eq_true rfl) (fun _ => rfl) (fun _ => rfl) (set_ok (k := 0) ho) (S' := P ++ [.inl (0, [0, 0, 0, 0, 0, (o + 1) + 3, (o + 2) + 3, (o + 3) + 3, (o + 4) + 3, (o + 5) + 3, 1, 1]), .inr (0, 6), .inr (0, 6), .inr (0, 6), .inr (0, 6), .inr (0, 6)]) ?_
  refine r_aload_n C dX0_init_44 rfl ?_
  refine r_iconst (3) C dX0_init_45 rfl ?_
  refine m_newI (3) (o + 6) C N (len_ok ho) (by omega) (fun k => by first | exact hz (o + 6) (by omega) k | (rw [up_row _ _ _ _ (by omega)]; exact hz (o + 6) (by omega) k)) dX0_init_46 rfl (by decide) (by decide) (by decide) (by rw [List.append_assoc]; rfl) rfl (S' := P ++ [.inl (0, [0, 0, 0, 0, 0, (o + 1) + 3, (o + 2) + 3, (o + 3) + 3, (o + 4) + 3, (o + 5) + 3, 1, 1]), .inr (0, 6), .inr (0, 6), .inr (0, 6), .inr (0, 6), .inr (0, 6), .inr (0, 3)]) ?_
  refine m_putF (r := o + 6) C I dX0_init_48 ffX0_27 ((get_ok (k := 0) ho).trans rfl) (Nat.le_of_ble_eq_true rfl) (fun _ => rfl) (fun _ => rfl) (set_ok (k := 0) ho) (S' := P ++ [.inl (0, [0, 0, 0, 0, 0, (o + 1) + 3, (o + 2) + 3, (o + 3) + 3, (o + 4) + 3, (o + 5) + 3, (o + 6) + 3, 1]), .inr (0, 6), .inr (0, 6), .inr (0, 6), .inr (0, 6), .inr (0, 6), .inr (0, 3)]) ?_
  refine r_aload_n C dX0_init_51 rfl ?_
  refine r_iconst (4) C dX0_init_52 rfl ?_
  refine m_newI (4) (o + 7) C N (len_ok ho) (by omega) (fun k => by first | exact hz (o + 7) (by omega) k | (rw [up_row _ _ _ _ (by omega)]; exact hz (o + 7) (by omega) k)) dX0_init_53 rfl (by decide) (by decide) (by decide) (by rw [List.append_assoc]; rfl) rfl (S' := P ++ [.inl (0, [0, 0, 0, 0, 0, (o + 1) + 3, (o + 2) + 3, (o + 3) + 3, (o + 4) + 3, (o + 5) + 3, (o + 6) + 3, 1]), .inr (0, 6), .inr (0, 6), .inr (0, 6), .inr (0, 6), .inr (0, 6), .inr (0, 3), .inr (0, 4)]) ?_
  refine m_putF (r := o + 7) C I dX0_init_55 ffX0_30 ((get_ok (k := 0) ho).trans rfl) (Nat.le_of_ble_eq_true rfl) (fun _ => rfl) (fun _ => rfl) (set_ok (k := 0) ho) (S' := P ++ [.inl (0, [0, 0, 0, 0, 0, (o + 1) + 3, (o + 2) + 3, (o + 3) + 3, (o + 4) + 3, (o + 5) + 3, (o + 6) + 3, (o + 7) + 3]), .inr (0, 6), .inr (0, 6), .inr (0, 6), .inr (0, 6), .inr (0, 6), .inr (0, 3), .inr (0, 4)]) ?_
  exact n_vret C F dX0_init_58 rfl ⟨rfl, rfl⟩
theorem ffX1_9 : FF RX1 9 1 0 (.array .int) := ⟨_, rfl, by decide, tw_171, rfl, rfl, by decide +kernel⟩
set_option maxHeartbeats 4000000 in
theorem s1_init {P : List dsc} {o : Nat} (ho : P.length = o) (hz : ∀ a, o < a → ∀ k, h a k = 0) : SpN l E (P ++ [.inl (1, [1, 0, 0])]) 1 1 16 M1_init [.ref (E.1 + o)] h (P ++ [.inl (1, [(o + 1) + 3, 0, 0]), .inr (0, 16)]) (PD none (h)) := by
  refine SpN.of (by decide) (by decide) rfl rfl (by decide) (fun X C N I Lx F hR => ?_)
  have C : Ok X E RX1 cX1_init 1 := C
  rw [len_ok ho] at N
  have N : OkN X E (o + 1) 1 16 := N
  refine r_aload_n C dX1_init_0 rfl ?_
  refine n_obj C N dX1_init_1 tw_170 (Nat.le_of_ble_eq_true rfl) ?_
  refine r_aload_n C dX1_init_4 rfl ?_
  refine r_bipush (16) C dX1_init_5 rfl ?_
  refine m_newI (16) (o + 1) C N (len_ok ho) (by omega) (fun k => by first | exact hz (o + 1) (by omega) k | (rw [up_row _ _ _ _ (by omega)]; exact hz (o + 1) (by omega) k)) dX1_init_7 rfl (by decide) (by decide) (by decide) (by rw [List.append_assoc]; rfl) rfl (S' := P ++ [.inl (1, [1, 0, 0]), .inr (0, 16)]) ?_
  refine m_putF (r := o + 1) C I dX1_init_9 ffX1_9 ((get_ok (k := 0) ho).trans rfl) (Nat.le_of_ble_eq_true rfl) (fun _ => rfl) (fun _ => rfl) (set_ok (k := 0) ho) (S' := P ++ [.inl (1, [(o + 1) + 3, 0, 0]), .inr (0, 16)]) ?_
  exact n_vret C F dX1_init_12 rfl ⟨rfl, rfl⟩
theorem ffX2_9 : FF RX2 9 2 4 (.array .int) := ⟨_, rfl, by decide, tw_129, rfl, rfl, by decide +kernel⟩
theorem ffX2_15 : FF RX2 15 2 5 (.array .int) := ⟨_, rfl, by decide, tw_131, rfl, rfl, by decide +kernel⟩
set_option maxHeartbeats 4000000 in
theorem s2_init {P : List dsc} {o : Nat} (ho : P.length = o) (hz : ∀ a, o < a → ∀ k, h a k = 0) : SpN l E (P ++ [.inl (2, [0, 0, 0, 0, 1, 1])]) 1 2 12 M2_init [.ref (E.1 + o)] h (P ++ [.inl (2, [0, 0, 0, 0, (o + 1) + 3, (o + 2) + 3]), .inr (0, 6), .inr (0, 6)]) (PD none (h)) := by
  refine SpN.of (by decide) (by decide) rfl rfl (by decide) (fun X C N I Lx F hR => ?_)
  have C : Ok X E RX2 cX2_init 1 := C
  rw [len_ok ho] at N
  have N : OkN X E (o + 1) 2 12 := N
  refine r_aload_n C dX2_init_0 rfl ?_
  refine n_obj C N dX2_init_1 tw_119 (Nat.le_of_ble_eq_true rfl) ?_
  refine r_aload_n C dX2_init_4 rfl ?_
  refine r_bipush (6) C dX2_init_5 rfl ?_
  refine m_newI (6) (o + 1) C N (len_ok ho) (by omega) (fun k => by first | exact hz (o + 1) (by omega) k | (rw [up_row _ _ _ _ (by omega)]; exact hz (o + 1) (by omega) k)) dX2_init_7 rfl (by decide) (by decide) (by decide) (by rw [List.append_assoc]; rfl) rfl (S' := P ++ [.inl (2, [0, 0, 0, 0, 1, 1]), .inr (0, 6)]) ?_
  refine m_putF (r := o + 1) C I dX2_init_9 ffX2_9 ((get_ok (k := 0) ho).trans rfl) (Nat.le_of_ble_eq_true rfl) (fun _ => rfl) (fun _ => rfl) (set_ok (k := 0) ho) (S' := P ++ [.inl (2, [0, 0, 0, 0, (o + 1) + 3, 1]), .inr (0, 6)]) ?_
  refine r_aload_n C dX2_init_12 rfl ?_
  refine r_bipush (6) C dX2_init_13 rfl ?_
  refine m_newI (6) (o + 2) C N (len_ok ho) (by omega) (fun k => by first | exact hz (o + 2) (by omega) k | (rw [up_row _ _ _ _ (by omega)]; exact hz (o + 2) (by omega) k)) dX2_init_15 rfl (by decide) (by decide) (by decide) (by rw [List.append_assoc]; rfl) rfl (S' := P ++ [.inl (2, [0, 0, 0, 0, (o + 1) + 3, 1]), .inr (0, 6), .inr (0, 6)]) ?_
  refine m_putF (r := o + 2) C I dX2_init_17 ffX2_15 ((get_ok (k := 0) ho).trans rfl) (Nat.le_of_ble_eq_true rfl) (fun _ => rfl) (fun _ => rfl) (set_ok (k := 0) ho) (S' := P ++ [.inl (2, [0, 0, 0, 0, (o + 1) + 3, (o + 2) + 3]), .inr (0, 6), .inr (0, 6)]) ?_
  exact n_vret C F dX2_init_20 rfl ⟨rfl, rfl⟩
theorem ffX3_11 : FF RX3 11 3 0 (.array .int) := ⟨_, rfl, by decide, tw_153, rfl, rfl, by decide +kernel⟩
set_option maxHeartbeats 4000000 in
theorem s3_init {P : List dsc} {o : Nat} (ho : P.length = o) (hz : ∀ a, o < a → ∀ k, h a k = 0) : SpN l E (P ++ [.inl (3, [1, 0, 0])]) 1 1 480 M3_init [.ref (E.1 + o)] h (P ++ [.inl (3, [(o + 1) + 3, 0, 0]), .inr (0, 480)]) (PD none (h)) := by
  refine SpN.of (by decide) (by decide) rfl rfl (by decide) (fun X C N I Lx F hR => ?_)
  have C : Ok X E RX3 cX3_init 1 := C
  rw [len_ok ho] at N
  have N : OkN X E (o + 1) 1 480 := N
  refine r_aload_n C dX3_init_0 rfl ?_
  refine n_obj C N dX3_init_1 tw_152 (Nat.le_of_ble_eq_true rfl) ?_
  refine r_aload_n C dX3_init_4 rfl ?_
  refine r_sipush (480) C dX3_init_5 rfl ?_
  refine m_newI (480) (o + 1) C N (len_ok ho) (by omega) (fun k => by first | exact hz (o + 1) (by omega) k | (rw [up_row _ _ _ _ (by omega)]; exact hz (o + 1) (by omega) k)) dX3_init_8 rfl (by decide) (by decide) (by decide) (by rw [List.append_assoc]; rfl) rfl (S' := P ++ [.inl (3, [1, 0, 0]), .inr (0, 480)]) ?_
  refine m_putF (r := o + 1) C I dX3_init_10 ffX3_11 ((get_ok (k := 0) ho).trans rfl) (Nat.le_of_ble_eq_true rfl) (fun _ => rfl) (fun _ => rfl) (set_ok (k := 0) ho) (S' := P ++ [.inl (3, [(o + 1) + 3, 0, 0]), .inr (0, 480)]) ?_
  exact n_vret C F dX3_init_13 rfl ⟨rfl, rfl⟩
theorem ffX4_9 : FF RX4 9 4 0 (.array .int) := ⟨_, rfl, by decide, tw_27, rfl, rfl, by decide +kernel⟩
theorem ffX4_15 : FF RX4 15 4 1 (.array .int) := ⟨_, rfl, by decide, tw_28, rfl, rfl, by decide +kernel⟩
set_option maxHeartbeats 4000000 in
theorem s4_init {P : List dsc} {o : Nat} (ho : P.length = o) (hz : ∀ a, o < a → ∀ k, h a k = 0) : SpN l E (P ++ [.inl (4, [1, 1, 0, 0, 0, 0])]) 1 2 203 M4_init [.ref (E.1 + o)] h (P ++ [.inl (4, [(o + 1) + 3, (o + 2) + 3, 0, 0, 0, 0]), .inr (0, 200), .inr (0, 3)]) (PD none (h)) := by
  refine SpN.of (by decide) (by decide) rfl rfl (by decide) (fun X C N I Lx F hR => ?_)
  have C : Ok X E RX4 cX4_init 1 := C
  rw [len_ok ho] at N
  have N : OkN X E (o + 1) 2 203 := N
  refine r_aload_n C dX4_init_0 rfl ?_
  refine n_obj C N dX4_init_1 tw_26 (Nat.le_of_ble_eq_true rfl) ?_
  refine r_aload_n C dX4_init_4 rfl ?_
  refine r_sipush (200) C dX4_init_5 rfl ?_
  refine m_newI (200) (o + 1) C N (len_ok ho) (by omega) (fun k => by first | exact hz (o + 1) (by omega) k | (rw [up_row _ _ _ _ (by omega)]; exact hz (o + 1) (by omega) k)) dX4_init_8 rfl (by decide) (by decide) (by decide) (by rw [List.append_assoc]; rfl) rfl (S' := P ++ [.inl (4, [1, 1, 0, 0, 0, 0]), .inr (0, 200)]) ?_
  refine m_putF (r := o + 1) C I dX4_init_10 ffX4_9 ((get_ok (k := 0) ho).trans rfl) (Nat.le_of_ble_eq_true rfl) (fun _ => rfl) (fun _ => rfl) (set_ok (k := 0) ho) (S' := P ++ [.inl (4, [(o + 1) + 3, 1, 0, 0, 0, 0]), .inr (0, 200)]) ?_
  refine r_aload_n C dX4_init_13 rfl ?_
  refine r_iconst (3) C dX4_init_14 rfl ?_
  refine m_newI (3) (o + 2) C N (len_ok ho) (by omega) (fun k => by first | exact hz (o + 2) (by omega) k | (rw [up_row _ _ _ _ (by omega)]; exact hz (o + 2) (by omega) k)) dX4_init_15 rfl (by decide) (by decide) (by decide) (by rw [List.append_assoc]; rfl) rfl (S' := P ++ [.inl (4, [(o + 1) + 3, 1, 0, 0, 0, 0]), .inr (0, 200), .inr (0, 3)]) ?_
  refine m_putF (r := o + 2) C I dX4_init_17 ffX4_15 ((get_ok (k := 0) ho).trans rfl) (Nat.le_of_ble_eq_true rfl) (fun _ => rfl) (fun _ => rfl) (set_ok (k := 0) ho) (S' := P ++ [.inl (4, [(o + 1) + 3, (o + 2) + 3, 0, 0, 0, 0]), .inr (0, 200), .inr (0, 3)]) ?_
  exact n_vret C F dX4_init_20 rfl ⟨rfl, rfl⟩
theorem ffX6_9 : FF RX6 9 6 0 (.array .int) := ⟨_, rfl, by decide, tw_190, rfl, rfl, by decide +kernel⟩
theorem ffX6_15 : FF RX6 15 6 1 (.array .int) := ⟨_, rfl, by decide, tw_191, rfl, rfl, by decide +kernel⟩
theorem ffX6_18 : FF RX6 18 6 2 (.array .boolean) := ⟨_, rfl, by decide, tw_192, rfl, rfl, by decide +kernel⟩
theorem ffX6_22 : FF RX6 22 6 3 (.array .int) := ⟨_, rfl, by decide, tw_193, rfl, rfl, by decide +kernel⟩
theorem ffX6_25 : FF RX6 25 6 4 (.array .int) := ⟨_, rfl, by decide, tw_194, rfl, rfl, by decide +kernel⟩
set_option maxHeartbeats 4000000 in
theorem s6_init {P : List dsc} {o : Nat} (ho : P.length = o) (hz : ∀ a, o < a → ∀ k, h a k = 0) : SpN l E (P ++ [.inl (6, [1, 1, 1, 1, 1, 0, 0])]) 1 5 58 M6_init [.ref (E.1 + o)] h (P ++ [.inl (6, [(o + 1) + 3, (o + 2) + 3, (o + 3) + 3, (o + 4) + 3, (o + 5) + 3, 0, 0]), .inr (0, 6), .inr (0, 6), .inr (1, 6), .inr (0, 20), .inr (0, 20)]) (PD none (h)) := by
  refine SpN.of (by decide) (by decide) rfl rfl (by decide) (fun X C N I Lx F hR => ?_)
  have C : Ok X E RX6 cX6_init 1 := C
  rw [len_ok ho] at N
  have N : OkN X E (o + 1) 5 58 := N
  refine r_aload_n C dX6_init_0 rfl ?_
  refine n_obj C N dX6_init_1 tw_189 (Nat.le_of_ble_eq_true rfl) ?_
  refine r_aload_n C dX6_init_4 rfl ?_
  refine r_bipush (6) C dX6_init_5 rfl ?_
  refine m_newI (6) (o + 1) C N (len_ok ho) (by omega) (fun k => by first | exact hz (o + 1) (by omega) k | (rw [up_row _ _ _ _ (by omega)]; exact hz (o + 1) (by omega) k)) dX6_init_7 rfl (by decide) (by decide) (by decide) (by rw [List.append_assoc]; rfl) rfl (S' := P ++ [.inl (6, [1, 1, 1, 1, 1, 0, 0]), .inr (0, 6)]) ?_
  refine m_putF (r := o + 1) C I dX6_init_9 ffX6_9 ((get_ok (k := 0) ho).trans rfl) (Nat.le_of_ble_eq_true rfl) (fun _ => rfl) (fun _ => rfl) (set_ok (k := 0) ho) (S' := P ++ [.inl (6, [(o + 1) + 3, 1, 1, 1, 1, 0, 0]), .inr (0, 6)]) ?_
  refine r_aload_n C dX6_init_12 rfl ?_
  refine r_bipush (6) C dX6_init_13 rfl ?_
  refine m_newI (6) (o + 2) C N (len_ok ho) (by omega) (fun k => by first | exact hz (o + 2) (by omega) k | (rw [up_row _ _ _ _ (by omega)]; exact hz (o + 2) (by omega) k)) dX6_init_15 rfl (by decide) (by decide) (by decide) (by rw [List.append_assoc]; rfl) rfl (S' := P ++ [.inl (6, [(o + 1) + 3, 1, 1, 1, 1, 0, 0]), .inr (0, 6), .inr (0, 6)]) ?_
  refine m_putF (r := o + 2) C I dX6_init_17 ffX6_15 ((get_ok (k := 0) ho).trans rfl) (Nat.le_of_ble_eq_true rfl) (fun _ => rfl) (fun _ => rfl) (set_ok (k := 0) ho) (S' := P ++ [.inl (6, [(o + 1) + 3, (o + 2) + 3, 1, 1, 1, 0, 0]), .inr (0, 6), .inr (0, 6)]) ?_
  refine r_aload_n C dX6_init_20 rfl ?_
  refine r_bipush (6) C dX6_init_21 rfl ?_
  refine m_newZ (6) (o + 3) C N (len_ok ho) (by omega) (fun k => by first | exact hz (o + 3) (by omega) k | (rw [up_row _ _ _ _ (by omega)]; exact hz (o + 3) (by omega) k)) dX6_init_23 rfl (by decide) (by decide) (by decide) (by rw [List.append_assoc]; rfl) rfl (S' := P ++ [.inl (6, [(o + 1) + 3, (o + 2) + 3, 1, 1, 1, 0, 0]), .inr (0, 6), .inr (0, 6), .inr (1, 6)]) ?_
  refine m_putF (r := o + 3) C I dX6_init_25 ffX6_18 ((get_ok (k := 0) ho).trans rfl) (Nat.le_of_ble_eq_true rfl) (fun _ => rfl) (fun _ => rfl) (set_ok (k := 0) ho) (S' := P ++ [.inl (6, [(o + 1) + 3, (o + 2) + 3, (o + 3) + 3, 1, 1, 0, 0]), .inr (0, 6), .inr (0, 6), .inr (1, 6)]) ?_
  refine r_aload_n C dX6_init_28 rfl ?_
  refine r_bipush (20) C dX6_init_29 rfl ?_
  refine m_newI (20) (o + 4) C N (len_ok ho) (by omega) (fun k => by first | exact hz (o + 4) (by omega) k | (rw [up_row _ _ _ _ (by omega)]; exact hz (o + 4) (by omega) k)) dX6_init_31 rfl (by decide) (by decide) (by decide) (by rw [List.append_assoc]; rfl) rfl (S' := P ++ [.inl (6, [(o + 1) + 3, (o + 2) + 3, (o + 3) + 3, 1, 1, 0, 0]), .inr (0, 6), .inr (0, 6), .inr (1, 6), .inr (0, 20)]) ?_
  refine m_putF (r := o + 4) C I dX6_init_33 ffX6_22 ((get_ok (k := 0) ho).trans rfl) (Nat.le_of_ble_eq_true rfl) (fun _ => rfl) (fun _ => rfl) (set_ok (k := 0) ho) (S' := P ++ [.inl (6, [(o + 1) + 3, (o + 2) + 3, (o + 3) + 3, (o + 4) + 3, 1, 0, 0]), .inr (0, 6), .inr (0, 6), .inr (1, 6), .inr (0, 20)]) ?_
  refine r_aload_n C dX6_init_36 rfl ?_
  refine r_bipush (20) C dX6_init_37 rfl ?_
  refine m_newI (20) (o + 5) C N (len_ok ho) (by omega) (fun k => by first | exact hz (o + 5) (by omega) k | (rw [up_row _ _ _ _ (by omega)]; exact hz (o + 5) (by omega) k)) dX6_init_39 rfl (by decide) (by decide) (by decide) (by rw [List.append_assoc]; rfl) rfl (S' := P ++ [.inl (6, [(o + 1) + 3, (o + 2) + 3, (o + 3) + 3, (o + 4) + 3, 1, 0, 0]), .inr (0, 6), .inr (0, 6), .inr (1, 6), .inr (0, 20), .inr (0, 20)]) ?_
  refine m_putF (r := o + 5) C I dX6_init_41 ffX6_25 ((get_ok (k := 0) ho).trans rfl) (Nat.le_of_ble_eq_true rfl) (fun _ => rfl) (fun _ => rfl) (set_ok (k := 0) ho) (S' := P ++ [.inl (6, [(o + 1) + 3, (o + 2) + 3, (o + 3) + 3, (o + 4) + 3, (o + 5) + 3, 0, 0]), .inr (0, 6), .inr (0, 6), .inr (1, 6), .inr (0, 20), .inr (0, 20)]) ?_
  exact n_vret C F dX6_init_44 rfl ⟨rfl, rfl⟩
theorem ffX5_18 : FF RX5 18 5 1 (.array .int) := ⟨_, rfl, by decide, tw_224, rfl, rfl, by decide +kernel⟩
theorem ffX5_22 : FF RX5 22 5 2 (.array .int) := ⟨_, rfl, by decide, tw_225, rfl, rfl, by decide +kernel⟩
theorem ffX5_25 : FF RX5 25 5 3 (.array .int) := ⟨_, rfl, by decide, tw_226, rfl, rfl, by decide +kernel⟩
theorem ffX5_28 : FF RX5 28 5 4 (.array .int) := ⟨_, rfl, by decide, tw_227, rfl, rfl, by decide +kernel⟩
set_option maxHeartbeats 4000000 in
theorem s5_init {P : List dsc} {o : Nat} (ho : P.length = o) (ho2 : o < 2147483000) (hz : ∀ a, o < a → ∀ k, h a k = 0) : SpN l E (P ++ [.inl (5, [1, 1, 1, 1, 1])]) 2 12 124 M5_init [.ref (E.1 + o)] h (P ++ [.inl (5, [2, (o + 9) + 3, (o + 10) + 3, (o + 11) + 3, (o + 12) + 3]), .inl (0, [0, 0, 0, 0, 0, (o + 1 + 1) + 3, (o + 1 + 2) + 3, (o + 1 + 3) + 3, (o + 1 + 4) + 3, (o + 1 + 5) + 3, (o + 1 + 6) + 3, (o + 1 + 7) + 3]), .inr (0, 6), .inr (0, 6), .inr (0, 6), .inr (0, 6), .inr (0, 6), .inr (0, 3), .inr (0, 4), .inr (0, 6), .inr (0, 6), .inr (0, 60), .inr (0, 3)]) (PD none (up (h) (o) 0 (nI (o + 1)))) := by
  refine SpN.of (by decide) (by decide) rfl rfl (by decide) (fun X C N I Lx F hR => ?_)
  have C : Ok X E RX5 cX5_init 1 := C
  rw [len_ok ho] at N
  have N : OkN X E (o + 1) 12 124 := N
  refine r_aload_n C dX5_init_0 rfl ?_
  refine n_obj C N dX5_init_1 tw_220 (Nat.le_of_ble_eq_true rfl) ?_
  refine r_aload_n C dX5_init_4 rfl ?_
  refine m_new (o + 1) C N (len_ok ho) (by omega) (fun k => by first | exact hz (o + 1) (by omega) k | (rw [up_row _ _ _ _ (by omega)]; exact hz (o + 1) (by omega) k)) dX5_init_5 (r := (RX0, TX0, 12)) rfl tw_221 tw_51 tw_3 tyX0 tyX0_ok hf0 (by decide) (by decide) (by rw [List.append_assoc]; rfl) rfl (S' := P ++ [.inl (5, [1, 1, 1, 1, 1]), .inl (0, [0, 0, 0, 0, 0, 1, 1, 1, 1, 1, 1, 1])]) ?_
  refine r_dup C dX5_init_8 rfl ?_
  refine m_initN (i := o + 1) C N Lx (hR 1 1 (by decide) (by decide)) dX5_init_9 (h) (s0_init (P := P ++ [.inl (5, [1, 1, 1, 1, 1])]) (o := o + 1) (by rw [len_ok ho]; rfl) (fun a ha k => hz a (by omega) k)) (by rw [List.append_assoc]; rfl) (by rw [List.length_append, len_ok ho]; simp <;> omega) (by rw [List.append_assoc]; rfl) (by decide) mi0 (Nat.le_of_ble_eq_true rfl) (by decide) (by decide) rfl (S' := P ++ [.inl (5, [1, 1, 1, 1, 1]), .inl (0, [0, 0, 0, 0, 0, (o + 1 + 1) + 3, (o + 1 + 2) + 3, (o + 1 + 3) + 3, (o + 1 + 4) + 3, (o + 1 + 5) + 3, (o + 1 + 6) + 3, (o + 1 + 7) + 3]), .inr (0, 6), .inr (0, 6), .inr (0, 6), .inr (0, 6), .inr (0, 6), .inr (0, 3), .inr (0, 4)]) ?_
  refine m_putV C dX5_init_12 fwX5_12 ((get_ok (k := 0) ho).trans rfl) (Nat.le_of_ble_eq_true rfl) (by omega) (set_ok (k := 0) ho) (S' := P ++ [.inl (5, [2, 1, 1, 1, 1]), .inl (0, [0, 0, 0, 0, 0, (o + 1 + 1) + 3, (o + 1 + 2) + 3, (o + 1 + 3) + 3, (o + 1 + 4) + 3, (o + 1 + 5) + 3, (o + 1 + 6) + 3, (o + 1 + 7) + 3]), .inr (0, 6), .inr (0, 6), .inr (0, 6), .inr (0, 6), .inr (0, 6), .inr (0, 3), .inr (0, 4)]) ?_
  refine r_aload_n C dX5_init_15 rfl ?_
  refine r_bipush (6) C dX5_init_16 rfl ?_
  refine m_newI (6) (o + 9) C N (len_ok ho) (by omega) (fun k => by first | exact hz (o + 9) (by omega) k | (rw [up_row _ _ _ _ (by omega)]; exact hz (o + 9) (by omega) k)) dX5_init_18 rfl (by decide) (by decide) (by decide) (by rw [List.append_assoc]; rfl) rfl (S' := P ++ [.inl (5, [2, 1, 1, 1, 1]), .inl (0, [0, 0, 0, 0, 0, (o + 1 + 1) + 3, (o + 1 + 2) + 3, (o + 1 + 3) + 3, (o + 1 + 4) + 3, (o + 1 + 5) + 3, (o + 1 + 6) + 3, (o + 1 + 7) + 3]), .inr (0, 6), .inr (0, 6), .inr (0, 6), .inr (0, 6), .inr (0, 6), .inr (0, 3), .inr (0, 4), .inr (0, 6)]) ?_
  refine m_putF (r := o + 9) C I dX5_init_20 ffX5_18 ((get_ok (k := 0) ho).trans rfl) (Nat.le_of_ble_eq_true rfl) (fun _ => rfl) (fun _ => rfl) (set_ok (k := 0) ho) (S' := P ++ [.inl (5, [2, (o + 9) + 3, 1, 1, 1]), .inl (0, [0, 0, 0, 0, 0, (o + 1 + 1) + 3, (o + 1 + 2) + 3, (o + 1 + 3) + 3, (o + 1 + 4) + 3, (o + 1 + 5) + 3, (o + 1 + 6) + 3, (o + 1 + 7) + 3]), .inr (0, 6), .inr (0, 6), .inr (0, 6), .inr (0, 6), .inr (0, 6), .inr (0, 3), .inr (0, 4), .inr (0, 6)]) ?_
  refine r_aload_n C dX5_init_23 rfl ?_
  refine r_bipush (6) C dX5_init_24 rfl ?_
  refine m_newI (6) (o + 10) C N (len_ok ho) (by omega) (fun k => by first | exact hz (o + 10) (by omega) k | (rw [up_row _ _ _ _ (by omega)]; exact hz (o + 10) (by omega) k)) dX5_init_26 rfl (by decide) (by decide) (by decide) (by rw [List.append_assoc]; rfl) rfl (S' := P ++ [.inl (5, [2, (o + 9) + 3, 1, 1, 1]), .inl (0, [0, 0, 0, 0, 0, (o + 1 + 1) + 3, (o + 1 + 2) + 3, (o + 1 + 3) + 3, (o + 1 + 4) + 3, (o + 1 + 5) + 3, (o + 1 + 6) + 3, (o + 1 + 7) + 3]), .inr (0, 6), .inr (0, 6), .inr (0, 6), .inr (0, 6), .inr (0, 6), .inr (0, 3), .inr (0, 4), .inr (0, 6), .inr (0, 6)]) ?_
  refine m_putF (r := o + 10) C I dX5_init_28 ffX5_22 ((get_ok (k := 0) ho).trans rfl) (Nat.le_of_ble_eq_true rfl) (fun _ => rfl) (fun _ => rfl) (set_ok (k := 0) ho) (S' := P ++ [.inl (5, [2, (o + 9) + 3, (o + 10) + 3, 1, 1]), .inl (0, [0, 0, 0, 0, 0, (o + 1 + 1) + 3, (o + 1 + 2) + 3, (o + 1 + 3) + 3, (o + 1 + 4) + 3, (o + 1 + 5) + 3, (o + 1 + 6) + 3, (o + 1 + 7) + 3]), .inr (0, 6), .inr (0, 6), .inr (0, 6), .inr (0, 6), .inr (0, 6), .inr (0, 3), .inr (0, 4), .inr (0, 6), .inr (0, 6)]) ?_
  refine r_aload_n C dX5_init_31 rfl ?_
  refine r_bipush (60) C dX5_init_32 rfl ?_
  refine m_newI (60) (o + 11) C N (len_ok ho) (by omega) (fun k => by first | exact hz (o + 11) (by omega) k | (rw [up_row _ _ _ _ (by omega)]; exact hz (o + 11) (by omega) k)) dX5_init_34 rfl (by decide) (by decide) (by decide) (by rw [List.append_assoc]; rfl) rfl (S' := P ++ [.inl (5, [2, (o + 9) + 3, (o + 10) + 3, 1, 1]), .inl (0, [0, 0, 0, 0, 0, (o + 1 + 1) + 3, (o + 1 + 2) + 3, (o + 1 + 3) + 3, (o + 1 + 4) + 3, (o + 1 + 5) + 3, (o + 1 + 6) + 3, (o + 1 + 7) + 3]), .inr (0, 6), .inr (0, 6), .inr (0, 6), .inr (0, 6), .inr (0, 6), .inr (0, 3), .inr (0, 4), .inr (0, 6), .inr (0, 6), .inr (0, 60)]) ?_
  refine m_putF (r := o + 11) C I dX5_init_36 ffX5_25 ((get_ok (k := 0) ho).trans rfl) (Nat.le_of_ble_eq_true rfl) (fun _ => rfl) (fun _ => rfl) (set_ok (k := 0) ho) (S' := P ++ [.inl (5, [2, (o + 9) + 3, (o + 10) + 3, (o + 11) + 3, 1]), .inl (0, [0, 0, 0, 0, 0, (o + 1 + 1) + 3, (o + 1 + 2) + 3, (o + 1 + 3) + 3, (o + 1 + 4) + 3, (o + 1 + 5) + 3, (o + 1 + 6) + 3, (o + 1 + 7) + 3]), .inr (0, 6), .inr (0, 6), .inr (0, 6), .inr (0, 6), .inr (0, 6), .inr (0, 3), .inr (0, 4), .inr (0, 6), .inr (0, 6), .inr (0, 60)]) ?_
  refine r_aload_n C dX5_init_39 rfl ?_
  refine r_iconst (3) C dX5_init_40 rfl ?_
  refine m_newI (3) (o + 12) C N (len_ok ho) (by omega) (fun k => by first | exact hz (o + 12) (by omega) k | (rw [up_row _ _ _ _ (by omega)]; exact hz (o + 12) (by omega) k)) dX5_init_41 rfl (by decide) (by decide) (by decide) (by rw [List.append_assoc]; rfl) rfl (S' := P ++ [.inl (5, [2, (o + 9) + 3, (o + 10) + 3, (o + 11) + 3, 1]), .inl (0, [0, 0, 0, 0, 0, (o + 1 + 1) + 3, (o + 1 + 2) + 3, (o + 1 + 3) + 3, (o + 1 + 4) + 3, (o + 1 + 5) + 3, (o + 1 + 6) + 3, (o + 1 + 7) + 3]), .inr (0, 6), .inr (0, 6), .inr (0, 6), .inr (0, 6), .inr (0, 6), .inr (0, 3), .inr (0, 4), .inr (0, 6), .inr (0, 6), .inr (0, 60), .inr (0, 3)]) ?_
  refine m_putF (r := o + 12) C I dX5_init_43 ffX5_28 ((get_ok (k := 0) ho).trans rfl) (Nat.le_of_ble_eq_true rfl) (fun _ => rfl) (fun _ => rfl) (set_ok (k := 0) ho) (S' := P ++ [.inl (5, [2, (o + 9) + 3, (o + 10) + 3, (o + 11) + 3, (o + 12) + 3]), .inl (0, [0, 0, 0, 0, 0, (o + 1 + 1) + 3, (o + 1 + 2) + 3, (o + 1 + 3) + 3, (o + 1 + 4) + 3, (o + 1 + 5) + 3, (o + 1 + 6) + 3, (o + 1 + 7) + 3]), .inr (0, 6), .inr (0, 6), .inr (0, 6), .inr (0, 6), .inr (0, 6), .inr (0, 3), .inr (0, 4), .inr (0, 6), .inr (0, 6), .inr (0, 60), .inr (0, 3)]) ?_
  exact n_vret C F dX5_init_46 rfl ⟨rfl, rfl⟩
