variable {l : Launch} {E : Ev} {h : Hp}
theorem tz_m : ∀ n, n < 64 → 0 < n → (nI n ^^^ -1) &&& (nI n - 1) = nI (2 ^ tzF n - 1) := by
  have q : ∀ n, n < 64 → (if 0 < n then (nI n ^^^ -1) &&& (nI n - 1) else 0) = (if 0 < n then nI (2 ^ tzF n - 1) else 0) := by decide +kernel
  intro n hn h0
  have := q n hn
  rw [if_pos h0, if_pos h0] at this
  exact this
theorem tz_le (n : Nat) : tzF n ≤ 5 := by
  unfold tzF
  repeat' split
  all_goals decide
set_option maxHeartbeats 4000000 in
theorem sJ6_numberOfTrailingZeros {n : Nat} (hn : n < 64) (h0 : 0 < n) : Sp l E SHP 0 MJ6_numberOfTrailingZeros [.int (nI n)] h (PD (some (.int (nI (tzF n)))) h) := by
  refine Sp.of (by decide) (Nat.le_of_ble_eq_true rfl) (fun X C F => ?_)
  have C : Ok X E RJ6 cJ6_numberOfTrailingZeros_0f7a4 2 := C
  have F : Fn X l E SHP 0 (some FieldType.int) (PD (some (.int (nI (tzF n)))) h) := F
  show G X E SHP (0, 0) 0 [(0, .int (nI n))] [] h
  refine r_iload_n C dJ6_numberOfTrailingZeros_0f7a4_0 rfl ?_
  refine r_iconst (-1) C dJ6_numberOfTrailingZeros_0f7a4_1 rfl ?_
  refine r_ixor C dJ6_numberOfTrailingZeros_0f7a4_2 ?_
  refine r_iload_n C dJ6_numberOfTrailingZeros_0f7a4_3 rfl ?_
  refine r_iconst (1) C dJ6_numberOfTrailingZeros_0f7a4_4 rfl ?_
  refine r_isub C dJ6_numberOfTrailingZeros_0f7a4_5 ?_
  refine r_iand C dJ6_numberOfTrailingZeros_0f7a4_6 ?_
  refine r_istore_n C dJ6_numberOfTrailingZeros_0f7a4_7 (by decide) rfl ?_
  rw [tz_m n hn h0]
  have ht := tz_le n
  generalize tzF n = t at ht F ⊢
  refine r_iload_n C dJ6_numberOfTrailingZeros_0f7a4_8 rfl ?_
  refine r_if_gt 17 C dJ6_numberOfTrailingZeros_0f7a4_9 (by decide) (fun c_9 => ?_) (fun c_9 => ?_)
  · refine r_iconst (1) C dJ6_numberOfTrailingZeros_0f7a4_17 rfl ?_
    refine r_istore_n C dJ6_numberOfTrailingZeros_0f7a4_18 (by decide) rfl ?_
    refine r_iload_n C dJ6_numberOfTrailingZeros_0f7a4_19 rfl ?_
    refine r_ldcw C dJ6_numberOfTrailingZeros_0f7a4_20 tw_380 ?_
    refine r_icmp_le 34 C dJ6_numberOfTrailingZeros_0f7a4_23 (by decide) (fun c_23 => ?_) (fun c_23 => ?_)
    · refine r_iload_n C dJ6_numberOfTrailingZeros_0f7a4_34 rfl ?_
      refine r_sipush (256) C dJ6_numberOfTrailingZeros_0f7a4_35 rfl ?_
      refine r_icmp_le 49 C dJ6_numberOfTrailingZeros_0f7a4_38 (by decide) (fun c_38 => ?_) (fun c_38 => ?_)
      · refine r_iload_n C dJ6_numberOfTrailingZeros_0f7a4_49 rfl ?_
        refine r_bipush (16) C dJ6_numberOfTrailingZeros_0f7a4_50 rfl ?_
        refine r_icmp_le 62 C dJ6_numberOfTrailingZeros_0f7a4_52 (by decide) (fun c_52 => ?_) (fun c_52 => ?_)
        · refine r_iload_n C dJ6_numberOfTrailingZeros_0f7a4_62 rfl ?_
          refine r_iconst (4) C dJ6_numberOfTrailingZeros_0f7a4_63 rfl ?_
          refine r_icmp_le 74 C dJ6_numberOfTrailingZeros_0f7a4_64 (by decide) (fun c_64 => ?_) (fun c_64 => ?_)
          · refine r_iload_n C dJ6_numberOfTrailingZeros_0f7a4_74 rfl ?_
            refine r_iload_n C dJ6_numberOfTrailingZeros_0f7a4_75 rfl ?_
            refine r_iconst (1) C dJ6_numberOfTrailingZeros_0f7a4_76 rfl ?_
            refine r_iushr C dJ6_numberOfTrailingZeros_0f7a4_77 ?_
            refine r_iadd C dJ6_numberOfTrailingZeros_0f7a4_78 ?_
            refine r_iret C F dJ6_numberOfTrailingZeros_0f7a4_79 (pd_i ?_ rfl)
            clear C F
            rcases (show t = 0 ∨ t = 1 ∨ t = 2 ∨ t = 3 ∨ t = 4 ∨ t = 5 by omega) with rfl | rfl | rfl | rfl | rfl | rfl
            all_goals first | exact absurd c_9 (by decide) | exact absurd c_23 (by decide) | exact absurd c_38 (by decide) | exact absurd c_52 (by decide) | exact absurd c_64 (by decide) | rfl | decide
          · refine r_inc (2) C dJ6_numberOfTrailingZeros_0f7a4_67 rfl (by decide) rfl rfl ?_
            refine r_iload_n C dJ6_numberOfTrailingZeros_0f7a4_70 rfl ?_
            refine r_iconst (2) C dJ6_numberOfTrailingZeros_0f7a4_71 rfl ?_
            refine r_iushr C dJ6_numberOfTrailingZeros_0f7a4_72 ?_
            refine r_istore_n C dJ6_numberOfTrailingZeros_0f7a4_73 (by decide) rfl ?_
            refine r_iload_n C dJ6_numberOfTrailingZeros_0f7a4_74 rfl ?_
            refine r_iload_n C dJ6_numberOfTrailingZeros_0f7a4_75 rfl ?_
            refine r_iconst (1) C dJ6_numberOfTrailingZeros_0f7a4_76 rfl ?_
            refine r_iushr C dJ6_numberOfTrailingZeros_0f7a4_77 ?_
            refine r_iadd C dJ6_numberOfTrailingZeros_0f7a4_78 ?_
            refine r_iret C F dJ6_numberOfTrailingZeros_0f7a4_79 (pd_i ?_ rfl)
            clear C F
            rcases (show t = 0 ∨ t = 1 ∨ t = 2 ∨ t = 3 ∨ t = 4 ∨ t = 5 by omega) with rfl | rfl | rfl | rfl | rfl | rfl
            all_goals first | exact absurd c_9 (by decide) | exact absurd c_23 (by decide) | exact absurd c_38 (by decide) | exact absurd c_52 (by decide) | exact absurd c_64 (by decide) | rfl | decide
        · refine r_inc (4) C dJ6_numberOfTrailingZeros_0f7a4_55 rfl (by decide) rfl rfl ?_
          refine r_iload_n C dJ6_numberOfTrailingZeros_0f7a4_58 rfl ?_
          refine r_iconst (4) C dJ6_numberOfTrailingZeros_0f7a4_59 rfl ?_
          refine r_iushr C dJ6_numberOfTrailingZeros_0f7a4_60 ?_
          refine r_istore_n C dJ6_numberOfTrailingZeros_0f7a4_61 (by decide) rfl ?_
          refine r_iload_n C dJ6_numberOfTrailingZeros_0f7a4_62 rfl ?_
          refine r_iconst (4) C dJ6_numberOfTrailingZeros_0f7a4_63 rfl ?_
          refine r_icmp_le 74 C dJ6_numberOfTrailingZeros_0f7a4_64 (by decide) (fun c_64 => ?_) (fun c_64 => ?_)
          · refine r_iload_n C dJ6_numberOfTrailingZeros_0f7a4_74 rfl ?_
            refine r_iload_n C dJ6_numberOfTrailingZeros_0f7a4_75 rfl ?_
            refine r_iconst (1) C dJ6_numberOfTrailingZeros_0f7a4_76 rfl ?_
            refine r_iushr C dJ6_numberOfTrailingZeros_0f7a4_77 ?_
            refine r_iadd C dJ6_numberOfTrailingZeros_0f7a4_78 ?_
            refine r_iret C F dJ6_numberOfTrailingZeros_0f7a4_79 (pd_i ?_ rfl)
            clear C F
            rcases (show t = 0 ∨ t = 1 ∨ t = 2 ∨ t = 3 ∨ t = 4 ∨ t = 5 by omega) with rfl | rfl | rfl | rfl | rfl | rfl
            all_goals first | exact absurd c_9 (by decide) | exact absurd c_23 (by decide) | exact absurd c_38 (by decide) | exact absurd c_52 (by decide) | exact absurd c_64 (by decide) | rfl | decide
          · refine r_inc (2) C dJ6_numberOfTrailingZeros_0f7a4_67 rfl (by decide) rfl rfl ?_
            refine r_iload_n C dJ6_numberOfTrailingZeros_0f7a4_70 rfl ?_
            refine r_iconst (2) C dJ6_numberOfTrailingZeros_0f7a4_71 rfl ?_
            refine r_iushr C dJ6_numberOfTrailingZeros_0f7a4_72 ?_
            refine r_istore_n C dJ6_numberOfTrailingZeros_0f7a4_73 (by decide) rfl ?_
            refine r_iload_n C dJ6_numberOfTrailingZeros_0f7a4_74 rfl ?_
            refine r_iload_n C dJ6_numberOfTrailingZeros_0f7a4_75 rfl ?_
            refine r_iconst (1) C dJ6_numberOfTrailingZeros_0f7a4_76 rfl ?_
            refine r_iushr C dJ6_numberOfTrailingZeros_0f7a4_77 ?_
            refine r_iadd C dJ6_numberOfTrailingZeros_0f7a4_78 ?_
            refine r_iret C F dJ6_numberOfTrailingZeros_0f7a4_79 (pd_i ?_ rfl)
            clear C F
            rcases (show t = 0 ∨ t = 1 ∨ t = 2 ∨ t = 3 ∨ t = 4 ∨ t = 5 by omega) with rfl | rfl | rfl | rfl | rfl | rfl
            all_goals first | exact absurd c_9 (by decide) | exact absurd c_23 (by decide) | exact absurd c_38 (by decide) | exact absurd c_52 (by decide) | exact absurd c_64 (by decide) | rfl | decide
      · refine r_inc (8) C dJ6_numberOfTrailingZeros_0f7a4_41 rfl (by decide) rfl rfl ?_
        refine r_iload_n C dJ6_numberOfTrailingZeros_0f7a4_44 rfl ?_
        refine r_bipush (8) C dJ6_numberOfTrailingZeros_0f7a4_45 rfl ?_
        refine r_iushr C dJ6_numberOfTrailingZeros_0f7a4_47 ?_
        refine r_istore_n C dJ6_numberOfTrailingZeros_0f7a4_48 (by decide) rfl ?_
        refine r_iload_n C dJ6_numberOfTrailingZeros_0f7a4_49 rfl ?_
        refine r_bipush (16) C dJ6_numberOfTrailingZeros_0f7a4_50 rfl ?_
        refine r_icmp_le 62 C dJ6_numberOfTrailingZeros_0f7a4_52 (by decide) (fun c_52 => ?_) (fun c_52 => ?_)
        · refine r_iload_n C dJ6_numberOfTrailingZeros_0f7a4_62 rfl ?_
          refine r_iconst (4) C dJ6_numberOfTrailingZeros_0f7a4_63 rfl ?_
          refine r_icmp_le 74 C dJ6_numberOfTrailingZeros_0f7a4_64 (by decide) (fun c_64 => ?_) (fun c_64 => ?_)
          · refine r_iload_n C dJ6_numberOfTrailingZeros_0f7a4_74 rfl ?_
            refine r_iload_n C dJ6_numberOfTrailingZeros_0f7a4_75 rfl ?_
            refine r_iconst (1) C dJ6_numberOfTrailingZeros_0f7a4_76 rfl ?_
            refine r_iushr C dJ6_numberOfTrailingZeros_0f7a4_77 ?_
            refine r_iadd C dJ6_numberOfTrailingZeros_0f7a4_78 ?_
            refine r_iret C F dJ6_numberOfTrailingZeros_0f7a4_79 (pd_i ?_ rfl)
            clear C F
            rcases (show t = 0 ∨ t = 1 ∨ t = 2 ∨ t = 3 ∨ t = 4 ∨ t = 5 by omega) with rfl | rfl | rfl | rfl | rfl | rfl
            all_goals first | exact absurd c_9 (by decide) | exact absurd c_23 (by decide) | exact absurd c_38 (by decide) | exact absurd c_52 (by decide) | exact absurd c_64 (by decide) | rfl | decide
          · refine r_inc (2) C dJ6_numberOfTrailingZeros_0f7a4_67 rfl (by decide) rfl rfl ?_
            refine r_iload_n C dJ6_numberOfTrailingZeros_0f7a4_70 rfl ?_
            refine r_iconst (2) C dJ6_numberOfTrailingZeros_0f7a4_71 rfl ?_
            refine r_iushr C dJ6_numberOfTrailingZeros_0f7a4_72 ?_
            refine r_istore_n C dJ6_numberOfTrailingZeros_0f7a4_73 (by decide) rfl ?_
            refine r_iload_n C dJ6_numberOfTrailingZeros_0f7a4_74 rfl ?_
            refine r_iload_n C dJ6_numberOfTrailingZeros_0f7a4_75 rfl ?_
            refine r_iconst (1) C dJ6_numberOfTrailingZeros_0f7a4_76 rfl ?_
            refine r_iushr C dJ6_numberOfTrailingZeros_0f7a4_77 ?_
            refine r_iadd C dJ6_numberOfTrailingZeros_0f7a4_78 ?_
            refine r_iret C F dJ6_numberOfTrailingZeros_0f7a4_79 (pd_i ?_ rfl)
            clear C F
            rcases (show t = 0 ∨ t = 1 ∨ t = 2 ∨ t = 3 ∨ t = 4 ∨ t = 5 by omega) with rfl | rfl | rfl | rfl | rfl | rfl
            all_goals first | exact absurd c_9 (by decide) | exact absurd c_23 (by decide) | exact absurd c_38 (by decide) | exact absurd c_52 (by decide) | exact absurd c_64 (by decide) | rfl | decide
        · refine r_inc (4) C dJ6_numberOfTrailingZeros_0f7a4_55 rfl (by decide) rfl rfl ?_
          refine r_iload_n C dJ6_numberOfTrailingZeros_0f7a4_58 rfl ?_
          refine r_iconst (4) C dJ6_numberOfTrailingZeros_0f7a4_59 rfl ?_
          refine r_iushr C dJ6_numberOfTrailingZeros_0f7a4_60 ?_
          refine r_istore_n C dJ6_numberOfTrailingZeros_0f7a4_61 (by decide) rfl ?_
          refine r_iload_n C dJ6_numberOfTrailingZeros_0f7a4_62 rfl ?_
          refine r_iconst (4) C dJ6_numberOfTrailingZeros_0f7a4_63 rfl ?_
          refine r_icmp_le 74 C dJ6_numberOfTrailingZeros_0f7a4_64 (by decide) (fun c_64 => ?_) (fun c_64 => ?_)
          · refine r_iload_n C dJ6_numberOfTrailingZeros_0f7a4_74 rfl ?_
            refine r_iload_n C dJ6_numberOfTrailingZeros_0f7a4_75 rfl ?_
            refine r_iconst (1) C dJ6_numberOfTrailingZeros_0f7a4_76 rfl ?_
            refine r_iushr C dJ6_numberOfTrailingZeros_0f7a4_77 ?_
            refine r_iadd C dJ6_numberOfTrailingZeros_0f7a4_78 ?_
            refine r_iret C F dJ6_numberOfTrailingZeros_0f7a4_79 (pd_i ?_ rfl)
            clear C F
            rcases (show t = 0 ∨ t = 1 ∨ t = 2 ∨ t = 3 ∨ t = 4 ∨ t = 5 by omega) with rfl | rfl | rfl | rfl | rfl | rfl
            all_goals first | exact absurd c_9 (by decide) | exact absurd c_23 (by decide) | exact absurd c_38 (by decide) | exact absurd c_52 (by decide) | exact absurd c_64 (by decide) | rfl | decide
          · refine r_inc (2) C dJ6_numberOfTrailingZeros_0f7a4_67 rfl (by decide) rfl rfl ?_
            refine r_iload_n C dJ6_numberOfTrailingZeros_0f7a4_70 rfl ?_
            refine r_iconst (2) C dJ6_numberOfTrailingZeros_0f7a4_71 rfl ?_
            refine r_iushr C dJ6_numberOfTrailingZeros_0f7a4_72 ?_
            refine r_istore_n C dJ6_numberOfTrailingZeros_0f7a4_73 (by decide) rfl ?_
            refine r_iload_n C dJ6_numberOfTrailingZeros_0f7a4_74 rfl ?_
            refine r_iload_n C dJ6_numberOfTrailingZeros_0f7a4_75 rfl ?_
            refine r_iconst (1) C dJ6_numberOfTrailingZeros_0f7a4_76 rfl ?_
            refine r_iushr C dJ6_numberOfTrailingZeros_0f7a4_77 ?_
            refine r_iadd C dJ6_numberOfTrailingZeros_0f7a4_78 ?_
            refine r_iret C F dJ6_numberOfTrailingZeros_0f7a4_79 (pd_i ?_ rfl)
            clear C F
            rcases (show t = 0 ∨ t = 1 ∨ t = 2 ∨ t = 3 ∨ t = 4 ∨ t = 5 by omega) with rfl | rfl | rfl | rfl | rfl | rfl
            all_goals first | exact absurd c_9 (by decide) | exact absurd c_23 (by decide) | exact absurd c_38 (by decide) | exact absurd c_52 (by decide) | exact absurd c_64 (by decide) | rfl | decide
    · refine r_inc (16) C dJ6_numberOfTrailingZeros_0f7a4_26 rfl (by decide) rfl rfl ?_
      refine r_iload_n C dJ6_numberOfTrailingZeros_0f7a4_29 rfl ?_
      refine r_bipush (16) C dJ6_numberOfTrailingZeros_0f7a4_30 rfl ?_
      refine r_iushr C dJ6_numberOfTrailingZeros_0f7a4_32 ?_
      refine r_istore_n C dJ6_numberOfTrailingZeros_0f7a4_33 (by decide) rfl ?_
      refine r_iload_n C dJ6_numberOfTrailingZeros_0f7a4_34 rfl ?_
      refine r_sipush (256) C dJ6_numberOfTrailingZeros_0f7a4_35 rfl ?_
      refine r_icmp_le 49 C dJ6_numberOfTrailingZeros_0f7a4_38 (by decide) (fun c_38 => ?_) (fun c_38 => ?_)
      · refine r_iload_n C dJ6_numberOfTrailingZeros_0f7a4_49 rfl ?_
        refine r_bipush (16) C dJ6_numberOfTrailingZeros_0f7a4_50 rfl ?_
        refine r_icmp_le 62 C dJ6_numberOfTrailingZeros_0f7a4_52 (by decide) (fun c_52 => ?_) (fun c_52 => ?_)
        · refine r_iload_n C dJ6_numberOfTrailingZeros_0f7a4_62 rfl ?_
          refine r_iconst (4) C dJ6_numberOfTrailingZeros_0f7a4_63 rfl ?_
          refine r_icmp_le 74 C dJ6_numberOfTrailingZeros_0f7a4_64 (by decide) (fun c_64 => ?_) (fun c_64 => ?_)
          · refine r_iload_n C dJ6_numberOfTrailingZeros_0f7a4_74 rfl ?_
            refine r_iload_n C dJ6_numberOfTrailingZeros_0f7a4_75 rfl ?_
            refine r_iconst (1) C dJ6_numberOfTrailingZeros_0f7a4_76 rfl ?_
            refine r_iushr C dJ6_numberOfTrailingZeros_0f7a4_77 ?_
            refine r_iadd C dJ6_numberOfTrailingZeros_0f7a4_78 ?_
            refine r_iret C F dJ6_numberOfTrailingZeros_0f7a4_79 (pd_i ?_ rfl)
            clear C F
            rcases (show t = 0 ∨ t = 1 ∨ t = 2 ∨ t = 3 ∨ t = 4 ∨ t = 5 by omega) with rfl | rfl | rfl | rfl | rfl | rfl
            all_goals first | exact absurd c_9 (by decide) | exact absurd c_23 (by decide) | exact absurd c_38 (by decide) | exact absurd c_52 (by decide) | exact absurd c_64 (by decide) | rfl | decide
          · refine r_inc (2) C dJ6_numberOfTrailingZeros_0f7a4_67 rfl (by decide) rfl rfl ?_
            refine r_iload_n C dJ6_numberOfTrailingZeros_0f7a4_70 rfl ?_
            refine r_iconst (2) C dJ6_numberOfTrailingZeros_0f7a4_71 rfl ?_
            refine r_iushr C dJ6_numberOfTrailingZeros_0f7a4_72 ?_
            refine r_istore_n C dJ6_numberOfTrailingZeros_0f7a4_73 (by decide) rfl ?_
            refine r_iload_n C dJ6_numberOfTrailingZeros_0f7a4_74 rfl ?_
            refine r_iload_n C dJ6_numberOfTrailingZeros_0f7a4_75 rfl ?_
            refine r_iconst (1) C dJ6_numberOfTrailingZeros_0f7a4_76 rfl ?_
            refine r_iushr C dJ6_numberOfTrailingZeros_0f7a4_77 ?_
            refine r_iadd C dJ6_numberOfTrailingZeros_0f7a4_78 ?_
            refine r_iret C F dJ6_numberOfTrailingZeros_0f7a4_79 (pd_i ?_ rfl)
            clear C F
            rcases (show t = 0 ∨ t = 1 ∨ t = 2 ∨ t = 3 ∨ t = 4 ∨ t = 5 by omega) with rfl | rfl | rfl | rfl | rfl | rfl
            all_goals first | exact absurd c_9 (by decide) | exact absurd c_23 (by decide) | exact absurd c_38 (by decide) | exact absurd c_52 (by decide) | exact absurd c_64 (by decide) | rfl | decide
        · refine r_inc (4) C dJ6_numberOfTrailingZeros_0f7a4_55 rfl (by decide) rfl rfl ?_
          refine r_iload_n C dJ6_numberOfTrailingZeros_0f7a4_58 rfl ?_
          refine r_iconst (4) C dJ6_numberOfTrailingZeros_0f7a4_59 rfl ?_
          refine r_iushr C dJ6_numberOfTrailingZeros_0f7a4_60 ?_
          refine r_istore_n C dJ6_numberOfTrailingZeros_0f7a4_61 (by decide) rfl ?_
          refine r_iload_n C dJ6_numberOfTrailingZeros_0f7a4_62 rfl ?_
          refine r_iconst (4) C dJ6_numberOfTrailingZeros_0f7a4_63 rfl ?_
          refine r_icmp_le 74 C dJ6_numberOfTrailingZeros_0f7a4_64 (by decide) (fun c_64 => ?_) (fun c_64 => ?_)
          · refine r_iload_n C dJ6_numberOfTrailingZeros_0f7a4_74 rfl ?_
            refine r_iload_n C dJ6_numberOfTrailingZeros_0f7a4_75 rfl ?_
            refine r_iconst (1) C dJ6_numberOfTrailingZeros_0f7a4_76 rfl ?_
            refine r_iushr C dJ6_numberOfTrailingZeros_0f7a4_77 ?_
            refine r_iadd C dJ6_numberOfTrailingZeros_0f7a4_78 ?_
            refine r_iret C F dJ6_numberOfTrailingZeros_0f7a4_79 (pd_i ?_ rfl)
            clear C F
            rcases (show t = 0 ∨ t = 1 ∨ t = 2 ∨ t = 3 ∨ t = 4 ∨ t = 5 by omega) with rfl | rfl | rfl | rfl | rfl | rfl
            all_goals first | exact absurd c_9 (by decide) | exact absurd c_23 (by decide) | exact absurd c_38 (by decide) | exact absurd c_52 (by decide) | exact absurd c_64 (by decide) | rfl | decide
          · refine r_inc (2) C dJ6_numberOfTrailingZeros_0f7a4_67 rfl (by decide) rfl rfl ?_
            refine r_iload_n C dJ6_numberOfTrailingZeros_0f7a4_70 rfl ?_
            refine r_iconst (2) C dJ6_numberOfTrailingZeros_0f7a4_71 rfl ?_
            refine r_iushr C dJ6_numberOfTrailingZeros_0f7a4_72 ?_
            refine r_istore_n C dJ6_numberOfTrailingZeros_0f7a4_73 (by decide) rfl ?_
            refine r_iload_n C dJ6_numberOfTrailingZeros_0f7a4_74 rfl ?_
            refine r_iload_n C dJ6_numberOfTrailingZeros_0f7a4_75 rfl ?_
            refine r_iconst (1) C dJ6_numberOfTrailingZeros_0f7a4_76 rfl ?_
            refine r_iushr C dJ6_numberOfTrailingZeros_0f7a4_77 ?_
            refine r_iadd C dJ6_numberOfTrailingZeros_0f7a4_78 ?_
            refine r_iret C F dJ6_numberOfTrailingZeros_0f7a4_79 (pd_i ?_ rfl)
            clear C F
            rcases (show t = 0 ∨ t = 1 ∨ t = 2 ∨ t = 3 ∨ t = 4 ∨ t = 5 by omega) with rfl | rfl | rfl | rfl | rfl | rfl
            all_goals first | exact absurd c_9 (by decide) | exact absurd c_23 (by decide) | exact absurd c_38 (by decide) | exact absurd c_52 (by decide) | exact absurd c_64 (by decide) | rfl | decide
      · refine r_inc (8) C dJ6_numberOfTrailingZeros_0f7a4_41 rfl (by decide) rfl rfl ?_
        refine r_iload_n C dJ6_numberOfTrailingZeros_0f7a4_44 rfl ?_
        refine r_bipush (8) C dJ6_numberOfTrailingZeros_0f7a4_45 rfl ?_
        refine r_iushr C dJ6_numberOfTrailingZeros_0f7a4_47 ?_
        refine r_istore_n C dJ6_numberOfTrailingZeros_0f7a4_48 (by decide) rfl ?_
        refine r_iload_n C dJ6_numberOfTrailingZeros_0f7a4_49 rfl ?_
        refine r_bipush (16) C dJ6_numberOfTrailingZeros_0f7a4_50 rfl ?_
        refine r_icmp_le 62 C dJ6_numberOfTrailingZeros_0f7a4_52 (by decide) (fun c_52 => ?_) (fun c_52 => ?_)
        · refine r_iload_n C dJ6_numberOfTrailingZeros_0f7a4_62 rfl ?_
          refine r_iconst (4) C dJ6_numberOfTrailingZeros_0f7a4_63 rfl ?_
          refine r_icmp_le 74 C dJ6_numberOfTrailingZeros_0f7a4_64 (by decide) (fun c_64 => ?_) (fun c_64 => ?_)
          · refine r_iload_n C dJ6_numberOfTrailingZeros_0f7a4_74 rfl ?_
            refine r_iload_n C dJ6_numberOfTrailingZeros_0f7a4_75 rfl ?_
            refine r_iconst (1) C dJ6_numberOfTrailingZeros_0f7a4_76 rfl ?_
            refine r_iushr C dJ6_numberOfTrailingZeros_0f7a4_77 ?_
            refine r_iadd C dJ6_numberOfTrailingZeros_0f7a4_78 ?_
            refine r_iret C F dJ6_numberOfTrailingZeros_0f7a4_79 (pd_i ?_ rfl)
            clear C F
            rcases (show t = 0 ∨ t = 1 ∨ t = 2 ∨ t = 3 ∨ t = 4 ∨ t = 5 by omega) with rfl | rfl | rfl | rfl | rfl | rfl
            all_goals first | exact absurd c_9 (by decide) | exact absurd c_23 (by decide) | exact absurd c_38 (by decide) | exact absurd c_52 (by decide) | exact absurd c_64 (by decide) | rfl | decide
          · refine r_inc (2) C dJ6_numberOfTrailingZeros_0f7a4_67 rfl (by decide) rfl rfl ?_
            refine r_iload_n C dJ6_numberOfTrailingZeros_0f7a4_70 rfl ?_
            refine r_iconst (2) C dJ6_numberOfTrailingZeros_0f7a4_71 rfl ?_
            refine r_iushr C dJ6_numberOfTrailingZeros_0f7a4_72 ?_
            refine r_istore_n C dJ6_numberOfTrailingZeros_0f7a4_73 (by decide) rfl ?_
            refine r_iload_n C dJ6_numberOfTrailingZeros_0f7a4_74 rfl ?_
            refine r_iload_n C dJ6_numberOfTrailingZeros_0f7a4_75 rfl ?_
            refine r_iconst (1) C dJ6_numberOfTrailingZeros_0f7a4_76 rfl ?_
            refine r_iushr C dJ6_numberOfTrailingZeros_0f7a4_77 ?_
            refine r_iadd C dJ6_numberOfTrailingZeros_0f7a4_78 ?_
            refine r_iret C F dJ6_numberOfTrailingZeros_0f7a4_79 (pd_i ?_ rfl)
            clear C F
            rcases (show t = 0 ∨ t = 1 ∨ t = 2 ∨ t = 3 ∨ t = 4 ∨ t = 5 by omega) with rfl | rfl | rfl | rfl | rfl | rfl
            all_goals first | exact absurd c_9 (by decide) | exact absurd c_23 (by decide) | exact absurd c_38 (by decide) | exact absurd c_52 (by decide) | exact absurd c_64 (by decide) | rfl | decide
        · refine r_inc (4) C dJ6_numberOfTrailingZeros_0f7a4_55 rfl (by decide) rfl rfl ?_
          refine r_iload_n C dJ6_numberOfTrailingZeros_0f7a4_58 rfl ?_
          refine r_iconst (4) C dJ6_numberOfTrailingZeros_0f7a4_59 rfl ?_
          refine r_iushr C dJ6_numberOfTrailingZeros_0f7a4_60 ?_
          refine r_istore_n C dJ6_numberOfTrailingZeros_0f7a4_61 (by decide) rfl ?_
          refine r_iload_n C dJ6_numberOfTrailingZeros_0f7a4_62 rfl ?_
          refine r_iconst (4) C dJ6_numberOfTrailingZeros_0f7a4_63 rfl ?_
          refine r_icmp_le 74 C dJ6_numberOfTrailingZeros_0f7a4_64 (by decide) (fun c_64 => ?_) (fun c_64 => ?_)
          · refine r_iload_n C dJ6_numberOfTrailingZeros_0f7a4_74 rfl ?_
            refine r_iload_n C dJ6_numberOfTrailingZeros_0f7a4_75 rfl ?_
            refine r_iconst (1) C dJ6_numberOfTrailingZeros_0f7a4_76 rfl ?_
            refine r_iushr C dJ6_numberOfTrailingZeros_0f7a4_77 ?_
            refine r_iadd C dJ6_numberOfTrailingZeros_0f7a4_78 ?_
            refine r_iret C F dJ6_numberOfTrailingZeros_0f7a4_79 (pd_i ?_ rfl)
            clear C F
            rcases (show t = 0 ∨ t = 1 ∨ t = 2 ∨ t = 3 ∨ t = 4 ∨ t = 5 by omega) with rfl | rfl | rfl | rfl | rfl | rfl
            all_goals first | exact absurd c_9 (by decide) | exact absurd c_23 (by decide) | exact absurd c_38 (by decide) | exact absurd c_52 (by decide) | exact absurd c_64 (by decide) | rfl | decide
          · refine r_inc (2) C dJ6_numberOfTrailingZeros_0f7a4_67 rfl (by decide) rfl rfl ?_
            refine r_iload_n C dJ6_numberOfTrailingZeros_0f7a4_70 rfl ?_
            refine r_iconst (2) C dJ6_numberOfTrailingZeros_0f7a4_71 rfl ?_
            refine r_iushr C dJ6_numberOfTrailingZeros_0f7a4_72 ?_
            refine r_istore_n C dJ6_numberOfTrailingZeros_0f7a4_73 (by decide) rfl ?_
            refine r_iload_n C dJ6_numberOfTrailingZeros_0f7a4_74 rfl ?_
            refine r_iload_n C dJ6_numberOfTrailingZeros_0f7a4_75 rfl ?_
            refine r_iconst (1) C dJ6_numberOfTrailingZeros_0f7a4_76 rfl ?_
            refine r_iushr C dJ6_numberOfTrailingZeros_0f7a4_77 ?_
            refine r_iadd C dJ6_numberOfTrailingZeros_0f7a4_78 ?_
            refine r_iret C F dJ6_numberOfTrailingZeros_0f7a4_79 (pd_i ?_ rfl)
            clear C F
            rcases (show t = 0 ∨ t = 1 ∨ t = 2 ∨ t = 3 ∨ t = 4 ∨ t = 5 by omega) with rfl | rfl | rfl | rfl | rfl | rfl
            all_goals first | exact absurd c_9 (by decide) | exact absurd c_23 (by decide) | exact absurd c_38 (by decide) | exact absurd c_52 (by decide) | exact absurd c_64 (by decide) | rfl | decide
  · refine r_iload_n C dJ6_numberOfTrailingZeros_0f7a4_12 rfl ?_
    refine r_bipush (32) C dJ6_numberOfTrailingZeros_0f7a4_13 rfl ?_
    refine r_iand C dJ6_numberOfTrailingZeros_0f7a4_15 ?_
    refine r_iret C F dJ6_numberOfTrailingZeros_0f7a4_16 (pd_i ?_ rfl)
    clear C F
    rcases (show t = 0 ∨ t = 1 ∨ t = 2 ∨ t = 3 ∨ t = 4 ∨ t = 5 by omega) with rfl | rfl | rfl | rfl | rfl | rfl
    all_goals first | exact absurd c_9 (by decide) | exact absurd c_23 (by decide) | exact absurd c_38 (by decide) | exact absurd c_52 (by decide) | exact absurd c_64 (by decide) | rfl | decide
theorem nI_bv (x : Int32) : nI x.toBitVec.toNat = x := Int32.toBitVec_inj.mp (by show BitVec.ofNat 32 x.toBitVec.toNat = x.toBitVec; simp)
theorem nI_z {a : Nat} (ha : a < 2 ^ 32) (e : nI a = 0) : a = 0 := by
  have q : (BitVec.ofNat 32 a).toNat = 0 := congrArg (fun z : Int32 => z.toBitVec.toNat) e
  rw [BitVec.toNat_ofNat] at q
  omega
theorem setA_iff {D : HDt} (o1 : dL D ≤ 6) {x : Int32} : x &&& (nI (2 ^ dL D - 1) ^^^ (-1)) = 0 ↔ setA D x := by
  have p6 : 2 ^ dL D ≤ 64 := Nat.pow_le_pow_right (n := 2) (by decide) o1
  have p1 : 0 < 2 ^ dL D := Nat.two_pow_pos _
  constructor
  · intro q
    have hlt := x.toBitVec.isLt
    rw [← nI_bv x, nx_nd] at q
    have z := nI_z (nd_lt hlt) q
    have hs : sub x.toBitVec.toNat (2 ^ dL D - 1) := fun k hk => by
      have := nd_bit x.toBitVec.toNat (2 ^ dL D - 1) k
      rw [z, Nat.zero_testBit, hk, Bool.true_and] at this
      cases hb : (2 ^ dL D - 1).testBit k with
      | true => rfl
      | false => rw [hb] at this; cases this
    have hle : x.toBitVec.toNat ≤ 2 ^ dL D - 1 := by
      have e : x.toBitVec.toNat &&& (2 ^ dL D - 1) = x.toBitVec.toNat := Nat.eq_of_testBit_eq fun k => by
        rw [Nat.testBit_and]
        cases hb : x.toBitVec.toNat.testBit k with
        | false => rfl
        | true => rw [hs k hb]; rfl
      rw [← e]
      exact Nat.and_le_right
    rw [← nI_bv x]
    exact ⟨(nI_leI (a := 0) (by decide) (by omega)).mpr (Nat.zero_le _), (nI_leI (by omega) (by omega)).mpr hle⟩
  · intro q
    obtain ⟨n, hn, rfl⟩ := inP_of (n := 2 ^ dL D - 1) rfl (by omega) q
    rw [nx_nd, show nd n (2 ^ dL D - 1) = 0 from Nat.eq_of_testBit_eq fun k => by
      rw [nd_bit, Nat.testBit_two_pow_sub_one, Nat.zero_testBit]
      by_cases c : k < dL D
      · rw [decide_eq_true c]; simp
      · rw [Nat.testBit_lt_two_pow (Nat.lt_of_lt_of_le (show n < 2 ^ dL D by omega) (Nat.pow_le_pow_right (by decide) (by omega)))]; rfl]
    rfl
set_option maxHeartbeats 4000000 in
theorem s0_hasAll {o : Nat} {D : HDt} (hO : isH o) (hH : CHl h o D) {x : Int32} : Sp l E SHP 1 M0_hasAll [.ref (E.1 + o), .int x] h (PD (some (.int (bz (setA D x)))) h) := by
  refine Sp.of (by decide) (Nat.le_of_ble_eq_true rfl) (fun X C F => ?_)
  have C : Ok X E RX0 cX0_hasAll 2 := C
  have F : Fn X l E SHP 1 (some FieldType.boolean) (PD (some (.int (bz (setA D x)))) h) := F
  show G X E SHP (0, 0) 0 [(0, .ref (E.1 + o)), (1, .int x)] [] h
  obtain ⟨okd, e1, e2, e3, e4, eL, eJ, eB, eF⟩ := id hH
  obtain ⟨o1, o2, o3, o4, o5, o6⟩ := id okd
  refine r_iload_n C dX0_hasAll_0 rfl ?_
  refine r_aload_n C dX0_hasAll_1 rfl ?_
  refine r_cVi C F dX0_hasAll_2 (s0_everyone hO hH) tw_582 m0_everyone (hO.1) rfl (by decide) rfl (Nat.le_of_ble_eq_true rfl) ?_
  refine r_iconst (-1) C dX0_hasAll_5 rfl ?_
  refine r_ixor C dX0_hasAll_6 ?_
  refine r_iand C dX0_hasAll_7 ?_
  refine r_if_ne 15 C dX0_hasAll_8 (by decide) (fun c_8 => ?_) (fun c_8 => ?_)
  · refine r_iconst (0) C dX0_hasAll_15 rfl ?_
    exact r_zret C F dX0_hasAll_16 rfl (pd_i (bz_f (fun z => c_8 ((setA_iff o1).mpr z))).symm rfl)
  · refine r_iconst (1) C dX0_hasAll_11 rfl ?_
    refine r_goto 16 C dX0_hasAll_12 (by decide) ?_
    exact r_zret C F dX0_hasAll_16 rfl (pd_i (bz_t ((setA_iff o1).mp c_8)).symm rfl)
theorem CH_joke {o k f : Nat} {D : HDt} (q : CHl h o D) (ok : okD (addJ D k f)) {x : Int32} (hx : x = nI (dJ D + 1)) : CHl (up (up (up h (o + 4) (dJ D) (nI k)) (o + 5) (dJ D) (nI f)) o 4 x) o (addJ D k f) := by
  obtain ⟨okd, e1, e2, e3, e4, eL, eJ, eB, eF⟩ := id q
  refine ⟨ok, ?_, ?_, ?_, ?_, ?_, fun j hj => ?_, ?_, ?_⟩
  · rw [up_off _ _ _ _ (by decide), up_row _ _ _ _ (by omega), up_row _ _ _ _ (by omega)]; exact e1
  · rw [up_off _ _ _ _ (by decide), up_row _ _ _ _ (by omega), up_row _ _ _ _ (by omega)]; exact e2
  · rw [up_off _ _ _ _ (by decide), up_row _ _ _ _ (by omega), up_row _ _ _ _ (by omega)]; exact e3
  · rw [up_self]; exact hx
  · rw [up_row _ _ _ _ (by omega), up_row _ _ _ _ (by omega), up_row _ _ _ _ (by omega), up_row _ _ _ _ (by omega), up_row _ _ _ _ (by omega), up_row _ _ _ _ (by omega), up_row _ _ _ _ (by omega), up_row _ _ _ _ (by omega), up_row _ _ _ _ (by omega)]; exact eL
  · have hj : j < dJ D + 1 := hj
    have r4 : up (up (up h (o + 4) (dJ D) (nI k)) (o + 5) (dJ D) (nI f)) o 4 x (o + 4) j = if j = dJ D then nI k else h (o + 4) j := by
      rw [up_row (a := o + 4) _ _ _ _ (by omega), up_row (a := o + 4) _ _ _ _ (by omega), up_at]
      by_cases c : j = dJ D
      · rw [if_pos ⟨rfl, c⟩, if_pos c]
      · rw [if_neg (fun z => c z.2), if_neg c]
    have r5 : up (up (up h (o + 4) (dJ D) (nI k)) (o + 5) (dJ D) (nI f)) o 4 x (o + 5) j = if j = dJ D then nI f else h (o + 5) j := by
      rw [up_row (a := o + 5) _ _ _ _ (by omega), up_at]
      by_cases c : j = dJ D
      · rw [if_pos ⟨rfl, c⟩, if_pos c]
      · rw [if_neg (fun z => c z.2), if_neg c, up_row (a := o + 5) _ _ _ _ (by omega)]
    show _ = nI (if j = dJ D then k else dK D j) ∧ _ = nI (if j = dJ D then f else dF D j)
    rw [r4, r5]
    by_cases c : j = dJ D
    · rw [if_pos c, if_pos c, if_pos c, if_pos c]; exact ⟨rfl, rfl⟩
    · rw [if_neg c, if_neg c, if_neg c, if_neg c]
      exact eJ j (by omega)
  · rw [up_row _ _ _ _ (by omega), up_row _ _ _ _ (by omega), up_row _ _ _ _ (by omega)]; exact eB
  · rw [up_row _ _ _ _ (by omega), up_row _ _ _ _ (by omega), up_row _ _ _ _ (by omega)]; exact eF
set_option maxHeartbeats 4000000 in
theorem s0_addJoke {o : Nat} {D : HDt} (hO : isH o) (hH : CHl h o D) {k f : Nat} (ok : okD (addJ D k f)) (hj : dJ D < 6) (hk : k < 4) : Sp l E SHP 0 M0_addJoke [.ref (E.1 + o), .int (nI k), .int (nI f)] h (QH o (h o 0) h (addJ D k f)) := by
  refine Sp.of (by decide) (Nat.le_of_ble_eq_true rfl) (fun X C F => ?_)
  have C : Ok X E RX0 cX0_addJoke 3 := C
  have F : Fn X l E SHP 0 none (QH o (h o 0) h (addJ D k f)) := F
  show G X E SHP (0, 0) 0 [(0, .ref (E.1 + o)), (1, .int (nI k)), (2, .int (nI f))] [] h
  obtain ⟨okd, e1, e2, e3, e4, eL, eJ, eB, eF⟩ := id hH
  obtain ⟨o1, o2, o3, o4, o5, o6⟩ := id okd
  refine r_aload_n C dX0_addJoke_0 rfl ?_
  refine r_getI C dX0_addJoke_1 flX0_47 (hO.1) rfl ?_
  refine r_bipush (6) C dX0_addJoke_4 rfl ?_
  refine r_icmp_ge 18 C dX0_addJoke_6 (by decide) (fun c_6 => ?_) (fun c_6 => ?_)
  · rw [cLe (x := 6) (c := h o 4) (i := 6) (n := dJ D) (rfl) (e4) (by omega) (by omega)] at c_6
    omega
  · rw [cLe (x := 6) (c := h o 4) (i := 6) (n := dJ D) (rfl) (e4) (by omega) (by omega)] at c_6
    refine r_iload_n C dX0_addJoke_9 rfl ?_
    refine r_if_lt 18 C dX0_addJoke_10 (by decide) (fun c_10 => ?_) (fun c_10 => ?_)
    · rw [cLt (x := nI k) (c := 0) (i := k) (n := 0) (rfl) (rfl) (by omega) (by omega)] at c_10
      omega
    · rw [cLt (x := nI k) (c := 0) (i := k) (n := 0) (rfl) (rfl) (by omega) (by omega)] at c_10
      refine r_iload_n C dX0_addJoke_13 rfl ?_
      refine r_iconst (4) C dX0_addJoke_14 rfl ?_
      refine r_icmp_lt 19 C dX0_addJoke_15 (by decide) (fun c_15 => ?_) (fun c_15 => ?_)
      · rw [cLt (x := nI k) (c := 4) (i := k) (n := 4) (rfl) (rfl) (by omega) (by omega)] at c_15
        refine r_aload_n C dX0_addJoke_19 rfl ?_
        refine r_getR C dX0_addJoke_20 flX0_21 (hO.1) rfl ?_
        refine r_aload_n C dX0_addJoke_23 rfl ?_
        refine r_getI C dX0_addJoke_24 flX0_47 (hO.1) rfl ?_
        refine r_iload_n C dX0_addJoke_27 rfl ?_
        refine r_iast (dJ D) C dX0_addJoke_28 (hO.2.2.2.2.1) (e4) (by omega) (by decide) ?_
        refine r_aload_n C dX0_addJoke_29 rfl ?_
        refine r_getR C dX0_addJoke_30 flX0_24 (hO.1) rfl ?_
        refine r_aload_n C dX0_addJoke_33 rfl ?_
        refine r_getI C dX0_addJoke_34 flX0_47 (hO.1) rfl ?_
        refine r_iload_n C dX0_addJoke_37 rfl ?_
        refine r_iast (dJ D) C dX0_addJoke_38 (hO.2.2.2.2.2.1) (by rw [up_row _ _ _ _ (by omega)]; exact e4) (by omega) (by decide) ?_
        refine r_aload_n C dX0_addJoke_39 rfl ?_
        refine r_dup C dX0_addJoke_40 rfl ?_
        refine r_getI C dX0_addJoke_41 flX0_47 (hO.1) rfl ?_
        refine r_iconst (1) C dX0_addJoke_44 rfl ?_
        refine r_iadd C dX0_addJoke_45 ?_
        refine r_putI C dX0_addJoke_46 fwX0_47 (hO.1) rfl ?_
        refine r_vret C F dX0_addJoke_49 ⟨rfl, ?_, CH_joke hH ok ?_, fun a ha => ?_⟩
        · rw [up_off _ _ _ _ (by decide), up_row _ _ _ _ (by omega), up_row _ _ _ _ (by omega)]
        · rw [up_row _ _ _ _ (by omega), up_row _ _ _ _ (by omega), e4]; exact (nI_succ _).symm
        · rw [up_row _ _ _ _ (by omega), up_row _ _ _ _ (by omega), up_row _ _ _ _ (by omega)]
      · rw [cLt (x := nI k) (c := 4) (i := k) (n := 4) (rfl) (rfl) (by omega) (by omega)] at c_15
        omega
