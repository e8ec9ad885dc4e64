variable {l : Launch} {E : Ev} {h : Hp}
def fwF (x : Int32) (hh : Bool) (D : HDt) : Nat := if x = 104 then (if hh = true then 3 else 0) else if hh = false then 1 else if x = 108 then (if dL D = 6 then 3 else 0) else if x = 106 then (if dJ D = 6 then 3 else 0) else 1
set_option maxHeartbeats 4000000 in
theorem s3_forget  : Sp l E SHP 0 M3_forget [.ref (E.1 + 23)] h (PD none (up (up h 23 1 0) 23 2 0)) := by
  refine Sp.of (by decide) (Nat.le_of_ble_eq_true rfl) (fun X C F => ?_)
  have C : Ok X E RX3 cX3_forget 1 := C
  have F : Fn X l E SHP 0 none (PD none (up (up h 23 1 0) 23 2 0)) := F
  show G X E SHP (0, 0) 0 [(0, .ref (E.1 + 23))] [] h
  refine r_aload_n C dX3_forget_0 rfl ?_
  refine r_iconst (0) C dX3_forget_1 rfl ?_
  refine r_putI C dX3_forget_2 fwX3_17 (rfl) rfl ?_
  refine r_aload_n C dX3_forget_5 rfl ?_
  refine r_iconst (0) C dX3_forget_6 rfl ?_
  refine r_putI C dX3_forget_7 fwX3_21 (rfl) rfl ?_
  exact r_vret C F dX3_forget_10 (pd_v (rfl))
set_option maxHeartbeats 4000000 in
theorem s4_faultOfWord {o : Nat} {D : HDt} (hO : isH o) (hH : CHl h o D) {x : Int32} {hh : Bool} (hb : h o 0 = b01 hh) : Sp l E SHP 0 M4_faultOfWord [.ref (E.1 + 1), .ref (E.1 + o), .int x] h (PD (some (.int (nI (fwF x hh D)))) h) := by
  refine Sp.of (by decide) (Nat.le_of_ble_eq_true rfl) (fun X C F => ?_)
  have C : Ok X E RX4 cX4_faultOfWord 3 := C
  have F : Fn X l E SHP 0 (some FieldType.int) (PD (some (.int (nI (fwF x hh D)))) h) := F
  show G X E SHP (0, 0) 0 [(0, .ref (E.1 + 1)), (1, .ref (E.1 + o)), (2, .int x)] [] h
  obtain ⟨okd, e1, e2, e3, e4, eL, eJ, eB, eF⟩ := id hH
  obtain ⟨o1, o2, o3, o4, o5, o6⟩ := id okd
  refine r_iload_n C dX4_faultOfWord_0 rfl ?_
  refine r_bipush (104) C dX4_faultOfWord_1 rfl ?_
  refine r_icmp_eq 20 C dX4_faultOfWord_3 (by decide) (fun c_3 => ?_) (fun c_3 => ?_)
  · refine r_aload_n C dX4_faultOfWord_20 rfl ?_
    refine r_getI C dX4_faultOfWord_21 flX4_83 (hO.1) rfl ?_
    refine r_if_ne 39 C dX4_faultOfWord_24 (by decide) (fun c_24 => ?_) (fun c_24 => ?_)
    · have c_24 : hh = true := b01_n (hb ▸ c_24)
      refine r_iload_n C dX4_faultOfWord_39 rfl ?_
      refine r_bipush (104) C dX4_faultOfWord_40 rfl ?_
      refine r_icmp_ne 47 C dX4_faultOfWord_42 (by decide) (fun c_42 => ?_) (fun c_42 => ?_)
      · refine r_iload_n C dX4_faultOfWord_47 rfl ?_
        refine r_bipush (108) C dX4_faultOfWord_48 rfl ?_
        refine r_icmp_ne 68 C dX4_faultOfWord_50 (by decide) (fun c_50 => ?_) (fun c_50 => ?_)
        · refine r_aload_n C dX4_faultOfWord_68 rfl ?_
          refine r_getI C dX4_faultOfWord_69 flX4_90 (hO.1) rfl ?_
          refine r_bipush (6) C dX4_faultOfWord_72 rfl ?_
          refine r_icmp_lt 81 C dX4_faultOfWord_74 (by decide) (fun c_74 => ?_) (fun c_74 => ?_)
          · rw [cLt (x := h o 4) (c := 6) (i := dJ D) (n := 6) (e4) (rfl) (by omega) (by omega)] at c_74
            refine r_iconst (0) C dX4_faultOfWord_81 rfl ?_
            refine r_iret C F dX4_faultOfWord_82 (pd_i ?_ rfl)
            unfold fwF
            repeat' split
            all_goals first | rfl | contradiction | omega | (simp_all; done)
          · rw [cLt (x := h o 4) (c := 6) (i := dJ D) (n := 6) (e4) (rfl) (by omega) (by omega)] at c_74
            refine r_iconst (3) C dX4_faultOfWord_77 rfl ?_
            refine r_goto 82 C dX4_faultOfWord_78 (by decide) ?_
            refine r_iret C F dX4_faultOfWord_82 (pd_i ?_ rfl)
            unfold fwF
            repeat' split
            all_goals first | rfl | contradiction | omega | (simp_all; done)
        · refine r_aload_n C dX4_faultOfWord_53 rfl ?_
          refine r_getI C dX4_faultOfWord_54 flX4_87 (hO.1) rfl ?_
          refine r_bipush (6) C dX4_faultOfWord_57 rfl ?_
          refine r_icmp_lt 66 C dX4_faultOfWord_59 (by decide) (fun c_59 => ?_) (fun c_59 => ?_)
          · rw [cLt (x := h o 3) (c := 6) (i := dL D) (n := 6) (e3) (rfl) (by omega) (by omega)] at c_59
            refine r_iconst (0) C dX4_faultOfWord_66 rfl ?_
            refine r_iret C F dX4_faultOfWord_67 (pd_i ?_ rfl)
            unfold fwF
            repeat' split
            all_goals first | rfl | contradiction | omega | (simp_all; done)
          · rw [cLt (x := h o 3) (c := 6) (i := dL D) (n := 6) (e3) (rfl) (by omega) (by omega)] at c_59
            refine r_iconst (3) C dX4_faultOfWord_62 rfl ?_
            refine r_goto 67 C dX4_faultOfWord_63 (by decide) ?_
            refine r_iret C F dX4_faultOfWord_67 (pd_i ?_ rfl)
            unfold fwF
            repeat' split
            all_goals first | rfl | contradiction | omega | (simp_all; done)
      · refine r_iconst (3) C dX4_faultOfWord_45 rfl ?_
        refine r_iret C F dX4_faultOfWord_46 (pd_i ?_ rfl)
        unfold fwF
        repeat' split
        all_goals first | rfl | contradiction | omega | (simp_all; done)
    · have c_24 : hh = false := by
        have := b01_z (hb ▸ c_24)
        revert this
        cases hh <;> simp
      refine r_iload_n C dX4_faultOfWord_27 rfl ?_
      refine r_bipush (104) C dX4_faultOfWord_28 rfl ?_
      refine r_icmp_ne 37 C dX4_faultOfWord_30 (by decide) (fun c_30 => ?_) (fun c_30 => ?_)
      · refine r_iconst (1) C dX4_faultOfWord_37 rfl ?_
        refine r_iret C F dX4_faultOfWord_38 (pd_i ?_ rfl)
        unfold fwF
        repeat' split
        all_goals first | rfl | contradiction | omega | (simp_all; done)
      · refine r_iconst (0) C dX4_faultOfWord_33 rfl ?_
        refine r_goto 38 C dX4_faultOfWord_34 (by decide) ?_
        refine r_iret C F dX4_faultOfWord_38 (pd_i ?_ rfl)
        unfold fwF
        repeat' split
        all_goals first | rfl | contradiction | omega | (simp_all; done)
  · refine r_iload_n C dX4_faultOfWord_6 rfl ?_
    refine r_bipush (108) C dX4_faultOfWord_7 rfl ?_
    refine r_icmp_eq 20 C dX4_faultOfWord_9 (by decide) (fun c_9 => ?_) (fun c_9 => ?_)
    · refine r_aload_n C dX4_faultOfWord_20 rfl ?_
      refine r_getI C dX4_faultOfWord_21 flX4_83 (hO.1) rfl ?_
      refine r_if_ne 39 C dX4_faultOfWord_24 (by decide) (fun c_24 => ?_) (fun c_24 => ?_)
      · have c_24 : hh = true := b01_n (hb ▸ c_24)
        refine r_iload_n C dX4_faultOfWord_39 rfl ?_
        refine r_bipush (104) C dX4_faultOfWord_40 rfl ?_
        refine r_icmp_ne 47 C dX4_faultOfWord_42 (by decide) (fun c_42 => ?_) (fun c_42 => ?_)
        · refine r_iload_n C dX4_faultOfWord_47 rfl ?_
          refine r_bipush (108) C dX4_faultOfWord_48 rfl ?_
          refine r_icmp_ne 68 C dX4_faultOfWord_50 (by decide) (fun c_50 => ?_) (fun c_50 => ?_)
          · refine r_aload_n C dX4_faultOfWord_68 rfl ?_
            refine r_getI C dX4_faultOfWord_69 flX4_90 (hO.1) rfl ?_
            refine r_bipush (6) C dX4_faultOfWord_72 rfl ?_
            refine r_icmp_lt 81 C dX4_faultOfWord_74 (by decide) (fun c_74 => ?_) (fun c_74 => ?_)
            · rw [cLt (x := h o 4) (c := 6) (i := dJ D) (n := 6) (e4) (rfl) (by omega) (by omega)] at c_74
              refine r_iconst (0) C dX4_faultOfWord_81 rfl ?_
              refine r_iret C F dX4_faultOfWord_82 (pd_i ?_ rfl)
              unfold fwF
              repeat' split
              all_goals first | rfl | contradiction | omega | (simp_all; done)
            · rw [cLt (x := h o 4) (c := 6) (i := dJ D) (n := 6) (e4) (rfl) (by omega) (by omega)] at c_74
              refine r_iconst (3) C dX4_faultOfWord_77 rfl ?_
              refine r_goto 82 C dX4_faultOfWord_78 (by decide) ?_
              refine r_iret C F dX4_faultOfWord_82 (pd_i ?_ rfl)
              unfold fwF
              repeat' split
              all_goals first | rfl | contradiction | omega | (simp_all; done)
          · refine r_aload_n C dX4_faultOfWord_53 rfl ?_
            refine r_getI C dX4_faultOfWord_54 flX4_87 (hO.1) rfl ?_
            refine r_bipush (6) C dX4_faultOfWord_57 rfl ?_
            refine r_icmp_lt 66 C dX4_faultOfWord_59 (by decide) (fun c_59 => ?_) (fun c_59 => ?_)
            · rw [cLt (x := h o 3) (c := 6) (i := dL D) (n := 6) (e3) (rfl) (by omega) (by omega)] at c_59
              refine r_iconst (0) C dX4_faultOfWord_66 rfl ?_
              refine r_iret C F dX4_faultOfWord_67 (pd_i ?_ rfl)
              unfold fwF
              repeat' split
              all_goals first | rfl | contradiction | omega | (simp_all; done)
            · rw [cLt (x := h o 3) (c := 6) (i := dL D) (n := 6) (e3) (rfl) (by omega) (by omega)] at c_59
              refine r_iconst (3) C dX4_faultOfWord_62 rfl ?_
              refine r_goto 67 C dX4_faultOfWord_63 (by decide) ?_
              refine r_iret C F dX4_faultOfWord_67 (pd_i ?_ rfl)
              unfold fwF
              repeat' split
              all_goals first | rfl | contradiction | omega | (simp_all; done)
        · refine r_iconst (3) C dX4_faultOfWord_45 rfl ?_
          refine r_iret C F dX4_faultOfWord_46 (pd_i ?_ rfl)
          unfold fwF
          repeat' split
          all_goals first | rfl | contradiction | omega | (simp_all; done)
      · have c_24 : hh = false := by
          have := b01_z (hb ▸ c_24)
          revert this
          cases hh <;> simp
        refine r_iload_n C dX4_faultOfWord_27 rfl ?_
        refine r_bipush (104) C dX4_faultOfWord_28 rfl ?_
        refine r_icmp_ne 37 C dX4_faultOfWord_30 (by decide) (fun c_30 => ?_) (fun c_30 => ?_)
        · refine r_iconst (1) C dX4_faultOfWord_37 rfl ?_
          refine r_iret C F dX4_faultOfWord_38 (pd_i ?_ rfl)
          unfold fwF
          repeat' split
          all_goals first | rfl | contradiction | omega | (simp_all; done)
        · refine r_iconst (0) C dX4_faultOfWord_33 rfl ?_
          refine r_goto 38 C dX4_faultOfWord_34 (by decide) ?_
          refine r_iret C F dX4_faultOfWord_38 (pd_i ?_ rfl)
          unfold fwF
          repeat' split
          all_goals first | rfl | contradiction | omega | (simp_all; done)
    · refine r_iload_n C dX4_faultOfWord_12 rfl ?_
      refine r_bipush (106) C dX4_faultOfWord_13 rfl ?_
      refine r_icmp_eq 20 C dX4_faultOfWord_15 (by decide) (fun c_15 => ?_) (fun c_15 => ?_)
      · refine r_aload_n C dX4_faultOfWord_20 rfl ?_
        refine r_getI C dX4_faultOfWord_21 flX4_83 (hO.1) rfl ?_
        refine r_if_ne 39 C dX4_faultOfWord_24 (by decide) (fun c_24 => ?_) (fun c_24 => ?_)
        · have c_24 : hh = true := b01_n (hb ▸ c_24)
          refine r_iload_n C dX4_faultOfWord_39 rfl ?_
          refine r_bipush (104) C dX4_faultOfWord_40 rfl ?_
          refine r_icmp_ne 47 C dX4_faultOfWord_42 (by decide) (fun c_42 => ?_) (fun c_42 => ?_)
          · refine r_iload_n C dX4_faultOfWord_47 rfl ?_
            refine r_bipush (108) C dX4_faultOfWord_48 rfl ?_
            refine r_icmp_ne 68 C dX4_faultOfWord_50 (by decide) (fun c_50 => ?_) (fun c_50 => ?_)
            · refine r_aload_n C dX4_faultOfWord_68 rfl ?_
              refine r_getI C dX4_faultOfWord_69 flX4_90 (hO.1) rfl ?_
              refine r_bipush (6) C dX4_faultOfWord_72 rfl ?_
              refine r_icmp_lt 81 C dX4_faultOfWord_74 (by decide) (fun c_74 => ?_) (fun c_74 => ?_)
              · rw [cLt (x := h o 4) (c := 6) (i := dJ D) (n := 6) (e4) (rfl) (by omega) (by omega)] at c_74
                refine r_iconst (0) C dX4_faultOfWord_81 rfl ?_
                refine r_iret C F dX4_faultOfWord_82 (pd_i ?_ rfl)
                unfold fwF
                repeat' split
                all_goals first | rfl | contradiction | omega | (simp_all; done)
              · rw [cLt (x := h o 4) (c := 6) (i := dJ D) (n := 6) (e4) (rfl) (by omega) (by omega)] at c_74
                refine r_iconst (3) C dX4_faultOfWord_77 rfl ?_
                refine r_goto 82 C dX4_faultOfWord_78 (by decide) ?_
                refine r_iret C F dX4_faultOfWord_82 (pd_i ?_ rfl)
                unfold fwF
                repeat' split
                all_goals first | rfl | contradiction | omega | (simp_all; done)
            · refine r_aload_n C dX4_faultOfWord_53 rfl ?_
              refine r_getI C dX4_faultOfWord_54 flX4_87 (hO.1) rfl ?_
              refine r_bipush (6) C dX4_faultOfWord_57 rfl ?_
              refine r_icmp_lt 66 C dX4_faultOfWord_59 (by decide) (fun c_59 => ?_) (fun c_59 => ?_)
              · rw [cLt (x := h o 3) (c := 6) (i := dL D) (n := 6) (e3) (rfl) (by omega) (by omega)] at c_59
                refine r_iconst (0) C dX4_faultOfWord_66 rfl ?_
                refine r_iret C F dX4_faultOfWord_67 (pd_i ?_ rfl)
                unfold fwF
                repeat' split
                all_goals first | rfl | contradiction | omega | (simp_all; done)
              · rw [cLt (x := h o 3) (c := 6) (i := dL D) (n := 6) (e3) (rfl) (by omega) (by omega)] at c_59
                refine r_iconst (3) C dX4_faultOfWord_62 rfl ?_
                refine r_goto 67 C dX4_faultOfWord_63 (by decide) ?_
                refine r_iret C F dX4_faultOfWord_67 (pd_i ?_ rfl)
                unfold fwF
                repeat' split
                all_goals first | rfl | contradiction | omega | (simp_all; done)
          · refine r_iconst (3) C dX4_faultOfWord_45 rfl ?_
            refine r_iret C F dX4_faultOfWord_46 (pd_i ?_ rfl)
            unfold fwF
            repeat' split
            all_goals first | rfl | contradiction | omega | (simp_all; done)
        · have c_24 : hh = false := by
            have := b01_z (hb ▸ c_24)
            revert this
            cases hh <;> simp
          refine r_iload_n C dX4_faultOfWord_27 rfl ?_
          refine r_bipush (104) C dX4_faultOfWord_28 rfl ?_
          refine r_icmp_ne 37 C dX4_faultOfWord_30 (by decide) (fun c_30 => ?_) (fun c_30 => ?_)
          · refine r_iconst (1) C dX4_faultOfWord_37 rfl ?_
            refine r_iret C F dX4_faultOfWord_38 (pd_i ?_ rfl)
            unfold fwF
            repeat' split
            all_goals first | rfl | contradiction | omega | (simp_all; done)
          · refine r_iconst (0) C dX4_faultOfWord_33 rfl ?_
            refine r_goto 38 C dX4_faultOfWord_34 (by decide) ?_
            refine r_iret C F dX4_faultOfWord_38 (pd_i ?_ rfl)
            unfold fwF
            repeat' split
            all_goals first | rfl | contradiction | omega | (simp_all; done)
      · refine r_iconst (1) C dX4_faultOfWord_18 rfl ?_
        refine r_iret C F dX4_faultOfWord_19 (pd_i ?_ rfl)
        unfold fwF
        repeat' split
        all_goals first | rfl | contradiction | omega | (simp_all; done)
