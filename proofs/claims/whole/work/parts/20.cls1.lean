/-! 20.cls1, laid by wip/whole/gen.py -/
theorem d_Fa_thingNamed_0 : m_D k_Fa_thingNamed 0 (.iconst 0) 1 := (by decide +kernel : decode prog_3_method_6_code 0 = .ok (.iconst 0, 1))
theorem d_Fa_thingNamed_1 : m_D k_Fa_thingNamed 1 (.istore_n 3) 1 := (by decide +kernel : decode prog_3_method_6_code 1 = .ok (.istore_n 3, 1))
theorem d_Fa_thingNamed_2 : m_D k_Fa_thingNamed 2 (.iload_n 3) 1 := (by decide +kernel : decode prog_3_method_6_code 2 = .ok (.iload_n 3, 1))
theorem d_Fa_thingNamed_3 : m_D k_Fa_thingNamed 3 (.aload_n 0) 1 := (by decide +kernel : decode prog_3_method_6_code 3 = .ok (.aload_n 0, 1))
theorem d_Fa_thingNamed_4 : m_D k_Fa_thingNamed 4 (.getfield 48) 3 := (by decide +kernel : decode prog_3_method_6_code 4 = .ok (.getfield 48, 3))
theorem d_Fa_thingNamed_7 : m_D k_Fa_thingNamed 7 (.if_icmp .ge 25) 3 := (by decide +kernel : decode prog_3_method_6_code 7 = .ok (.if_icmp .ge 25, 3))
theorem d_Fa_thingNamed_10 : m_D k_Fa_thingNamed 10 (.aload_n 0) 1 := (by decide +kernel : decode prog_3_method_6_code 10 = .ok (.aload_n 0, 1))
theorem d_Fa_thingNamed_11 : m_D k_Fa_thingNamed 11 (.getfield 33) 3 := (by decide +kernel : decode prog_3_method_6_code 11 = .ok (.getfield 33, 3))
theorem d_Fa_thingNamed_14 : m_D k_Fa_thingNamed 14 (.iload_n 3) 1 := (by decide +kernel : decode prog_3_method_6_code 14 = .ok (.iload_n 3, 1))
theorem d_Fa_thingNamed_15 : m_D k_Fa_thingNamed 15 (.aaload) 1 := (by decide +kernel : decode prog_3_method_6_code 15 = .ok (.aaload, 1))
theorem d_Fa_thingNamed_16 : m_D k_Fa_thingNamed 16 (.getfield 85) 3 := (by decide +kernel : decode prog_3_method_6_code 16 = .ok (.getfield 85, 3))
theorem d_Fa_thingNamed_19 : m_D k_Fa_thingNamed 19 (.lload_n 1) 1 := (by decide +kernel : decode prog_3_method_6_code 19 = .ok (.lload_n 1, 1))
theorem d_Fa_thingNamed_20 : m_D k_Fa_thingNamed 20 (.lcmp) 1 := (by decide +kernel : decode prog_3_method_6_code 20 = .ok (.lcmp, 1))
theorem d_Fa_thingNamed_21 : m_D k_Fa_thingNamed 21 (.ifCond .ne 5) 3 := (by decide +kernel : decode prog_3_method_6_code 21 = .ok (.ifCond .ne 5, 3))
theorem d_Fa_thingNamed_24 : m_D k_Fa_thingNamed 24 (.iload_n 3) 1 := (by decide +kernel : decode prog_3_method_6_code 24 = .ok (.iload_n 3, 1))
theorem d_Fa_thingNamed_25 : m_D k_Fa_thingNamed 25 (.ireturn) 1 := (by decide +kernel : decode prog_3_method_6_code 25 = .ok (.ireturn, 1))
theorem d_Fa_thingNamed_26 : m_D k_Fa_thingNamed 26 (.iinc 3 1) 3 := (by decide +kernel : decode prog_3_method_6_code 26 = .ok (.iinc 3 1, 3))
theorem d_Fa_thingNamed_29 : m_D k_Fa_thingNamed 29 (.goto (-27)) 3 := (by decide +kernel : decode prog_3_method_6_code 29 = .ok (.goto (-27), 3))
theorem d_Fa_thingNamed_32 : m_D k_Fa_thingNamed 32 (.iconst (-1)) 1 := (by decide +kernel : decode prog_3_method_6_code 32 = .ok (.iconst (-1), 1))
theorem d_Fa_thingNamed_33 : m_D k_Fa_thingNamed 33 (.ireturn) 1 := (by decide +kernel : decode prog_3_method_6_code 33 = .ok (.ireturn, 1))
def fn_Fa_thingNamed_l2 (x0 : Option mA) (x1 : Int64) (t1 : Int32) : mP ((Int32) ⊕ (Int32)) :=
  m_bd (m_gI 3 1 x0) fun v2 =>
  if v2 ≤ t1 then
    m_rt (.inr (-1))
  else
    m_bd (m_gR 3 8 x0) fun v3 =>
    m_bd (m_aR 7 v3 t1) fun v4 =>
    m_bd (m_gJ 5 0 v4) fun v5 =>
    if (lg_cmp v5 x1) = 0 then
      m_rt (.inr t1)
    else
      m_rt (.inl (t1 + 1))
def fn_Fa_thingNamed (x0 : Option mA) (x1 : Int64) : mP Int32 :=
  m_th 3 x0 <|
  m_lp (fn_Fa_thingNamed_l2 x0 x1) m_F 0
set_option maxHeartbeats 4000000 in
set_option maxRecDepth 100000 in
theorem sd_Fa_thingNamed (x0 : Option mA) (x1 : Int64) : m_Sm k_Fa_thingNamed 1 0 0 [.inr (.inr x0), .inr (.inl x1)] (fn_Fa_thingNamed x0 x1) (fun b => some (.inl b)) := by
  refine ⟨Nat.le_of_ble_eq_true rfl, ?_⟩
  refine sm_th ?_
  refine sm_iconst (pc' := 1) d_Fa_thingNamed_0 rfl ic_0 (sm_istore_n (i := 3) (L' := [(3, .inl 0), (0, .inr (.inr x0)), (1, .inr (.inl x1))]) (pc' := 2) d_Fa_thingNamed_1 rfl rfl (Nat.le_of_ble_eq_true rfl) rfl ?_)
  refine sm_sub [0, 1, 2] rfl ?_
  refine sm_lp (hd := fun (t1 : Int32) => (.inl (2, [(3, .inl t1), (0, .inr (.inr x0)), (1, .inr (.inl x1))], []) : mC)) (fun t1 => ?_) m_F 0
  refine sm_iload_n (i := 3) (j := 0) (pc' := 3) d_Fa_thingNamed_2 rfl rfl rfl (sm_aload_n (i := 0) (j := 1) (pc' := 4) d_Fa_thingNamed_3 rfl rfl rfl ?_)
  refine sm_getI (pc' := 7) d_Fa_thingNamed_4 rfl fl_Fa_48 rfl ⟨by decide, by decide⟩ (fun v2 => ?_)
  refine sm_icmp_ge (tgt := 32) (pc' := 10) d_Fa_thingNamed_7 rfl rfl ?_ ?_
  · refine sm_iconst (pc' := 33) d_Fa_thingNamed_32 rfl ic_m1 ?_
    exact sm_ireturn d_Fa_thingNamed_33 rfl rfl
  · refine sm_aload_n (i := 0) (j := 1) (pc' := 11) d_Fa_thingNamed_10 rfl rfl rfl ?_
    refine sm_getR (pc' := 14) d_Fa_thingNamed_11 rfl fl_Fa_33 rfl rfl (fun v3 => ?_)
    refine sm_iload_n (i := 3) (j := 0) (pc' := 15) d_Fa_thingNamed_14 rfl rfl rfl ?_
    refine sm_aald (t := 7) ⟨by decide, by decide⟩ rfl (pc' := 16) d_Fa_thingNamed_15 rfl (fun v4 => ?_)
    refine sm_getJ (pc' := 19) d_Fa_thingNamed_16 rfl fl_Fa_85 rfl rfl (fun v5 => ?_)
    refine sm_lload_n (i := 1) (j := 2) (pc' := 20) d_Fa_thingNamed_19 rfl rfl rfl (sm_lcmp (pc' := 21) d_Fa_thingNamed_20 rfl ?_)
    refine sm_if_ne (tgt := 26) (pc' := 24) d_Fa_thingNamed_21 rfl rfl ?_ ?_
    · refine sm_iinc (j := 0) (L' := [(3, .inl (t1 + 1)), (0, .inr (.inr x0)), (1, .inr (.inl x1))]) (pc' := 29) d_Fa_thingNamed_26 rfl (v := (t1 + 1)) rfl (ix_1 _) (Nat.le_of_ble_eq_true rfl) rfl (sm_goto (tgt := 2) d_Fa_thingNamed_29 rfl (sm_sub [0, 1, 2] rfl ?_))
      exact sm_rt rfl
    · refine sm_iload_n (i := 3) (j := 0) (pc' := 25) d_Fa_thingNamed_24 rfl rfl rfl ?_
      exact sm_ireturn d_Fa_thingNamed_25 rfl rfl
theorem d_Tx_isDigit_0 : m_D k_Tx_isDigit 0 (.iload_n 0) 1 := (by decide +kernel : decode prog_10_method_9_code 0 = .ok (.iload_n 0, 1))
theorem d_Tx_isDigit_1 : m_D k_Tx_isDigit 1 (.bipush 48) 2 := (by decide +kernel : decode prog_10_method_9_code 1 = .ok (.bipush 48, 2))
theorem d_Tx_isDigit_3 : m_D k_Tx_isDigit 3 (.if_icmp .lt 13) 3 := (by decide +kernel : decode prog_10_method_9_code 3 = .ok (.if_icmp .lt 13, 3))
theorem d_Tx_isDigit_6 : m_D k_Tx_isDigit 6 (.iload_n 0) 1 := (by decide +kernel : decode prog_10_method_9_code 6 = .ok (.iload_n 0, 1))
theorem d_Tx_isDigit_7 : m_D k_Tx_isDigit 7 (.bipush 57) 2 := (by decide +kernel : decode prog_10_method_9_code 7 = .ok (.bipush 57, 2))
theorem d_Tx_isDigit_9 : m_D k_Tx_isDigit 9 (.if_icmp .gt 7) 3 := (by decide +kernel : decode prog_10_method_9_code 9 = .ok (.if_icmp .gt 7, 3))
theorem d_Tx_isDigit_12 : m_D k_Tx_isDigit 12 (.iconst 1) 1 := (by decide +kernel : decode prog_10_method_9_code 12 = .ok (.iconst 1, 1))
theorem d_Tx_isDigit_13 : m_D k_Tx_isDigit 13 (.goto 4) 3 := (by decide +kernel : decode prog_10_method_9_code 13 = .ok (.goto 4, 3))
theorem d_Tx_isDigit_16 : m_D k_Tx_isDigit 16 (.iconst 0) 1 := (by decide +kernel : decode prog_10_method_9_code 16 = .ok (.iconst 0, 1))
theorem d_Tx_isDigit_17 : m_D k_Tx_isDigit 17 (.ireturn) 1 := (by decide +kernel : decode prog_10_method_9_code 17 = .ok (.ireturn, 1))
def fn_Tx_isDigit (x0 : Int32) : mP Int32 :=
  if x0 < 48 then
    m_rt 0
  else
    if 57 < x0 then
      m_rt 0
    else
      m_rt 1
set_option maxHeartbeats 4000000 in
set_option maxRecDepth 100000 in
theorem sd_Tx_isDigit (x0 : Int32) : m_Sm k_Tx_isDigit 1 0 0 [.inl x0] (fn_Tx_isDigit x0) (fun b => some (.inl b)) := by
  refine ⟨Nat.le_of_ble_eq_true rfl, ?_⟩
  refine sm_iload_n (i := 0) (j := 0) (pc' := 1) d_Tx_isDigit_0 rfl rfl rfl (sm_bipush (pc' := 3) d_Tx_isDigit_1 rfl ib_48 ?_)
  refine sm_icmp_lt (tgt := 16) (pc' := 6) d_Tx_isDigit_3 rfl rfl ?_ ?_
  · refine sm_iconst (pc' := 17) d_Tx_isDigit_16 rfl ic_0 ?_
    exact sm_zreturn d_Tx_isDigit_17 rfl (by decide) rfl
  · refine sm_iload_n (i := 0) (j := 0) (pc' := 7) d_Tx_isDigit_6 rfl rfl rfl (sm_bipush (pc' := 9) d_Tx_isDigit_7 rfl ib_57 ?_)
    refine sm_icmp_gt (tgt := 16) (pc' := 12) d_Tx_isDigit_9 rfl rfl ?_ ?_
    · refine sm_iconst (pc' := 17) d_Tx_isDigit_16 rfl ic_0 ?_
      exact sm_zreturn d_Tx_isDigit_17 rfl (by decide) rfl
    · refine sm_iconst (pc' := 13) d_Tx_isDigit_12 rfl ic_1 (sm_goto (tgt := 17) d_Tx_isDigit_13 rfl ?_)
      exact sm_zreturn d_Tx_isDigit_17 rfl (by decide) rfl
theorem d_Tx_isLetter_0 : m_D k_Tx_isLetter 0 (.iload_n 0) 1 := (by decide +kernel : decode prog_10_method_8_code 0 = .ok (.iload_n 0, 1))
theorem d_Tx_isLetter_1 : m_D k_Tx_isLetter 1 (.bipush 97) 2 := (by decide +kernel : decode prog_10_method_8_code 1 = .ok (.bipush 97, 2))
theorem d_Tx_isLetter_3 : m_D k_Tx_isLetter 3 (.if_icmp .lt 13) 3 := (by decide +kernel : decode prog_10_method_8_code 3 = .ok (.if_icmp .lt 13, 3))
theorem d_Tx_isLetter_6 : m_D k_Tx_isLetter 6 (.iload_n 0) 1 := (by decide +kernel : decode prog_10_method_8_code 6 = .ok (.iload_n 0, 1))
theorem d_Tx_isLetter_7 : m_D k_Tx_isLetter 7 (.bipush 122) 2 := (by decide +kernel : decode prog_10_method_8_code 7 = .ok (.bipush 122, 2))
theorem d_Tx_isLetter_9 : m_D k_Tx_isLetter 9 (.if_icmp .gt 7) 3 := (by decide +kernel : decode prog_10_method_8_code 9 = .ok (.if_icmp .gt 7, 3))
theorem d_Tx_isLetter_12 : m_D k_Tx_isLetter 12 (.iconst 1) 1 := (by decide +kernel : decode prog_10_method_8_code 12 = .ok (.iconst 1, 1))
theorem d_Tx_isLetter_13 : m_D k_Tx_isLetter 13 (.goto 4) 3 := (by decide +kernel : decode prog_10_method_8_code 13 = .ok (.goto 4, 3))
theorem d_Tx_isLetter_16 : m_D k_Tx_isLetter 16 (.iconst 0) 1 := (by decide +kernel : decode prog_10_method_8_code 16 = .ok (.iconst 0, 1))
theorem d_Tx_isLetter_17 : m_D k_Tx_isLetter 17 (.ireturn) 1 := (by decide +kernel : decode prog_10_method_8_code 17 = .ok (.ireturn, 1))
def fn_Tx_isLetter (x0 : Int32) : mP Int32 :=
  if x0 < 97 then
    m_rt 0
  else
    if 122 < x0 then
      m_rt 0
    else
      m_rt 1
set_option maxHeartbeats 4000000 in
set_option maxRecDepth 100000 in
theorem sd_Tx_isLetter (x0 : Int32) : m_Sm k_Tx_isLetter 1 0 0 [.inl x0] (fn_Tx_isLetter x0) (fun b => some (.inl b)) := by
  refine ⟨Nat.le_of_ble_eq_true rfl, ?_⟩
  refine sm_iload_n (i := 0) (j := 0) (pc' := 1) d_Tx_isLetter_0 rfl rfl rfl (sm_bipush (pc' := 3) d_Tx_isLetter_1 rfl ib_97 ?_)
  refine sm_icmp_lt (tgt := 16) (pc' := 6) d_Tx_isLetter_3 rfl rfl ?_ ?_
  · refine sm_iconst (pc' := 17) d_Tx_isLetter_16 rfl ic_0 ?_
    exact sm_zreturn d_Tx_isLetter_17 rfl (by decide) rfl
  · refine sm_iload_n (i := 0) (j := 0) (pc' := 7) d_Tx_isLetter_6 rfl rfl rfl (sm_bipush (pc' := 9) d_Tx_isLetter_7 rfl ib_122 ?_)
    refine sm_icmp_gt (tgt := 16) (pc' := 12) d_Tx_isLetter_9 rfl rfl ?_ ?_
    · refine sm_iconst (pc' := 17) d_Tx_isLetter_16 rfl ic_0 ?_
      exact sm_zreturn d_Tx_isLetter_17 rfl (by decide) rfl
    · refine sm_iconst (pc' := 13) d_Tx_isLetter_12 rfl ic_1 (sm_goto (tgt := 17) d_Tx_isLetter_13 rfl ?_)
      exact sm_zreturn d_Tx_isLetter_17 rfl (by decide) rfl
theorem d_Tx_scanNumber_0 : m_D k_Tx_scanNumber 0 (.aload_n 0) 1 := (by decide +kernel : decode prog_10_method_7_code 0 = .ok (.aload_n 0, 1))
theorem d_Tx_scanNumber_1 : m_D k_Tx_scanNumber 1 (.getfield 28) 3 := (by decide +kernel : decode prog_10_method_7_code 1 = .ok (.getfield 28, 3))
theorem d_Tx_scanNumber_4 : m_D k_Tx_scanNumber 4 (.aload_n 0) 1 := (by decide +kernel : decode prog_10_method_7_code 4 = .ok (.aload_n 0, 1))
theorem d_Tx_scanNumber_5 : m_D k_Tx_scanNumber 5 (.getfield 25) 3 := (by decide +kernel : decode prog_10_method_7_code 5 = .ok (.getfield 25, 3))
theorem d_Tx_scanNumber_8 : m_D k_Tx_scanNumber 8 (.if_icmp .ge 73) 3 := (by decide +kernel : decode prog_10_method_7_code 8 = .ok (.if_icmp .ge 73, 3))
theorem d_Tx_scanNumber_11 : m_D k_Tx_scanNumber 11 (.aload_n 0) 1 := (by decide +kernel : decode prog_10_method_7_code 11 = .ok (.aload_n 0, 1))
theorem d_Tx_scanNumber_12 : m_D k_Tx_scanNumber 12 (.getfield 9) 3 := (by decide +kernel : decode prog_10_method_7_code 12 = .ok (.getfield 9, 3))
theorem d_Tx_scanNumber_15 : m_D k_Tx_scanNumber 15 (.aload_n 0) 1 := (by decide +kernel : decode prog_10_method_7_code 15 = .ok (.aload_n 0, 1))
theorem d_Tx_scanNumber_16 : m_D k_Tx_scanNumber 16 (.getfield 28) 3 := (by decide +kernel : decode prog_10_method_7_code 16 = .ok (.getfield 28, 3))
theorem d_Tx_scanNumber_19 : m_D k_Tx_scanNumber 19 (.baload) 1 := (by decide +kernel : decode prog_10_method_7_code 19 = .ok (.baload, 1))
theorem d_Tx_scanNumber_20 : m_D k_Tx_scanNumber 20 (.invokestatic 60) 3 := (by decide +kernel : decode prog_10_method_7_code 20 = .ok (.invokestatic 60, 3))
theorem d_Tx_scanNumber_23 : m_D k_Tx_scanNumber 23 (.ifCond .eq 58) 3 := (by decide +kernel : decode prog_10_method_7_code 23 = .ok (.ifCond .eq 58, 3))
theorem d_Tx_scanNumber_26 : m_D k_Tx_scanNumber 26 (.aload_n 0) 1 := (by decide +kernel : decode prog_10_method_7_code 26 = .ok (.aload_n 0, 1))
theorem d_Tx_scanNumber_27 : m_D k_Tx_scanNumber 27 (.getfield 40) 3 := (by decide +kernel : decode prog_10_method_7_code 27 = .ok (.getfield 40, 3))
theorem d_Tx_scanNumber_30 : m_D k_Tx_scanNumber 30 (.iconst 4) 1 := (by decide +kernel : decode prog_10_method_7_code 30 = .ok (.iconst 4, 1))
theorem d_Tx_scanNumber_31 : m_D k_Tx_scanNumber 31 (.if_icmp .ge 27) 3 := (by decide +kernel : decode prog_10_method_7_code 31 = .ok (.if_icmp .ge 27, 3))
theorem d_Tx_scanNumber_34 : m_D k_Tx_scanNumber 34 (.aload_n 0) 1 := (by decide +kernel : decode prog_10_method_7_code 34 = .ok (.aload_n 0, 1))
theorem d_Tx_scanNumber_35 : m_D k_Tx_scanNumber 35 (.aload_n 0) 1 := (by decide +kernel : decode prog_10_method_7_code 35 = .ok (.aload_n 0, 1))
theorem d_Tx_scanNumber_36 : m_D k_Tx_scanNumber 36 (.getfield 47) 3 := (by decide +kernel : decode prog_10_method_7_code 36 = .ok (.getfield 47, 3))
theorem d_Tx_scanNumber_39 : m_D k_Tx_scanNumber 39 (.bipush 10) 2 := (by decide +kernel : decode prog_10_method_7_code 39 = .ok (.bipush 10, 2))
theorem d_Tx_scanNumber_41 : m_D k_Tx_scanNumber 41 (.imul) 1 := (by decide +kernel : decode prog_10_method_7_code 41 = .ok (.imul, 1))
theorem d_Tx_scanNumber_42 : m_D k_Tx_scanNumber 42 (.aload_n 0) 1 := (by decide +kernel : decode prog_10_method_7_code 42 = .ok (.aload_n 0, 1))
theorem d_Tx_scanNumber_43 : m_D k_Tx_scanNumber 43 (.getfield 9) 3 := (by decide +kernel : decode prog_10_method_7_code 43 = .ok (.getfield 9, 3))
theorem d_Tx_scanNumber_46 : m_D k_Tx_scanNumber 46 (.aload_n 0) 1 := (by decide +kernel : decode prog_10_method_7_code 46 = .ok (.aload_n 0, 1))
theorem d_Tx_scanNumber_47 : m_D k_Tx_scanNumber 47 (.getfield 28) 3 := (by decide +kernel : decode prog_10_method_7_code 47 = .ok (.getfield 28, 3))
theorem d_Tx_scanNumber_50 : m_D k_Tx_scanNumber 50 (.baload) 1 := (by decide +kernel : decode prog_10_method_7_code 50 = .ok (.baload, 1))
theorem d_Tx_scanNumber_51 : m_D k_Tx_scanNumber 51 (.bipush 48) 2 := (by decide +kernel : decode prog_10_method_7_code 51 = .ok (.bipush 48, 2))
theorem d_Tx_scanNumber_53 : m_D k_Tx_scanNumber 53 (.isub) 1 := (by decide +kernel : decode prog_10_method_7_code 53 = .ok (.isub, 1))
theorem d_Tx_scanNumber_54 : m_D k_Tx_scanNumber 54 (.iadd) 1 := (by decide +kernel : decode prog_10_method_7_code 54 = .ok (.iadd, 1))
theorem d_Tx_scanNumber_55 : m_D k_Tx_scanNumber 55 (.putfield 47) 3 := (by decide +kernel : decode prog_10_method_7_code 55 = .ok (.putfield 47, 3))
theorem d_Tx_scanNumber_58 : m_D k_Tx_scanNumber 58 (.aload_n 0) 1 := (by decide +kernel : decode prog_10_method_7_code 58 = .ok (.aload_n 0, 1))
theorem d_Tx_scanNumber_59 : m_D k_Tx_scanNumber 59 (.dup) 1 := (by decide +kernel : decode prog_10_method_7_code 59 = .ok (.dup, 1))
theorem d_Tx_scanNumber_60 : m_D k_Tx_scanNumber 60 (.getfield 40) 3 := (by decide +kernel : decode prog_10_method_7_code 60 = .ok (.getfield 40, 3))
theorem d_Tx_scanNumber_63 : m_D k_Tx_scanNumber 63 (.iconst 1) 1 := (by decide +kernel : decode prog_10_method_7_code 63 = .ok (.iconst 1, 1))
theorem d_Tx_scanNumber_64 : m_D k_Tx_scanNumber 64 (.iadd) 1 := (by decide +kernel : decode prog_10_method_7_code 64 = .ok (.iadd, 1))
theorem d_Tx_scanNumber_65 : m_D k_Tx_scanNumber 65 (.putfield 40) 3 := (by decide +kernel : decode prog_10_method_7_code 65 = .ok (.putfield 40, 3))
theorem d_Tx_scanNumber_68 : m_D k_Tx_scanNumber 68 (.aload_n 0) 1 := (by decide +kernel : decode prog_10_method_7_code 68 = .ok (.aload_n 0, 1))
theorem d_Tx_scanNumber_69 : m_D k_Tx_scanNumber 69 (.dup) 1 := (by decide +kernel : decode prog_10_method_7_code 69 = .ok (.dup, 1))
theorem d_Tx_scanNumber_70 : m_D k_Tx_scanNumber 70 (.getfield 28) 3 := (by decide +kernel : decode prog_10_method_7_code 70 = .ok (.getfield 28, 3))
theorem d_Tx_scanNumber_73 : m_D k_Tx_scanNumber 73 (.iconst 1) 1 := (by decide +kernel : decode prog_10_method_7_code 73 = .ok (.iconst 1, 1))
theorem d_Tx_scanNumber_74 : m_D k_Tx_scanNumber 74 (.iadd) 1 := (by decide +kernel : decode prog_10_method_7_code 74 = .ok (.iadd, 1))
theorem d_Tx_scanNumber_75 : m_D k_Tx_scanNumber 75 (.putfield 28) 3 := (by decide +kernel : decode prog_10_method_7_code 75 = .ok (.putfield 28, 3))
theorem d_Tx_scanNumber_78 : m_D k_Tx_scanNumber 78 (.goto (-78)) 3 := (by decide +kernel : decode prog_10_method_7_code 78 = .ok (.goto (-78), 3))
theorem d_Tx_scanNumber_81 : m_D k_Tx_scanNumber 81 (.aload_n 0) 1 := (by decide +kernel : decode prog_10_method_7_code 81 = .ok (.aload_n 0, 1))
theorem d_Tx_scanNumber_82 : m_D k_Tx_scanNumber 82 (.aload_n 0) 1 := (by decide +kernel : decode prog_10_method_7_code 82 = .ok (.aload_n 0, 1))
theorem d_Tx_scanNumber_83 : m_D k_Tx_scanNumber 83 (.getfield 40) 3 := (by decide +kernel : decode prog_10_method_7_code 83 = .ok (.getfield 40, 3))
theorem d_Tx_scanNumber_86 : m_D k_Tx_scanNumber 86 (.iconst 4) 1 := (by decide +kernel : decode prog_10_method_7_code 86 = .ok (.iconst 4, 1))
theorem d_Tx_scanNumber_87 : m_D k_Tx_scanNumber 87 (.if_icmp .gt 7) 3 := (by decide +kernel : decode prog_10_method_7_code 87 = .ok (.if_icmp .gt 7, 3))
theorem d_Tx_scanNumber_90 : m_D k_Tx_scanNumber 90 (.iconst 2) 1 := (by decide +kernel : decode prog_10_method_7_code 90 = .ok (.iconst 2, 1))
theorem d_Tx_scanNumber_91 : m_D k_Tx_scanNumber 91 (.goto 4) 3 := (by decide +kernel : decode prog_10_method_7_code 91 = .ok (.goto 4, 3))
theorem d_Tx_scanNumber_94 : m_D k_Tx_scanNumber 94 (.iconst 4) 1 := (by decide +kernel : decode prog_10_method_7_code 94 = .ok (.iconst 4, 1))
theorem d_Tx_scanNumber_95 : m_D k_Tx_scanNumber 95 (.putfield 50) 3 := (by decide +kernel : decode prog_10_method_7_code 95 = .ok (.putfield 50, 3))
theorem d_Tx_scanNumber_98 : m_D k_Tx_scanNumber 98 (.return_) 1 := (by decide +kernel : decode prog_10_method_7_code 98 = .ok (.return_, 1))
def fn_Tx_scanNumber_l0 (x0 : Option mA) (t1 : Unit) : mP ((Unit) ⊕ (Unit)) :=
  m_bd (m_gI 2 3 x0) fun v2 =>
  m_bd (m_gI 2 2 x0) fun v3 =>
  if v3 ≤ v2 then
    m_rt (.inr ())
  else
    m_bd (m_gR 2 0 x0) fun v4 =>
    m_bd (m_gI 2 3 x0) fun v5 =>
    m_bd (m_aI 2 v4 v5) fun v6 =>
    m_bd (fn_Tx_isDigit v6) fun v7 =>
    if v7 = 0 then
      m_rt (.inr ())
    else
      m_bd (m_gI 2 6 x0) fun v8 =>
      m_bd (α := Unit) (
        if 4 ≤ v8 then
          m_rt ()
        else
          m_bd (m_gI 2 8 x0) fun v9 =>
          m_bd (m_gR 2 0 x0) fun v10 =>
          m_bd (m_gI 2 3 x0) fun v11 =>
          m_bd (m_aI 2 v10 v11) fun v12 =>
          m_bd (m_pI 2 8 x0 ((v9 * 10) + (v12 - 48))) fun _ =>
          m_rt ()
        ) fun (t13 : Unit) =>
      m_bd (m_gI 2 6 x0) fun v14 =>
      m_bd (m_pI 2 6 x0 (v14 + 1)) fun _ =>
      m_bd (m_gI 2 3 x0) fun v15 =>
      m_bd (m_pI 2 3 x0 (v15 + 1)) fun _ =>
      m_rt (.inl ())
def fn_Tx_scanNumber (x0 : Option mA) : mP Unit :=
  m_th 2 x0 <|
  m_bd (m_lp (fn_Tx_scanNumber_l0 x0) m_F ()) fun (t16 : Unit) =>
  m_bd (m_gI 2 6 x0) fun v17 =>
  if 4 < v17 then
    m_bd (m_pI 2 4 x0 4) fun _ =>
    m_rt ()
  else
    m_bd (m_pI 2 4 x0 2) fun _ =>
    m_rt ()
set_option maxHeartbeats 4000000 in
set_option maxRecDepth 100000 in
theorem sd_Tx_scanNumber (x0 : Option mA) : m_Sm k_Tx_scanNumber 2 0 0 [.inr (.inr x0)] (fn_Tx_scanNumber x0) (fun _ => none) := by
  refine ⟨Nat.le_of_ble_eq_true rfl, ?_⟩
  refine sm_th ?_
  refine sm_sub [0] rfl ?_
  refine sm_bd (mid := fun (t16 : Unit) => .inl (81, [(0, .inr (.inr x0))], [])) (sm_lp (hd := fun (t1 : Unit) => (.inl (0, [(0, .inr (.inr x0))], []) : mC)) (fun t1 => ?_) m_F ()) (fun t16 => ?_)
  · refine sm_aload_n (i := 0) (j := 0) (pc' := 1) d_Tx_scanNumber_0 rfl rfl rfl ?_
    refine sm_getI (pc' := 4) d_Tx_scanNumber_1 rfl fl_Tx_28 rfl ⟨by decide, by decide⟩ (fun v2 => ?_)
    refine sm_aload_n (i := 0) (j := 0) (pc' := 5) d_Tx_scanNumber_4 rfl rfl rfl ?_
    refine sm_getI (pc' := 8) d_Tx_scanNumber_5 rfl fl_Tx_25 rfl ⟨by decide, by decide⟩ (fun v3 => ?_)
    refine sm_icmp_ge (tgt := 81) (pc' := 11) d_Tx_scanNumber_8 rfl rfl ?_ ?_
    · refine sm_sub [0] rfl ?_
      exact sm_rt rfl
    · refine sm_aload_n (i := 0) (j := 0) (pc' := 12) d_Tx_scanNumber_11 rfl rfl rfl ?_
      refine sm_getR (pc' := 15) d_Tx_scanNumber_12 rfl fl_Tx_9 rfl rfl (fun v4 => ?_)
      refine sm_aload_n (i := 0) (j := 0) (pc' := 16) d_Tx_scanNumber_15 rfl rfl rfl ?_
      refine sm_getI (pc' := 19) d_Tx_scanNumber_16 rfl fl_Tx_28 rfl ⟨by decide, by decide⟩ (fun v5 => ?_)
      refine sm_bald (pc' := 20) d_Tx_scanNumber_19 rfl (fun v6 => ?_)
      refine sm_callSi (av := [.inl v6]) (st := []) (mc := 0) (ms := 0) (pc' := 23) d_Tx_scanNumber_20 rfl (sd_Tx_isDigit v6) cs_Tx_isDigit w_ml_Tx_60 rfl rfl (by decide) (Nat.le_of_ble_eq_true rfl) rfl rfl (fun v7 => ?_)
      refine sm_if_eq (tgt := 81) (pc' := 26) d_Tx_scanNumber_23 rfl rfl ?_ ?_
      · refine sm_sub [0] rfl ?_
        exact sm_rt rfl
      · refine sm_aload_n (i := 0) (j := 0) (pc' := 27) d_Tx_scanNumber_26 rfl rfl rfl ?_
        refine sm_getI (pc' := 30) d_Tx_scanNumber_27 rfl fl_Tx_40 rfl ⟨by decide, by decide⟩ (fun v8 => ?_)
        refine sm_iconst (pc' := 31) d_Tx_scanNumber_30 rfl ic_4 ?_
        refine sm_bd (mid := fun (t13 : Unit) => .inl (58, [(0, .inr (.inr x0))], [])) ?_ (fun t13 => ?_)
        · refine sm_icmp_ge (tgt := 58) (pc' := 34) d_Tx_scanNumber_31 rfl rfl ?_ ?_
          · refine sm_sub [0] rfl ?_
            exact sm_rt rfl
          · refine sm_aload_n (i := 0) (j := 0) (pc' := 35) d_Tx_scanNumber_34 rfl rfl rfl (sm_aload_n (i := 0) (j := 0) (pc' := 36) d_Tx_scanNumber_35 rfl rfl rfl ?_)
            refine sm_getI (pc' := 39) d_Tx_scanNumber_36 rfl fl_Tx_47 rfl ⟨by decide, by decide⟩ (fun v9 => ?_)
            refine sm_bipush (pc' := 41) d_Tx_scanNumber_39 rfl ib_10 (sm_imul (pc' := 42) d_Tx_scanNumber_41 rfl (sm_aload_n (i := 0) (j := 0) (pc' := 43) d_Tx_scanNumber_42 rfl rfl rfl ?_))
            refine sm_getR (pc' := 46) d_Tx_scanNumber_43 rfl fl_Tx_9 rfl rfl (fun v10 => ?_)
            refine sm_aload_n (i := 0) (j := 0) (pc' := 47) d_Tx_scanNumber_46 rfl rfl rfl ?_
            refine sm_getI (pc' := 50) d_Tx_scanNumber_47 rfl fl_Tx_28 rfl ⟨by decide, by decide⟩ (fun v11 => ?_)
            refine sm_bald (pc' := 51) d_Tx_scanNumber_50 rfl (fun v12 => ?_)
            refine sm_bipush (pc' := 53) d_Tx_scanNumber_51 rfl ib_48 (sm_isub (pc' := 54) d_Tx_scanNumber_53 rfl (sm_iadd (pc' := 55) d_Tx_scanNumber_54 rfl (sm_putI (pc' := 58) d_Tx_scanNumber_55 rfl fl_Tx_47 (Or.inl rfl) rfl (sm_sub [0] rfl ?_))))
            exact sm_rt rfl
        · refine sm_aload_n (i := 0) (j := 0) (pc' := 59) d_Tx_scanNumber_58 rfl rfl rfl (sm_dup (pc' := 60) d_Tx_scanNumber_59 rfl rfl ?_)
          refine sm_getI (pc' := 63) d_Tx_scanNumber_60 rfl fl_Tx_40 rfl ⟨by decide, by decide⟩ (fun v14 => ?_)
          refine sm_iconst (pc' := 64) d_Tx_scanNumber_63 rfl ic_1 (sm_iadd (pc' := 65) d_Tx_scanNumber_64 rfl (sm_putI (pc' := 68) d_Tx_scanNumber_65 rfl fl_Tx_40 (Or.inl rfl) rfl (sm_aload_n (i := 0) (j := 0) (pc' := 69) d_Tx_scanNumber_68 rfl rfl rfl (sm_dup (pc' := 70) d_Tx_scanNumber_69 rfl rfl ?_))))
          refine sm_getI (pc' := 73) d_Tx_scanNumber_70 rfl fl_Tx_28 rfl ⟨by decide, by decide⟩ (fun v15 => ?_)
          refine sm_iconst (pc' := 74) d_Tx_scanNumber_73 rfl ic_1 (sm_iadd (pc' := 75) d_Tx_scanNumber_74 rfl (sm_putI (pc' := 78) d_Tx_scanNumber_75 rfl fl_Tx_28 (Or.inl rfl) rfl (sm_goto (tgt := 0) d_Tx_scanNumber_78 rfl (sm_sub [0] rfl ?_))))
          exact sm_rt rfl
  · refine sm_aload_n (i := 0) (j := 0) (pc' := 82) d_Tx_scanNumber_81 rfl rfl rfl (sm_aload_n (i := 0) (j := 0) (pc' := 83) d_Tx_scanNumber_82 rfl rfl rfl ?_)
    refine sm_getI (pc' := 86) d_Tx_scanNumber_83 rfl fl_Tx_40 rfl ⟨by decide, by decide⟩ (fun v17 => ?_)
    refine sm_iconst (pc' := 87) d_Tx_scanNumber_86 rfl ic_4 ?_
    refine sm_icmp_gt (tgt := 94) (pc' := 90) d_Tx_scanNumber_87 rfl rfl ?_ ?_
    · refine sm_iconst (pc' := 95) d_Tx_scanNumber_94 rfl ic_4 (sm_putI (pc' := 98) d_Tx_scanNumber_95 rfl fl_Tx_50 (Or.inl rfl) rfl ?_)
      exact sm_return d_Tx_scanNumber_98 rfl rfl
    · refine sm_iconst (pc' := 91) d_Tx_scanNumber_90 rfl ic_2 (sm_goto (tgt := 95) d_Tx_scanNumber_91 rfl (sm_putI (pc' := 98) d_Tx_scanNumber_95 rfl fl_Tx_50 (Or.inl rfl) rfl ?_))
      exact sm_return d_Tx_scanNumber_98 rfl rfl
theorem d_Tx_scanWord_0 : m_D k_Tx_scanWord 0 (.aload_n 0) 1 := (by decide +kernel : decode prog_10_method_6_code 0 = .ok (.aload_n 0, 1))
theorem d_Tx_scanWord_1 : m_D k_Tx_scanWord 1 (.iconst 1) 1 := (by decide +kernel : decode prog_10_method_6_code 1 = .ok (.iconst 1, 1))
theorem d_Tx_scanWord_2 : m_D k_Tx_scanWord 2 (.putfield 50) 3 := (by decide +kernel : decode prog_10_method_6_code 2 = .ok (.putfield 50, 3))
theorem d_Tx_scanWord_5 : m_D k_Tx_scanWord 5 (.aload_n 0) 1 := (by decide +kernel : decode prog_10_method_6_code 5 = .ok (.aload_n 0, 1))
theorem d_Tx_scanWord_6 : m_D k_Tx_scanWord 6 (.getfield 28) 3 := (by decide +kernel : decode prog_10_method_6_code 6 = .ok (.getfield 28, 3))
theorem d_Tx_scanWord_9 : m_D k_Tx_scanWord 9 (.aload_n 0) 1 := (by decide +kernel : decode prog_10_method_6_code 9 = .ok (.aload_n 0, 1))
theorem d_Tx_scanWord_10 : m_D k_Tx_scanWord 10 (.getfield 25) 3 := (by decide +kernel : decode prog_10_method_6_code 10 = .ok (.getfield 25, 3))
theorem d_Tx_scanWord_13 : m_D k_Tx_scanWord 13 (.if_icmp .ge 78) 3 := (by decide +kernel : decode prog_10_method_6_code 13 = .ok (.if_icmp .ge 78, 3))
theorem d_Tx_scanWord_16 : m_D k_Tx_scanWord 16 (.aload_n 0) 1 := (by decide +kernel : decode prog_10_method_6_code 16 = .ok (.aload_n 0, 1))
theorem d_Tx_scanWord_17 : m_D k_Tx_scanWord 17 (.getfield 9) 3 := (by decide +kernel : decode prog_10_method_6_code 17 = .ok (.getfield 9, 3))
theorem d_Tx_scanWord_20 : m_D k_Tx_scanWord 20 (.aload_n 0) 1 := (by decide +kernel : decode prog_10_method_6_code 20 = .ok (.aload_n 0, 1))
theorem d_Tx_scanWord_21 : m_D k_Tx_scanWord 21 (.getfield 28) 3 := (by decide +kernel : decode prog_10_method_6_code 21 = .ok (.getfield 28, 3))
theorem d_Tx_scanWord_24 : m_D k_Tx_scanWord 24 (.baload) 1 := (by decide +kernel : decode prog_10_method_6_code 24 = .ok (.baload, 1))
theorem d_Tx_scanWord_25 : m_D k_Tx_scanWord 25 (.invokestatic 53) 3 := (by decide +kernel : decode prog_10_method_6_code 25 = .ok (.invokestatic 53, 3))
theorem d_Tx_scanWord_28 : m_D k_Tx_scanWord 28 (.ifCond .eq 63) 3 := (by decide +kernel : decode prog_10_method_6_code 28 = .ok (.ifCond .eq 63, 3))
theorem d_Tx_scanWord_31 : m_D k_Tx_scanWord 31 (.aload_n 0) 1 := (by decide +kernel : decode prog_10_method_6_code 31 = .ok (.aload_n 0, 1))
theorem d_Tx_scanWord_32 : m_D k_Tx_scanWord 32 (.getfield 40) 3 := (by decide +kernel : decode prog_10_method_6_code 32 = .ok (.getfield 40, 3))
theorem d_Tx_scanWord_35 : m_D k_Tx_scanWord 35 (.bipush 8) 2 := (by decide +kernel : decode prog_10_method_6_code 35 = .ok (.bipush 8, 2))
theorem d_Tx_scanWord_37 : m_D k_Tx_scanWord 37 (.if_icmp .ge 31) 3 := (by decide +kernel : decode prog_10_method_6_code 37 = .ok (.if_icmp .ge 31, 3))
theorem d_Tx_scanWord_40 : m_D k_Tx_scanWord 40 (.aload_n 0) 1 := (by decide +kernel : decode prog_10_method_6_code 40 = .ok (.aload_n 0, 1))
theorem d_Tx_scanWord_41 : m_D k_Tx_scanWord 41 (.aload_n 0) 1 := (by decide +kernel : decode prog_10_method_6_code 41 = .ok (.aload_n 0, 1))
theorem d_Tx_scanWord_42 : m_D k_Tx_scanWord 42 (.getfield 43) 3 := (by decide +kernel : decode prog_10_method_6_code 42 = .ok (.getfield 43, 3))
theorem d_Tx_scanWord_45 : m_D k_Tx_scanWord 45 (.ldc2_w 66) 3 := (by decide +kernel : decode prog_10_method_6_code 45 = .ok (.ldc2_w 66, 3))
theorem d_Tx_scanWord_48 : m_D k_Tx_scanWord 48 (.lmul) 1 := (by decide +kernel : decode prog_10_method_6_code 48 = .ok (.lmul, 1))
theorem d_Tx_scanWord_49 : m_D k_Tx_scanWord 49 (.aload_n 0) 1 := (by decide +kernel : decode prog_10_method_6_code 49 = .ok (.aload_n 0, 1))
theorem d_Tx_scanWord_50 : m_D k_Tx_scanWord 50 (.getfield 9) 3 := (by decide +kernel : decode prog_10_method_6_code 50 = .ok (.getfield 9, 3))
theorem d_Tx_scanWord_53 : m_D k_Tx_scanWord 53 (.aload_n 0) 1 := (by decide +kernel : decode prog_10_method_6_code 53 = .ok (.aload_n 0, 1))
theorem d_Tx_scanWord_54 : m_D k_Tx_scanWord 54 (.getfield 28) 3 := (by decide +kernel : decode prog_10_method_6_code 54 = .ok (.getfield 28, 3))
theorem d_Tx_scanWord_57 : m_D k_Tx_scanWord 57 (.baload) 1 := (by decide +kernel : decode prog_10_method_6_code 57 = .ok (.baload, 1))
theorem d_Tx_scanWord_58 : m_D k_Tx_scanWord 58 (.bipush 97) 2 := (by decide +kernel : decode prog_10_method_6_code 58 = .ok (.bipush 97, 2))
theorem d_Tx_scanWord_60 : m_D k_Tx_scanWord 60 (.isub) 1 := (by decide +kernel : decode prog_10_method_6_code 60 = .ok (.isub, 1))
theorem d_Tx_scanWord_61 : m_D k_Tx_scanWord 61 (.iconst 1) 1 := (by decide +kernel : decode prog_10_method_6_code 61 = .ok (.iconst 1, 1))
theorem d_Tx_scanWord_62 : m_D k_Tx_scanWord 62 (.iadd) 1 := (by decide +kernel : decode prog_10_method_6_code 62 = .ok (.iadd, 1))
theorem d_Tx_scanWord_63 : m_D k_Tx_scanWord 63 (.i2l) 1 := (by decide +kernel : decode prog_10_method_6_code 63 = .ok (.i2l, 1))
theorem d_Tx_scanWord_64 : m_D k_Tx_scanWord 64 (.ladd) 1 := (by decide +kernel : decode prog_10_method_6_code 64 = .ok (.ladd, 1))
theorem d_Tx_scanWord_65 : m_D k_Tx_scanWord 65 (.putfield 43) 3 := (by decide +kernel : decode prog_10_method_6_code 65 = .ok (.putfield 43, 3))
theorem d_Tx_scanWord_68 : m_D k_Tx_scanWord 68 (.aload_n 0) 1 := (by decide +kernel : decode prog_10_method_6_code 68 = .ok (.aload_n 0, 1))
theorem d_Tx_scanWord_69 : m_D k_Tx_scanWord 69 (.dup) 1 := (by decide +kernel : decode prog_10_method_6_code 69 = .ok (.dup, 1))
theorem d_Tx_scanWord_70 : m_D k_Tx_scanWord 70 (.getfield 40) 3 := (by decide +kernel : decode prog_10_method_6_code 70 = .ok (.getfield 40, 3))
theorem d_Tx_scanWord_73 : m_D k_Tx_scanWord 73 (.iconst 1) 1 := (by decide +kernel : decode prog_10_method_6_code 73 = .ok (.iconst 1, 1))
theorem d_Tx_scanWord_74 : m_D k_Tx_scanWord 74 (.iadd) 1 := (by decide +kernel : decode prog_10_method_6_code 74 = .ok (.iadd, 1))
theorem d_Tx_scanWord_75 : m_D k_Tx_scanWord 75 (.putfield 40) 3 := (by decide +kernel : decode prog_10_method_6_code 75 = .ok (.putfield 40, 3))
theorem d_Tx_scanWord_78 : m_D k_Tx_scanWord 78 (.aload_n 0) 1 := (by decide +kernel : decode prog_10_method_6_code 78 = .ok (.aload_n 0, 1))
theorem d_Tx_scanWord_79 : m_D k_Tx_scanWord 79 (.dup) 1 := (by decide +kernel : decode prog_10_method_6_code 79 = .ok (.dup, 1))
theorem d_Tx_scanWord_80 : m_D k_Tx_scanWord 80 (.getfield 28) 3 := (by decide +kernel : decode prog_10_method_6_code 80 = .ok (.getfield 28, 3))
theorem d_Tx_scanWord_83 : m_D k_Tx_scanWord 83 (.iconst 1) 1 := (by decide +kernel : decode prog_10_method_6_code 83 = .ok (.iconst 1, 1))
theorem d_Tx_scanWord_84 : m_D k_Tx_scanWord 84 (.iadd) 1 := (by decide +kernel : decode prog_10_method_6_code 84 = .ok (.iadd, 1))
theorem d_Tx_scanWord_85 : m_D k_Tx_scanWord 85 (.putfield 28) 3 := (by decide +kernel : decode prog_10_method_6_code 85 = .ok (.putfield 28, 3))
theorem d_Tx_scanWord_88 : m_D k_Tx_scanWord 88 (.goto (-83)) 3 := (by decide +kernel : decode prog_10_method_6_code 88 = .ok (.goto (-83), 3))
theorem d_Tx_scanWord_91 : m_D k_Tx_scanWord 91 (.return_) 1 := (by decide +kernel : decode prog_10_method_6_code 91 = .ok (.return_, 1))
def fn_Tx_scanWord_l5 (x0 : Option mA) (t1 : Unit) : mP ((Unit) ⊕ (Unit)) :=
  m_bd (m_gI 2 3 x0) fun v2 =>
  m_bd (m_gI 2 2 x0) fun v3 =>
  if v3 ≤ v2 then
    m_rt (.inr ())
  else
    m_bd (m_gR 2 0 x0) fun v4 =>
    m_bd (m_gI 2 3 x0) fun v5 =>
    m_bd (m_aI 2 v4 v5) fun v6 =>
    m_bd (fn_Tx_isLetter v6) fun v7 =>
    if v7 = 0 then
      m_rt (.inr ())
    else
      m_bd (m_gI 2 6 x0) fun v8 =>
      m_bd (α := Unit) (
        if 8 ≤ v8 then
          m_rt ()
        else
          m_bd (m_gJ 2 7 x0) fun v9 =>
          m_bd (m_gR 2 0 x0) fun v10 =>
          m_bd (m_gI 2 3 x0) fun v11 =>
          m_bd (m_aI 2 v10 v11) fun v12 =>
          m_bd (m_pJ 2 7 x0 ((v9 * 32) + (((v12 - 97) + 1)).toInt64)) fun _ =>
          m_rt ()
        ) fun (t13 : Unit) =>
      m_bd (m_gI 2 6 x0) fun v14 =>
      m_bd (m_pI 2 6 x0 (v14 + 1)) fun _ =>
      m_bd (m_gI 2 3 x0) fun v15 =>
      m_bd (m_pI 2 3 x0 (v15 + 1)) fun _ =>
      m_rt (.inl ())
def fn_Tx_scanWord (x0 : Option mA) : mP Unit :=
  m_th 2 x0 <|
  m_bd (m_pI 2 4 x0 1) fun _ =>
  m_bd (m_lp (fn_Tx_scanWord_l5 x0) m_F ()) fun (t16 : Unit) =>
  m_rt ()
set_option maxHeartbeats 4000000 in
set_option maxRecDepth 100000 in
theorem sd_Tx_scanWord (x0 : Option mA) : m_Sm k_Tx_scanWord 2 0 0 [.inr (.inr x0)] (fn_Tx_scanWord x0) (fun _ => none) := by
  refine ⟨Nat.le_of_ble_eq_true rfl, ?_⟩
  refine sm_th ?_
  refine sm_aload_n (i := 0) (j := 0) (pc' := 1) d_Tx_scanWord_0 rfl rfl rfl (sm_iconst (pc' := 2) d_Tx_scanWord_1 rfl ic_1 (sm_putI (pc' := 5) d_Tx_scanWord_2 rfl fl_Tx_50 (Or.inl rfl) rfl ?_))
  refine sm_sub [0] rfl ?_
  refine sm_bd (mid := fun (t16 : Unit) => .inl (91, [], [])) (sm_lp (hd := fun (t1 : Unit) => (.inl (5, [(0, .inr (.inr x0))], []) : mC)) (fun t1 => ?_) m_F ()) (fun t16 => ?_)
  · refine sm_aload_n (i := 0) (j := 0) (pc' := 6) d_Tx_scanWord_5 rfl rfl rfl ?_
    refine sm_getI (pc' := 9) d_Tx_scanWord_6 rfl fl_Tx_28 rfl ⟨by decide, by decide⟩ (fun v2 => ?_)
    refine sm_aload_n (i := 0) (j := 0) (pc' := 10) d_Tx_scanWord_9 rfl rfl rfl ?_
    refine sm_getI (pc' := 13) d_Tx_scanWord_10 rfl fl_Tx_25 rfl ⟨by decide, by decide⟩ (fun v3 => ?_)
    refine sm_icmp_ge (tgt := 91) (pc' := 16) d_Tx_scanWord_13 rfl rfl ?_ ?_
    · refine sm_sub [] rfl ?_
      exact sm_rt rfl
    · refine sm_aload_n (i := 0) (j := 0) (pc' := 17) d_Tx_scanWord_16 rfl rfl rfl ?_
      refine sm_getR (pc' := 20) d_Tx_scanWord_17 rfl fl_Tx_9 rfl rfl (fun v4 => ?_)
      refine sm_aload_n (i := 0) (j := 0) (pc' := 21) d_Tx_scanWord_20 rfl rfl rfl ?_
      refine sm_getI (pc' := 24) d_Tx_scanWord_21 rfl fl_Tx_28 rfl ⟨by decide, by decide⟩ (fun v5 => ?_)
      refine sm_bald (pc' := 25) d_Tx_scanWord_24 rfl (fun v6 => ?_)
      refine sm_callSi (av := [.inl v6]) (st := []) (mc := 0) (ms := 0) (pc' := 28) d_Tx_scanWord_25 rfl (sd_Tx_isLetter v6) cs_Tx_isLetter w_ml_Tx_53 rfl rfl (by decide) (Nat.le_of_ble_eq_true rfl) rfl rfl (fun v7 => ?_)
      refine sm_if_eq (tgt := 91) (pc' := 31) d_Tx_scanWord_28 rfl rfl ?_ ?_
      · refine sm_sub [] rfl ?_
        exact sm_rt rfl
      · refine sm_aload_n (i := 0) (j := 0) (pc' := 32) d_Tx_scanWord_31 rfl rfl rfl ?_
        refine sm_getI (pc' := 35) d_Tx_scanWord_32 rfl fl_Tx_40 rfl ⟨by decide, by decide⟩ (fun v8 => ?_)
        refine sm_bipush (pc' := 37) d_Tx_scanWord_35 rfl ib_8 ?_
        refine sm_bd (mid := fun (t13 : Unit) => .inl (68, [(0, .inr (.inr x0))], [])) ?_ (fun t13 => ?_)
        · refine sm_icmp_ge (tgt := 68) (pc' := 40) d_Tx_scanWord_37 rfl rfl ?_ ?_
          · refine sm_sub [0] rfl ?_
            exact sm_rt rfl
          · refine sm_aload_n (i := 0) (j := 0) (pc' := 41) d_Tx_scanWord_40 rfl rfl rfl (sm_aload_n (i := 0) (j := 0) (pc' := 42) d_Tx_scanWord_41 rfl rfl rfl ?_)
            refine sm_getJ (pc' := 45) d_Tx_scanWord_42 rfl fl_Tx_43 rfl rfl (fun v9 => ?_)
            refine sm_ldc2 (v := 32) (pc' := 48) d_Tx_scanWord_45 rfl w_cl_Tx_66 (sm_lmul (pc' := 49) d_Tx_scanWord_48 rfl (sm_aload_n (i := 0) (j := 0) (pc' := 50) d_Tx_scanWord_49 rfl rfl rfl ?_))
            refine sm_getR (pc' := 53) d_Tx_scanWord_50 rfl fl_Tx_9 rfl rfl (fun v10 => ?_)
            refine sm_aload_n (i := 0) (j := 0) (pc' := 54) d_Tx_scanWord_53 rfl rfl rfl ?_
            refine sm_getI (pc' := 57) d_Tx_scanWord_54 rfl fl_Tx_28 rfl ⟨by decide, by decide⟩ (fun v11 => ?_)
            refine sm_bald (pc' := 58) d_Tx_scanWord_57 rfl (fun v12 => ?_)
            refine sm_bipush (pc' := 60) d_Tx_scanWord_58 rfl ib_97 (sm_isub (pc' := 61) d_Tx_scanWord_60 rfl (sm_iconst (pc' := 62) d_Tx_scanWord_61 rfl ic_1 (sm_iadd (pc' := 63) d_Tx_scanWord_62 rfl (sm_i2l (pc' := 64) d_Tx_scanWord_63 rfl (sm_ladd (pc' := 65) d_Tx_scanWord_64 rfl (sm_putJ (pc' := 68) d_Tx_scanWord_65 rfl fl_Tx_43 (Or.inl rfl) rfl (sm_sub [0] rfl ?_)))))))
            exact sm_rt rfl
        · refine sm_aload_n (i := 0) (j := 0) (pc' := 69) d_Tx_scanWord_68 rfl rfl rfl (sm_dup (pc' := 70) d_Tx_scanWord_69 rfl rfl ?_)
          refine sm_getI (pc' := 73) d_Tx_scanWord_70 rfl fl_Tx_40 rfl ⟨by decide, by decide⟩ (fun v14 => ?_)
          refine sm_iconst (pc' := 74) d_Tx_scanWord_73 rfl ic_1 (sm_iadd (pc' := 75) d_Tx_scanWord_74 rfl (sm_putI (pc' := 78) d_Tx_scanWord_75 rfl fl_Tx_40 (Or.inl rfl) rfl (sm_aload_n (i := 0) (j := 0) (pc' := 79) d_Tx_scanWord_78 rfl rfl rfl (sm_dup (pc' := 80) d_Tx_scanWord_79 rfl rfl ?_))))
          refine sm_getI (pc' := 83) d_Tx_scanWord_80 rfl fl_Tx_28 rfl ⟨by decide, by decide⟩ (fun v15 => ?_)
          refine sm_iconst (pc' := 84) d_Tx_scanWord_83 rfl ic_1 (sm_iadd (pc' := 85) d_Tx_scanWord_84 rfl (sm_putI (pc' := 88) d_Tx_scanWord_85 rfl fl_Tx_28 (Or.inl rfl) rfl (sm_goto (tgt := 5) d_Tx_scanWord_88 rfl (sm_sub [0] rfl ?_))))
          exact sm_rt rfl
  · exact sm_return d_Tx_scanWord_91 rfl rfl
theorem d_Tx_skipBlanks_0 : m_D k_Tx_skipBlanks 0 (.aload_n 0) 1 := (by decide +kernel : decode prog_10_method_5_code 0 = .ok (.aload_n 0, 1))
theorem d_Tx_skipBlanks_1 : m_D k_Tx_skipBlanks 1 (.getfield 28) 3 := (by decide +kernel : decode prog_10_method_5_code 1 = .ok (.getfield 28, 3))
theorem d_Tx_skipBlanks_4 : m_D k_Tx_skipBlanks 4 (.aload_n 0) 1 := (by decide +kernel : decode prog_10_method_5_code 4 = .ok (.aload_n 0, 1))
theorem d_Tx_skipBlanks_5 : m_D k_Tx_skipBlanks 5 (.getfield 25) 3 := (by decide +kernel : decode prog_10_method_5_code 5 = .ok (.getfield 25, 3))
theorem d_Tx_skipBlanks_8 : m_D k_Tx_skipBlanks 8 (.if_icmp .ge 45) 3 := (by decide +kernel : decode prog_10_method_5_code 8 = .ok (.if_icmp .ge 45, 3))
theorem d_Tx_skipBlanks_11 : m_D k_Tx_skipBlanks 11 (.aload_n 0) 1 := (by decide +kernel : decode prog_10_method_5_code 11 = .ok (.aload_n 0, 1))
theorem d_Tx_skipBlanks_12 : m_D k_Tx_skipBlanks 12 (.getfield 9) 3 := (by decide +kernel : decode prog_10_method_5_code 12 = .ok (.getfield 9, 3))
theorem d_Tx_skipBlanks_15 : m_D k_Tx_skipBlanks 15 (.aload_n 0) 1 := (by decide +kernel : decode prog_10_method_5_code 15 = .ok (.aload_n 0, 1))
theorem d_Tx_skipBlanks_16 : m_D k_Tx_skipBlanks 16 (.getfield 28) 3 := (by decide +kernel : decode prog_10_method_5_code 16 = .ok (.getfield 28, 3))
theorem d_Tx_skipBlanks_19 : m_D k_Tx_skipBlanks 19 (.baload) 1 := (by decide +kernel : decode prog_10_method_5_code 19 = .ok (.baload, 1))
theorem d_Tx_skipBlanks_20 : m_D k_Tx_skipBlanks 20 (.bipush 10) 2 := (by decide +kernel : decode prog_10_method_5_code 20 = .ok (.bipush 10, 2))
theorem d_Tx_skipBlanks_22 : m_D k_Tx_skipBlanks 22 (.if_icmp .eq 18) 3 := (by decide +kernel : decode prog_10_method_5_code 22 = .ok (.if_icmp .eq 18, 3))
theorem d_Tx_skipBlanks_25 : m_D k_Tx_skipBlanks 25 (.aload_n 0) 1 := (by decide +kernel : decode prog_10_method_5_code 25 = .ok (.aload_n 0, 1))
theorem d_Tx_skipBlanks_26 : m_D k_Tx_skipBlanks 26 (.getfield 9) 3 := (by decide +kernel : decode prog_10_method_5_code 26 = .ok (.getfield 9, 3))
theorem d_Tx_skipBlanks_29 : m_D k_Tx_skipBlanks 29 (.aload_n 0) 1 := (by decide +kernel : decode prog_10_method_5_code 29 = .ok (.aload_n 0, 1))
theorem d_Tx_skipBlanks_30 : m_D k_Tx_skipBlanks 30 (.getfield 28) 3 := (by decide +kernel : decode prog_10_method_5_code 30 = .ok (.getfield 28, 3))
theorem d_Tx_skipBlanks_33 : m_D k_Tx_skipBlanks 33 (.baload) 1 := (by decide +kernel : decode prog_10_method_5_code 33 = .ok (.baload, 1))
theorem d_Tx_skipBlanks_34 : m_D k_Tx_skipBlanks 34 (.bipush 32) 2 := (by decide +kernel : decode prog_10_method_5_code 34 = .ok (.bipush 32, 2))
theorem d_Tx_skipBlanks_36 : m_D k_Tx_skipBlanks 36 (.if_icmp .eq 4) 3 := (by decide +kernel : decode prog_10_method_5_code 36 = .ok (.if_icmp .eq 4, 3))
theorem d_Tx_skipBlanks_39 : m_D k_Tx_skipBlanks 39 (.return_) 1 := (by decide +kernel : decode prog_10_method_5_code 39 = .ok (.return_, 1))
theorem d_Tx_skipBlanks_40 : m_D k_Tx_skipBlanks 40 (.aload_n 0) 1 := (by decide +kernel : decode prog_10_method_5_code 40 = .ok (.aload_n 0, 1))
theorem d_Tx_skipBlanks_41 : m_D k_Tx_skipBlanks 41 (.dup) 1 := (by decide +kernel : decode prog_10_method_5_code 41 = .ok (.dup, 1))
theorem d_Tx_skipBlanks_42 : m_D k_Tx_skipBlanks 42 (.getfield 28) 3 := (by decide +kernel : decode prog_10_method_5_code 42 = .ok (.getfield 28, 3))
theorem d_Tx_skipBlanks_45 : m_D k_Tx_skipBlanks 45 (.iconst 1) 1 := (by decide +kernel : decode prog_10_method_5_code 45 = .ok (.iconst 1, 1))
theorem d_Tx_skipBlanks_46 : m_D k_Tx_skipBlanks 46 (.iadd) 1 := (by decide +kernel : decode prog_10_method_5_code 46 = .ok (.iadd, 1))
theorem d_Tx_skipBlanks_47 : m_D k_Tx_skipBlanks 47 (.putfield 28) 3 := (by decide +kernel : decode prog_10_method_5_code 47 = .ok (.putfield 28, 3))
theorem d_Tx_skipBlanks_50 : m_D k_Tx_skipBlanks 50 (.goto (-50)) 3 := (by decide +kernel : decode prog_10_method_5_code 50 = .ok (.goto (-50), 3))
theorem d_Tx_skipBlanks_53 : m_D k_Tx_skipBlanks 53 (.return_) 1 := (by decide +kernel : decode prog_10_method_5_code 53 = .ok (.return_, 1))
def fn_Tx_skipBlanks_l0 (x0 : Option mA) (t1 : Unit) : mP ((Unit) ⊕ (Unit)) :=
  m_bd (m_gI 2 3 x0) fun v2 =>
  m_bd (m_gI 2 2 x0) fun v3 =>
  if v3 ≤ v2 then
    m_rt (.inr ())
  else
    m_bd (m_gR 2 0 x0) fun v4 =>
    m_bd (m_gI 2 3 x0) fun v5 =>
    m_bd (m_aI 2 v4 v5) fun v6 =>
    if v6 = 10 then
      m_bd (m_gI 2 3 x0) fun v7 =>
      m_bd (m_pI 2 3 x0 (v7 + 1)) fun _ =>
      m_rt (.inl ())
    else
      m_bd (m_gR 2 0 x0) fun v8 =>
      m_bd (m_gI 2 3 x0) fun v9 =>
      m_bd (m_aI 2 v8 v9) fun v10 =>
      if v10 = 32 then
        m_bd (m_gI 2 3 x0) fun v11 =>
        m_bd (m_pI 2 3 x0 (v11 + 1)) fun _ =>
        m_rt (.inl ())
      else
        m_rt (.inr ())
def fn_Tx_skipBlanks (x0 : Option mA) : mP Unit :=
  m_th 2 x0 <|
  m_lp (fn_Tx_skipBlanks_l0 x0) m_F ()
set_option maxHeartbeats 4000000 in
set_option maxRecDepth 100000 in
theorem sd_Tx_skipBlanks (x0 : Option mA) : m_Sm k_Tx_skipBlanks 1 0 0 [.inr (.inr x0)] (fn_Tx_skipBlanks x0) (fun _ => none) := by
  refine ⟨Nat.le_of_ble_eq_true rfl, ?_⟩
  refine sm_th ?_
  refine sm_sub [0] rfl ?_
  refine sm_lp (hd := fun (t1 : Unit) => (.inl (0, [(0, .inr (.inr x0))], []) : mC)) (fun t1 => ?_) m_F ()
  refine sm_aload_n (i := 0) (j := 0) (pc' := 1) d_Tx_skipBlanks_0 rfl rfl rfl ?_
  refine sm_getI (pc' := 4) d_Tx_skipBlanks_1 rfl fl_Tx_28 rfl ⟨by decide, by decide⟩ (fun v2 => ?_)
  refine sm_aload_n (i := 0) (j := 0) (pc' := 5) d_Tx_skipBlanks_4 rfl rfl rfl ?_
  refine sm_getI (pc' := 8) d_Tx_skipBlanks_5 rfl fl_Tx_25 rfl ⟨by decide, by decide⟩ (fun v3 => ?_)
  refine sm_icmp_ge (tgt := 53) (pc' := 11) d_Tx_skipBlanks_8 rfl rfl ?_ ?_
  · exact sm_return d_Tx_skipBlanks_53 rfl rfl
  · refine sm_aload_n (i := 0) (j := 0) (pc' := 12) d_Tx_skipBlanks_11 rfl rfl rfl ?_
    refine sm_getR (pc' := 15) d_Tx_skipBlanks_12 rfl fl_Tx_9 rfl rfl (fun v4 => ?_)
    refine sm_aload_n (i := 0) (j := 0) (pc' := 16) d_Tx_skipBlanks_15 rfl rfl rfl ?_
    refine sm_getI (pc' := 19) d_Tx_skipBlanks_16 rfl fl_Tx_28 rfl ⟨by decide, by decide⟩ (fun v5 => ?_)
    refine sm_bald (pc' := 20) d_Tx_skipBlanks_19 rfl (fun v6 => ?_)
    refine sm_bipush (pc' := 22) d_Tx_skipBlanks_20 rfl ib_10 ?_
    refine sm_icmp_eq (tgt := 40) (pc' := 25) d_Tx_skipBlanks_22 rfl rfl ?_ ?_
    · refine sm_aload_n (i := 0) (j := 0) (pc' := 41) d_Tx_skipBlanks_40 rfl rfl rfl (sm_dup (pc' := 42) d_Tx_skipBlanks_41 rfl rfl ?_)
      refine sm_getI (pc' := 45) d_Tx_skipBlanks_42 rfl fl_Tx_28 rfl ⟨by decide, by decide⟩ (fun v7 => ?_)
      refine sm_iconst (pc' := 46) d_Tx_skipBlanks_45 rfl ic_1 (sm_iadd (pc' := 47) d_Tx_skipBlanks_46 rfl (sm_putI (pc' := 50) d_Tx_skipBlanks_47 rfl fl_Tx_28 (Or.inl rfl) rfl (sm_goto (tgt := 0) d_Tx_skipBlanks_50 rfl (sm_sub [0] rfl ?_))))
      exact sm_rt rfl
    · refine sm_aload_n (i := 0) (j := 0) (pc' := 26) d_Tx_skipBlanks_25 rfl rfl rfl ?_
      refine sm_getR (pc' := 29) d_Tx_skipBlanks_26 rfl fl_Tx_9 rfl rfl (fun v8 => ?_)
      refine sm_aload_n (i := 0) (j := 0) (pc' := 30) d_Tx_skipBlanks_29 rfl rfl rfl ?_
      refine sm_getI (pc' := 33) d_Tx_skipBlanks_30 rfl fl_Tx_28 rfl ⟨by decide, by decide⟩ (fun v9 => ?_)
      refine sm_bald (pc' := 34) d_Tx_skipBlanks_33 rfl (fun v10 => ?_)
      refine sm_bipush (pc' := 36) d_Tx_skipBlanks_34 rfl ib_32 ?_
      refine sm_icmp_eq (tgt := 40) (pc' := 39) d_Tx_skipBlanks_36 rfl rfl ?_ ?_
      · refine sm_aload_n (i := 0) (j := 0) (pc' := 41) d_Tx_skipBlanks_40 rfl rfl rfl (sm_dup (pc' := 42) d_Tx_skipBlanks_41 rfl rfl ?_)
        refine sm_getI (pc' := 45) d_Tx_skipBlanks_42 rfl fl_Tx_28 rfl ⟨by decide, by decide⟩ (fun v11 => ?_)
        refine sm_iconst (pc' := 46) d_Tx_skipBlanks_45 rfl ic_1 (sm_iadd (pc' := 47) d_Tx_skipBlanks_46 rfl (sm_putI (pc' := 50) d_Tx_skipBlanks_47 rfl fl_Tx_28 (Or.inl rfl) rfl (sm_goto (tgt := 0) d_Tx_skipBlanks_50 rfl (sm_sub [0] rfl ?_))))
        exact sm_rt rfl
      · exact sm_return d_Tx_skipBlanks_39 rfl rfl
theorem d_Tx_advance_0 : m_D k_Tx_advance 0 (.aload_n 0) 1 := (by decide +kernel : decode prog_10_method_4_code 0 = .ok (.aload_n 0, 1))
theorem d_Tx_advance_1 : m_D k_Tx_advance 1 (.invokevirtual 34) 3 := (by decide +kernel : decode prog_10_method_4_code 1 = .ok (.invokevirtual 34, 3))
theorem d_Tx_advance_4 : m_D k_Tx_advance 4 (.aload_n 0) 1 := (by decide +kernel : decode prog_10_method_4_code 4 = .ok (.aload_n 0, 1))
theorem d_Tx_advance_5 : m_D k_Tx_advance 5 (.aload_n 0) 1 := (by decide +kernel : decode prog_10_method_4_code 5 = .ok (.aload_n 0, 1))
theorem d_Tx_advance_6 : m_D k_Tx_advance 6 (.getfield 28) 3 := (by decide +kernel : decode prog_10_method_4_code 6 = .ok (.getfield 28, 3))
theorem d_Tx_advance_9 : m_D k_Tx_advance 9 (.putfield 37) 3 := (by decide +kernel : decode prog_10_method_4_code 9 = .ok (.putfield 37, 3))
theorem d_Tx_advance_12 : m_D k_Tx_advance 12 (.aload_n 0) 1 := (by decide +kernel : decode prog_10_method_4_code 12 = .ok (.aload_n 0, 1))
theorem d_Tx_advance_13 : m_D k_Tx_advance 13 (.iconst 0) 1 := (by decide +kernel : decode prog_10_method_4_code 13 = .ok (.iconst 0, 1))
theorem d_Tx_advance_14 : m_D k_Tx_advance 14 (.putfield 40) 3 := (by decide +kernel : decode prog_10_method_4_code 14 = .ok (.putfield 40, 3))
theorem d_Tx_advance_17 : m_D k_Tx_advance 17 (.aload_n 0) 1 := (by decide +kernel : decode prog_10_method_4_code 17 = .ok (.aload_n 0, 1))
theorem d_Tx_advance_18 : m_D k_Tx_advance 18 (.lconst 0) 1 := (by decide +kernel : decode prog_10_method_4_code 18 = .ok (.lconst 0, 1))
theorem d_Tx_advance_19 : m_D k_Tx_advance 19 (.putfield 43) 3 := (by decide +kernel : decode prog_10_method_4_code 19 = .ok (.putfield 43, 3))
theorem d_Tx_advance_22 : m_D k_Tx_advance 22 (.aload_n 0) 1 := (by decide +kernel : decode prog_10_method_4_code 22 = .ok (.aload_n 0, 1))
theorem d_Tx_advance_23 : m_D k_Tx_advance 23 (.iconst 0) 1 := (by decide +kernel : decode prog_10_method_4_code 23 = .ok (.iconst 0, 1))
theorem d_Tx_advance_24 : m_D k_Tx_advance 24 (.putfield 47) 3 := (by decide +kernel : decode prog_10_method_4_code 24 = .ok (.putfield 47, 3))
theorem d_Tx_advance_27 : m_D k_Tx_advance 27 (.aload_n 0) 1 := (by decide +kernel : decode prog_10_method_4_code 27 = .ok (.aload_n 0, 1))
theorem d_Tx_advance_28 : m_D k_Tx_advance 28 (.getfield 37) 3 := (by decide +kernel : decode prog_10_method_4_code 28 = .ok (.getfield 37, 3))
theorem d_Tx_advance_31 : m_D k_Tx_advance 31 (.aload_n 0) 1 := (by decide +kernel : decode prog_10_method_4_code 31 = .ok (.aload_n 0, 1))
theorem d_Tx_advance_32 : m_D k_Tx_advance 32 (.getfield 25) 3 := (by decide +kernel : decode prog_10_method_4_code 32 = .ok (.getfield 25, 3))
theorem d_Tx_advance_35 : m_D k_Tx_advance 35 (.if_icmp .lt 11) 3 := (by decide +kernel : decode prog_10_method_4_code 35 = .ok (.if_icmp .lt 11, 3))
theorem d_Tx_advance_38 : m_D k_Tx_advance 38 (.aload_n 0) 1 := (by decide +kernel : decode prog_10_method_4_code 38 = .ok (.aload_n 0, 1))
theorem d_Tx_advance_39 : m_D k_Tx_advance 39 (.iconst 0) 1 := (by decide +kernel : decode prog_10_method_4_code 39 = .ok (.iconst 0, 1))
theorem d_Tx_advance_40 : m_D k_Tx_advance 40 (.putfield 50) 3 := (by decide +kernel : decode prog_10_method_4_code 40 = .ok (.putfield 50, 3))
theorem d_Tx_advance_43 : m_D k_Tx_advance 43 (.goto 115) 3 := (by decide +kernel : decode prog_10_method_4_code 43 = .ok (.goto 115, 3))
theorem d_Tx_advance_46 : m_D k_Tx_advance 46 (.aload_n 0) 1 := (by decide +kernel : decode prog_10_method_4_code 46 = .ok (.aload_n 0, 1))
theorem d_Tx_advance_47 : m_D k_Tx_advance 47 (.getfield 9) 3 := (by decide +kernel : decode prog_10_method_4_code 47 = .ok (.getfield 9, 3))
theorem d_Tx_advance_50 : m_D k_Tx_advance 50 (.aload_n 0) 1 := (by decide +kernel : decode prog_10_method_4_code 50 = .ok (.aload_n 0, 1))
theorem d_Tx_advance_51 : m_D k_Tx_advance 51 (.getfield 37) 3 := (by decide +kernel : decode prog_10_method_4_code 51 = .ok (.getfield 37, 3))
theorem d_Tx_advance_54 : m_D k_Tx_advance 54 (.baload) 1 := (by decide +kernel : decode prog_10_method_4_code 54 = .ok (.baload, 1))
theorem d_Tx_advance_55 : m_D k_Tx_advance 55 (.invokestatic 53) 3 := (by decide +kernel : decode prog_10_method_4_code 55 = .ok (.invokestatic 53, 3))
theorem d_Tx_advance_58 : m_D k_Tx_advance 58 (.ifCond .eq 10) 3 := (by decide +kernel : decode prog_10_method_4_code 58 = .ok (.ifCond .eq 10, 3))
theorem d_Tx_advance_61 : m_D k_Tx_advance 61 (.aload_n 0) 1 := (by decide +kernel : decode prog_10_method_4_code 61 = .ok (.aload_n 0, 1))
theorem d_Tx_advance_62 : m_D k_Tx_advance 62 (.invokevirtual 57) 3 := (by decide +kernel : decode prog_10_method_4_code 62 = .ok (.invokevirtual 57, 3))
theorem d_Tx_advance_65 : m_D k_Tx_advance 65 (.goto 93) 3 := (by decide +kernel : decode prog_10_method_4_code 65 = .ok (.goto 93, 3))
theorem d_Tx_advance_68 : m_D k_Tx_advance 68 (.aload_n 0) 1 := (by decide +kernel : decode prog_10_method_4_code 68 = .ok (.aload_n 0, 1))
theorem d_Tx_advance_69 : m_D k_Tx_advance 69 (.getfield 9) 3 := (by decide +kernel : decode prog_10_method_4_code 69 = .ok (.getfield 9, 3))
theorem d_Tx_advance_72 : m_D k_Tx_advance 72 (.aload_n 0) 1 := (by decide +kernel : decode prog_10_method_4_code 72 = .ok (.aload_n 0, 1))
theorem d_Tx_advance_73 : m_D k_Tx_advance 73 (.getfield 37) 3 := (by decide +kernel : decode prog_10_method_4_code 73 = .ok (.getfield 37, 3))
theorem d_Tx_advance_76 : m_D k_Tx_advance 76 (.baload) 1 := (by decide +kernel : decode prog_10_method_4_code 76 = .ok (.baload, 1))
theorem d_Tx_advance_77 : m_D k_Tx_advance 77 (.invokestatic 60) 3 := (by decide +kernel : decode prog_10_method_4_code 77 = .ok (.invokestatic 60, 3))
theorem d_Tx_advance_80 : m_D k_Tx_advance 80 (.ifCond .eq 10) 3 := (by decide +kernel : decode prog_10_method_4_code 80 = .ok (.ifCond .eq 10, 3))
theorem d_Tx_advance_83 : m_D k_Tx_advance 83 (.aload_n 0) 1 := (by decide +kernel : decode prog_10_method_4_code 83 = .ok (.aload_n 0, 1))
theorem d_Tx_advance_84 : m_D k_Tx_advance 84 (.invokevirtual 63) 3 := (by decide +kernel : decode prog_10_method_4_code 84 = .ok (.invokevirtual 63, 3))
theorem d_Tx_advance_87 : m_D k_Tx_advance 87 (.goto 71) 3 := (by decide +kernel : decode prog_10_method_4_code 87 = .ok (.goto 71, 3))
theorem d_Tx_advance_90 : m_D k_Tx_advance 90 (.aload_n 0) 1 := (by decide +kernel : decode prog_10_method_4_code 90 = .ok (.aload_n 0, 1))
theorem d_Tx_advance_91 : m_D k_Tx_advance 91 (.aload_n 0) 1 := (by decide +kernel : decode prog_10_method_4_code 91 = .ok (.aload_n 0, 1))
theorem d_Tx_advance_92 : m_D k_Tx_advance 92 (.getfield 9) 3 := (by decide +kernel : decode prog_10_method_4_code 92 = .ok (.getfield 9, 3))
theorem d_Tx_advance_95 : m_D k_Tx_advance 95 (.aload_n 0) 1 := (by decide +kernel : decode prog_10_method_4_code 95 = .ok (.aload_n 0, 1))
theorem d_Tx_advance_96 : m_D k_Tx_advance 96 (.getfield 37) 3 := (by decide +kernel : decode prog_10_method_4_code 96 = .ok (.getfield 37, 3))
theorem d_Tx_advance_99 : m_D k_Tx_advance 99 (.baload) 1 := (by decide +kernel : decode prog_10_method_4_code 99 = .ok (.baload, 1))
theorem d_Tx_advance_100 : m_D k_Tx_advance 100 (.putfield 47) 3 := (by decide +kernel : decode prog_10_method_4_code 100 = .ok (.putfield 47, 3))
theorem d_Tx_advance_103 : m_D k_Tx_advance 103 (.aload_n 0) 1 := (by decide +kernel : decode prog_10_method_4_code 103 = .ok (.aload_n 0, 1))
theorem d_Tx_advance_104 : m_D k_Tx_advance 104 (.aload_n 0) 1 := (by decide +kernel : decode prog_10_method_4_code 104 = .ok (.aload_n 0, 1))
theorem d_Tx_advance_105 : m_D k_Tx_advance 105 (.getfield 47) 3 := (by decide +kernel : decode prog_10_method_4_code 105 = .ok (.getfield 47, 3))
theorem d_Tx_advance_108 : m_D k_Tx_advance 108 (.bipush 59) 2 := (by decide +kernel : decode prog_10_method_4_code 108 = .ok (.bipush 59, 2))
theorem d_Tx_advance_110 : m_D k_Tx_advance 110 (.if_icmp .eq 30) 3 := (by decide +kernel : decode prog_10_method_4_code 110 = .ok (.if_icmp .eq 30, 3))
theorem d_Tx_advance_113 : m_D k_Tx_advance 113 (.aload_n 0) 1 := (by decide +kernel : decode prog_10_method_4_code 113 = .ok (.aload_n 0, 1))
theorem d_Tx_advance_114 : m_D k_Tx_advance 114 (.getfield 47) 3 := (by decide +kernel : decode prog_10_method_4_code 114 = .ok (.getfield 47, 3))
theorem d_Tx_advance_117 : m_D k_Tx_advance 117 (.bipush 60) 2 := (by decide +kernel : decode prog_10_method_4_code 117 = .ok (.bipush 60, 2))
theorem d_Tx_advance_119 : m_D k_Tx_advance 119 (.if_icmp .eq 21) 3 := (by decide +kernel : decode prog_10_method_4_code 119 = .ok (.if_icmp .eq 21, 3))
theorem d_Tx_advance_122 : m_D k_Tx_advance 122 (.aload_n 0) 1 := (by decide +kernel : decode prog_10_method_4_code 122 = .ok (.aload_n 0, 1))
theorem d_Tx_advance_123 : m_D k_Tx_advance 123 (.getfield 47) 3 := (by decide +kernel : decode prog_10_method_4_code 123 = .ok (.getfield 47, 3))
theorem d_Tx_advance_126 : m_D k_Tx_advance 126 (.bipush 62) 2 := (by decide +kernel : decode prog_10_method_4_code 126 = .ok (.bipush 62, 2))
theorem d_Tx_advance_128 : m_D k_Tx_advance 128 (.if_icmp .eq 12) 3 := (by decide +kernel : decode prog_10_method_4_code 128 = .ok (.if_icmp .eq 12, 3))
theorem d_Tx_advance_131 : m_D k_Tx_advance 131 (.aload_n 0) 1 := (by decide +kernel : decode prog_10_method_4_code 131 = .ok (.aload_n 0, 1))
theorem d_Tx_advance_132 : m_D k_Tx_advance 132 (.getfield 47) 3 := (by decide +kernel : decode prog_10_method_4_code 132 = .ok (.getfield 47, 3))
theorem d_Tx_advance_135 : m_D k_Tx_advance 135 (.bipush 61) 2 := (by decide +kernel : decode prog_10_method_4_code 135 = .ok (.bipush 61, 2))
theorem d_Tx_advance_137 : m_D k_Tx_advance 137 (.if_icmp .ne 7) 3 := (by decide +kernel : decode prog_10_method_4_code 137 = .ok (.if_icmp .ne 7, 3))
theorem d_Tx_advance_140 : m_D k_Tx_advance 140 (.iconst 3) 1 := (by decide +kernel : decode prog_10_method_4_code 140 = .ok (.iconst 3, 1))
theorem d_Tx_advance_141 : m_D k_Tx_advance 141 (.goto 4) 3 := (by decide +kernel : decode prog_10_method_4_code 141 = .ok (.goto 4, 3))
theorem d_Tx_advance_144 : m_D k_Tx_advance 144 (.iconst 4) 1 := (by decide +kernel : decode prog_10_method_4_code 144 = .ok (.iconst 4, 1))
theorem d_Tx_advance_145 : m_D k_Tx_advance 145 (.putfield 50) 3 := (by decide +kernel : decode prog_10_method_4_code 145 = .ok (.putfield 50, 3))
theorem d_Tx_advance_148 : m_D k_Tx_advance 148 (.aload_n 0) 1 := (by decide +kernel : decode prog_10_method_4_code 148 = .ok (.aload_n 0, 1))
theorem d_Tx_advance_149 : m_D k_Tx_advance 149 (.aload_n 0) 1 := (by decide +kernel : decode prog_10_method_4_code 149 = .ok (.aload_n 0, 1))
theorem d_Tx_advance_150 : m_D k_Tx_advance 150 (.getfield 37) 3 := (by decide +kernel : decode prog_10_method_4_code 150 = .ok (.getfield 37, 3))
theorem d_Tx_advance_153 : m_D k_Tx_advance 153 (.iconst 1) 1 := (by decide +kernel : decode prog_10_method_4_code 153 = .ok (.iconst 1, 1))
theorem d_Tx_advance_154 : m_D k_Tx_advance 154 (.iadd) 1 := (by decide +kernel : decode prog_10_method_4_code 154 = .ok (.iadd, 1))
theorem d_Tx_advance_155 : m_D k_Tx_advance 155 (.putfield 28) 3 := (by decide +kernel : decode prog_10_method_4_code 155 = .ok (.putfield 28, 3))
theorem d_Tx_advance_158 : m_D k_Tx_advance 158 (.return_) 1 := (by decide +kernel : decode prog_10_method_4_code 158 = .ok (.return_, 1))
def fn_Tx_advance (x0 : Option mA) : mP Unit :=
  m_th 2 x0 <|
  m_bd (fn_Tx_skipBlanks x0) fun _ =>
  m_bd (m_gI 2 3 x0) fun v1 =>
  m_bd (m_pI 2 5 x0 v1) fun _ =>
  m_bd (m_pI 2 6 x0 0) fun _ =>
  m_bd (m_pJ 2 7 x0 0) fun _ =>
  m_bd (m_pI 2 8 x0 0) fun _ =>
  m_bd (m_gI 2 5 x0) fun v2 =>
  m_bd (m_gI 2 2 x0) fun v3 =>
  if v2 < v3 then
    m_bd (m_gR 2 0 x0) fun v4 =>
    m_bd (m_gI 2 5 x0) fun v5 =>
    m_bd (m_aI 2 v4 v5) fun v6 =>
    m_bd (fn_Tx_isLetter v6) fun v7 =>
    if v7 = 0 then
      m_bd (m_gR 2 0 x0) fun v8 =>
      m_bd (m_gI 2 5 x0) fun v9 =>
      m_bd (m_aI 2 v8 v9) fun v10 =>
      m_bd (fn_Tx_isDigit v10) fun v11 =>
      if v11 = 0 then
        m_bd (m_gR 2 0 x0) fun v12 =>
        m_bd (m_gI 2 5 x0) fun v13 =>
        m_bd (m_aI 2 v12 v13) fun v14 =>
        m_bd (m_pI 2 8 x0 v14) fun _ =>
        m_bd (m_gI 2 8 x0) fun v15 =>
        m_bd (α := Int32) (
          if v15 = 59 then
            m_rt 3
          else
            m_bd (m_gI 2 8 x0) fun v16 =>
            if v16 = 60 then
              m_rt 3
            else
              m_bd (m_gI 2 8 x0) fun v17 =>
              if v17 = 62 then
                m_rt 3
              else
                m_bd (m_gI 2 8 x0) fun v18 =>
                if v18 = 61 then
                  m_rt 3
                else
                  m_rt 4
          ) fun (t19 : Int32) =>
        m_bd (m_pI 2 4 x0 t19) fun _ =>
        m_bd (m_gI 2 5 x0) fun v20 =>
        m_bd (m_pI 2 3 x0 (v20 + 1)) fun _ =>
        m_rt ()
      else
        m_bd (fn_Tx_scanNumber x0) fun _ =>
        m_rt ()
    else
      m_bd (fn_Tx_scanWord x0) fun _ =>
      m_rt ()
  else
    m_bd (m_pI 2 4 x0 0) fun _ =>
    m_rt ()
set_option maxHeartbeats 4000000 in
set_option maxRecDepth 100000 in
theorem sd_Tx_advance (x0 : Option mA) : m_Sm k_Tx_advance 3 0 0 [.inr (.inr x0)] (fn_Tx_advance x0) (fun _ => none) := by
  refine ⟨Nat.le_of_ble_eq_true rfl, ?_⟩
  refine sm_th ?_
  refine sm_aload_n (i := 0) (j := 0) (pc' := 1) d_Tx_advance_0 rfl rfl rfl ?_
  refine sm_callVv (ci := 2) (x := x0) (av := []) (st := []) (mc := 0) (ms := 0) (pc' := 4) d_Tx_advance_1 rfl (sd_Tx_skipBlanks x0) m_lv rfl cv_Tx_skipBlanks w_ml_Tx_34 rfl rfl (by decide) (Nat.le_of_ble_eq_true rfl) rfl rfl ?_
  refine sm_aload_n (i := 0) (j := 0) (pc' := 5) d_Tx_advance_4 rfl rfl rfl (sm_aload_n (i := 0) (j := 0) (pc' := 6) d_Tx_advance_5 rfl rfl rfl ?_)
  refine sm_getI (pc' := 9) d_Tx_advance_6 rfl fl_Tx_28 rfl ⟨by decide, by decide⟩ (fun v1 => ?_)
  refine sm_putI (pc' := 12) d_Tx_advance_9 rfl fl_Tx_37 (Or.inl rfl) rfl (sm_aload_n (i := 0) (j := 0) (pc' := 13) d_Tx_advance_12 rfl rfl rfl (sm_iconst (pc' := 14) d_Tx_advance_13 rfl ic_0 (sm_putI (pc' := 17) d_Tx_advance_14 rfl fl_Tx_40 (Or.inl rfl) rfl (sm_aload_n (i := 0) (j := 0) (pc' := 18) d_Tx_advance_17 rfl rfl rfl (sm_lconst (pc' := 19) (v := 0) d_Tx_advance_18 rfl rfl (sm_putJ (pc' := 22) d_Tx_advance_19 rfl fl_Tx_43 (Or.inl rfl) rfl (sm_aload_n (i := 0) (j := 0) (pc' := 23) d_Tx_advance_22 rfl rfl rfl (sm_iconst (pc' := 24) d_Tx_advance_23 rfl ic_0 (sm_putI (pc' := 27) d_Tx_advance_24 rfl fl_Tx_47 (Or.inl rfl) rfl ?_)))))))))
  refine sm_aload_n (i := 0) (j := 0) (pc' := 28) d_Tx_advance_27 rfl rfl rfl ?_
  refine sm_getI (pc' := 31) d_Tx_advance_28 rfl fl_Tx_37 rfl ⟨by decide, by decide⟩ (fun v2 => ?_)
  refine sm_aload_n (i := 0) (j := 0) (pc' := 32) d_Tx_advance_31 rfl rfl rfl ?_
  refine sm_getI (pc' := 35) d_Tx_advance_32 rfl fl_Tx_25 rfl ⟨by decide, by decide⟩ (fun v3 => ?_)
  refine sm_icmp_lt (tgt := 46) (pc' := 38) d_Tx_advance_35 rfl rfl ?_ ?_
  · refine sm_aload_n (i := 0) (j := 0) (pc' := 47) d_Tx_advance_46 rfl rfl rfl ?_
    refine sm_getR (pc' := 50) d_Tx_advance_47 rfl fl_Tx_9 rfl rfl (fun v4 => ?_)
    refine sm_aload_n (i := 0) (j := 0) (pc' := 51) d_Tx_advance_50 rfl rfl rfl ?_
    refine sm_getI (pc' := 54) d_Tx_advance_51 rfl fl_Tx_37 rfl ⟨by decide, by decide⟩ (fun v5 => ?_)
    refine sm_bald (pc' := 55) d_Tx_advance_54 rfl (fun v6 => ?_)
    refine sm_callSi (av := [.inl v6]) (st := []) (mc := 0) (ms := 0) (pc' := 58) d_Tx_advance_55 rfl (sd_Tx_isLetter v6) cs_Tx_isLetter w_ml_Tx_53 rfl rfl (by decide) (Nat.le_of_ble_eq_true rfl) rfl rfl (fun v7 => ?_)
    refine sm_if_eq (tgt := 68) (pc' := 61) d_Tx_advance_58 rfl rfl ?_ ?_
    · refine sm_aload_n (i := 0) (j := 0) (pc' := 69) d_Tx_advance_68 rfl rfl rfl ?_
      refine sm_getR (pc' := 72) d_Tx_advance_69 rfl fl_Tx_9 rfl rfl (fun v8 => ?_)
      refine sm_aload_n (i := 0) (j := 0) (pc' := 73) d_Tx_advance_72 rfl rfl rfl ?_
      refine sm_getI (pc' := 76) d_Tx_advance_73 rfl fl_Tx_37 rfl ⟨by decide, by decide⟩ (fun v9 => ?_)
      refine sm_bald (pc' := 77) d_Tx_advance_76 rfl (fun v10 => ?_)
      refine sm_callSi (av := [.inl v10]) (st := []) (mc := 0) (ms := 0) (pc' := 80) d_Tx_advance_77 rfl (sd_Tx_isDigit v10) cs_Tx_isDigit w_ml_Tx_60 rfl rfl (by decide) (Nat.le_of_ble_eq_true rfl) rfl rfl (fun v11 => ?_)
      refine sm_if_eq (tgt := 90) (pc' := 83) d_Tx_advance_80 rfl rfl ?_ ?_
      · refine sm_aload_n (i := 0) (j := 0) (pc' := 91) d_Tx_advance_90 rfl rfl rfl (sm_aload_n (i := 0) (j := 0) (pc' := 92) d_Tx_advance_91 rfl rfl rfl ?_)
        refine sm_getR (pc' := 95) d_Tx_advance_92 rfl fl_Tx_9 rfl rfl (fun v12 => ?_)
        refine sm_aload_n (i := 0) (j := 0) (pc' := 96) d_Tx_advance_95 rfl rfl rfl ?_
        refine sm_getI (pc' := 99) d_Tx_advance_96 rfl fl_Tx_37 rfl ⟨by decide, by decide⟩ (fun v13 => ?_)
        refine sm_bald (pc' := 100) d_Tx_advance_99 rfl (fun v14 => ?_)
        refine sm_putI (pc' := 103) d_Tx_advance_100 rfl fl_Tx_47 (Or.inl rfl) rfl (sm_aload_n (i := 0) (j := 0) (pc' := 104) d_Tx_advance_103 rfl rfl rfl (sm_aload_n (i := 0) (j := 0) (pc' := 105) d_Tx_advance_104 rfl rfl rfl ?_))
        refine sm_getI (pc' := 108) d_Tx_advance_105 rfl fl_Tx_47 rfl ⟨by decide, by decide⟩ (fun v15 => ?_)
        refine sm_bipush (pc' := 110) d_Tx_advance_108 rfl ib_59 ?_
        refine sm_bd (mid := fun (t19 : Int32) => .inl (145, [(0, .inr (.inr x0))], [.inl t19, .inr (.inr x0)])) ?_ (fun t19 => ?_)
        · refine sm_icmp_eq (tgt := 140) (pc' := 113) d_Tx_advance_110 rfl rfl ?_ ?_
          · refine sm_iconst (pc' := 141) d_Tx_advance_140 rfl ic_3 (sm_goto (tgt := 145) d_Tx_advance_141 rfl (sm_sub [0] rfl ?_))
            exact sm_rt rfl
          · refine sm_aload_n (i := 0) (j := 0) (pc' := 114) d_Tx_advance_113 rfl rfl rfl ?_
            refine sm_getI (pc' := 117) d_Tx_advance_114 rfl fl_Tx_47 rfl ⟨by decide, by decide⟩ (fun v16 => ?_)
            refine sm_bipush (pc' := 119) d_Tx_advance_117 rfl ib_60 ?_
            refine sm_icmp_eq (tgt := 140) (pc' := 122) d_Tx_advance_119 rfl rfl ?_ ?_
            · refine sm_iconst (pc' := 141) d_Tx_advance_140 rfl ic_3 (sm_goto (tgt := 145) d_Tx_advance_141 rfl (sm_sub [0] rfl ?_))
              exact sm_rt rfl
            · refine sm_aload_n (i := 0) (j := 0) (pc' := 123) d_Tx_advance_122 rfl rfl rfl ?_
              refine sm_getI (pc' := 126) d_Tx_advance_123 rfl fl_Tx_47 rfl ⟨by decide, by decide⟩ (fun v17 => ?_)
              refine sm_bipush (pc' := 128) d_Tx_advance_126 rfl ib_62 ?_
              refine sm_icmp_eq (tgt := 140) (pc' := 131) d_Tx_advance_128 rfl rfl ?_ ?_
              · refine sm_iconst (pc' := 141) d_Tx_advance_140 rfl ic_3 (sm_goto (tgt := 145) d_Tx_advance_141 rfl (sm_sub [0] rfl ?_))
                exact sm_rt rfl
              · refine sm_aload_n (i := 0) (j := 0) (pc' := 132) d_Tx_advance_131 rfl rfl rfl ?_
                refine sm_getI (pc' := 135) d_Tx_advance_132 rfl fl_Tx_47 rfl ⟨by decide, by decide⟩ (fun v18 => ?_)
                refine sm_bipush (pc' := 137) d_Tx_advance_135 rfl ib_61 ?_
                refine sm_icmp_ne (tgt := 144) (pc' := 140) d_Tx_advance_137 rfl rfl ?_ ?_
                · refine sm_iconst (pc' := 145) d_Tx_advance_144 rfl ic_4 (sm_sub [0] rfl ?_)
                  exact sm_rt rfl
                · refine sm_iconst (pc' := 141) d_Tx_advance_140 rfl ic_3 (sm_goto (tgt := 145) d_Tx_advance_141 rfl (sm_sub [0] rfl ?_))
                  exact sm_rt rfl
        · refine sm_putI (pc' := 148) d_Tx_advance_145 rfl fl_Tx_50 (Or.inl rfl) rfl (sm_aload_n (i := 0) (j := 0) (pc' := 149) d_Tx_advance_148 rfl rfl rfl (sm_aload_n (i := 0) (j := 0) (pc' := 150) d_Tx_advance_149 rfl rfl rfl ?_))
          refine sm_getI (pc' := 153) d_Tx_advance_150 rfl fl_Tx_37 rfl ⟨by decide, by decide⟩ (fun v20 => ?_)
          refine sm_iconst (pc' := 154) d_Tx_advance_153 rfl ic_1 (sm_iadd (pc' := 155) d_Tx_advance_154 rfl (sm_putI (pc' := 158) d_Tx_advance_155 rfl fl_Tx_28 (Or.inl rfl) rfl ?_))
          exact sm_return d_Tx_advance_158 rfl rfl
      · refine sm_aload_n (i := 0) (j := 0) (pc' := 84) d_Tx_advance_83 rfl rfl rfl ?_
        refine sm_callVv (ci := 2) (x := x0) (av := []) (st := []) (mc := 0) (ms := 0) (pc' := 87) d_Tx_advance_84 rfl (sd_Tx_scanNumber x0) m_lv rfl cv_Tx_scanNumber w_ml_Tx_63 rfl rfl (by decide) (Nat.le_of_ble_eq_true rfl) rfl rfl ?_
        refine sm_goto (tgt := 158) d_Tx_advance_87 rfl ?_
        exact sm_return d_Tx_advance_158 rfl rfl
    · refine sm_aload_n (i := 0) (j := 0) (pc' := 62) d_Tx_advance_61 rfl rfl rfl ?_
      refine sm_callVv (ci := 2) (x := x0) (av := []) (st := []) (mc := 0) (ms := 0) (pc' := 65) d_Tx_advance_62 rfl (sd_Tx_scanWord x0) m_lv rfl cv_Tx_scanWord w_ml_Tx_57 rfl rfl (by decide) (Nat.le_of_ble_eq_true rfl) rfl rfl ?_
      refine sm_goto (tgt := 158) d_Tx_advance_65 rfl ?_
      exact sm_return d_Tx_advance_158 rfl rfl
  · refine sm_aload_n (i := 0) (j := 0) (pc' := 39) d_Tx_advance_38 rfl rfl rfl (sm_iconst (pc' := 40) d_Tx_advance_39 rfl ic_0 (sm_putI (pc' := 43) d_Tx_advance_40 rfl fl_Tx_50 (Or.inl rfl) rfl (sm_goto (tgt := 158) d_Tx_advance_43 rfl ?_)))
    exact sm_return d_Tx_advance_158 rfl rfl
theorem d_Tx_refuse_0 : m_D k_Tx_refuse 0 (.aload_n 0) 1 := (by decide +kernel : decode prog_10_method_10_code 0 = .ok (.aload_n 0, 1))
theorem d_Tx_refuse_1 : m_D k_Tx_refuse 1 (.aload_n 0) 1 := (by decide +kernel : decode prog_10_method_10_code 1 = .ok (.aload_n 0, 1))
theorem d_Tx_refuse_2 : m_D k_Tx_refuse 2 (.getfield 50) 3 := (by decide +kernel : decode prog_10_method_10_code 2 = .ok (.getfield 50, 3))
theorem d_Tx_refuse_5 : m_D k_Tx_refuse 5 (.iconst 4) 1 := (by decide +kernel : decode prog_10_method_10_code 5 = .ok (.iconst 4, 1))
theorem d_Tx_refuse_6 : m_D k_Tx_refuse 6 (.if_icmp .ne 7) 3 := (by decide +kernel : decode prog_10_method_10_code 6 = .ok (.if_icmp .ne 7, 3))
theorem d_Tx_refuse_9 : m_D k_Tx_refuse 9 (.iconst 1) 1 := (by decide +kernel : decode prog_10_method_10_code 9 = .ok (.iconst 1, 1))
theorem d_Tx_refuse_10 : m_D k_Tx_refuse 10 (.goto 4) 3 := (by decide +kernel : decode prog_10_method_10_code 10 = .ok (.goto 4, 3))
theorem d_Tx_refuse_13 : m_D k_Tx_refuse 13 (.iload_n 1) 1 := (by decide +kernel : decode prog_10_method_10_code 13 = .ok (.iload_n 1, 1))
theorem d_Tx_refuse_14 : m_D k_Tx_refuse 14 (.putfield 15) 3 := (by decide +kernel : decode prog_10_method_10_code 14 = .ok (.putfield 15, 3))
theorem d_Tx_refuse_17 : m_D k_Tx_refuse 17 (.aload_n 0) 1 := (by decide +kernel : decode prog_10_method_10_code 17 = .ok (.aload_n 0, 1))
theorem d_Tx_refuse_18 : m_D k_Tx_refuse 18 (.aload_n 0) 1 := (by decide +kernel : decode prog_10_method_10_code 18 = .ok (.aload_n 0, 1))
theorem d_Tx_refuse_19 : m_D k_Tx_refuse 19 (.getfield 37) 3 := (by decide +kernel : decode prog_10_method_10_code 19 = .ok (.getfield 37, 3))
theorem d_Tx_refuse_22 : m_D k_Tx_refuse 22 (.putfield 19) 3 := (by decide +kernel : decode prog_10_method_10_code 22 = .ok (.putfield 19, 3))
theorem d_Tx_refuse_25 : m_D k_Tx_refuse 25 (.iconst 0) 1 := (by decide +kernel : decode prog_10_method_10_code 25 = .ok (.iconst 0, 1))
theorem d_Tx_refuse_26 : m_D k_Tx_refuse 26 (.ireturn) 1 := (by decide +kernel : decode prog_10_method_10_code 26 = .ok (.ireturn, 1))
def fn_Tx_refuse (x0 : Option mA) (x1 : Int32) : mP Int32 :=
  m_th 2 x0 <|
  m_bd (m_gI 2 4 x0) fun v1 =>
  m_bd (α := Int32) (
    if v1 = 4 then
      m_rt 1
    else
      m_rt x1
    ) fun (t2 : Int32) =>
  m_bd (m_pI 2 10 x0 t2) fun _ =>
  m_bd (m_gI 2 5 x0) fun v3 =>
  m_bd (m_pI 2 11 x0 v3) fun _ =>
  m_rt 0
set_option maxHeartbeats 4000000 in
set_option maxRecDepth 100000 in
theorem sd_Tx_refuse (x0 : Option mA) (x1 : Int32) : m_Sm k_Tx_refuse 1 0 0 [.inr (.inr x0), .inl x1] (fn_Tx_refuse x0 x1) (fun b => some (.inl b)) := by
  refine ⟨Nat.le_of_ble_eq_true rfl, ?_⟩
  refine sm_th ?_
  refine sm_aload_n (i := 0) (j := 0) (pc' := 1) d_Tx_refuse_0 rfl rfl rfl (sm_aload_n (i := 0) (j := 0) (pc' := 2) d_Tx_refuse_1 rfl rfl rfl ?_)
  refine sm_getI (pc' := 5) d_Tx_refuse_2 rfl fl_Tx_50 rfl ⟨by decide, by decide⟩ (fun v1 => ?_)
  refine sm_iconst (pc' := 6) d_Tx_refuse_5 rfl ic_4 ?_
  refine sm_bd (mid := fun (t2 : Int32) => .inl (14, [(0, .inr (.inr x0))], [.inl t2, .inr (.inr x0)])) ?_ (fun t2 => ?_)
  · refine sm_icmp_ne (tgt := 13) (pc' := 9) d_Tx_refuse_6 rfl rfl ?_ ?_
    · refine sm_iload_n (i := 1) (j := 1) (pc' := 14) d_Tx_refuse_13 rfl rfl rfl (sm_sub [0] rfl ?_)
      exact sm_rt rfl
    · refine sm_iconst (pc' := 10) d_Tx_refuse_9 rfl ic_1 (sm_goto (tgt := 14) d_Tx_refuse_10 rfl (sm_sub [0] rfl ?_))
      exact sm_rt rfl
  · refine sm_putI (pc' := 17) d_Tx_refuse_14 rfl fl_Tx_15 (Or.inl rfl) rfl (sm_aload_n (i := 0) (j := 0) (pc' := 18) d_Tx_refuse_17 rfl rfl rfl (sm_aload_n (i := 0) (j := 0) (pc' := 19) d_Tx_refuse_18 rfl rfl rfl ?_))
    refine sm_getI (pc' := 22) d_Tx_refuse_19 rfl fl_Tx_37 rfl ⟨by decide, by decide⟩ (fun v3 => ?_)
    refine sm_putI (pc' := 25) d_Tx_refuse_22 rfl fl_Tx_19 (Or.inl rfl) rfl (sm_iconst (pc' := 26) d_Tx_refuse_25 rfl ic_0 ?_)
    exact sm_zreturn d_Tx_refuse_26 rfl (by decide) rfl
theorem d_Tx_takeEndSign_0 : m_D k_Tx_takeEndSign 0 (.aload_n 0) 1 := (by decide +kernel : decode prog_10_method_14_code 0 = .ok (.aload_n 0, 1))
theorem d_Tx_takeEndSign_1 : m_D k_Tx_takeEndSign 1 (.getfield 50) 3 := (by decide +kernel : decode prog_10_method_14_code 1 = .ok (.getfield 50, 3))
theorem d_Tx_takeEndSign_4 : m_D k_Tx_takeEndSign 4 (.iconst 3) 1 := (by decide +kernel : decode prog_10_method_14_code 4 = .ok (.iconst 3, 1))
theorem d_Tx_takeEndSign_5 : m_D k_Tx_takeEndSign 5 (.if_icmp .ne 12) 3 := (by decide +kernel : decode prog_10_method_14_code 5 = .ok (.if_icmp .ne 12, 3))
theorem d_Tx_takeEndSign_8 : m_D k_Tx_takeEndSign 8 (.aload_n 0) 1 := (by decide +kernel : decode prog_10_method_14_code 8 = .ok (.aload_n 0, 1))
theorem d_Tx_takeEndSign_9 : m_D k_Tx_takeEndSign 9 (.getfield 47) 3 := (by decide +kernel : decode prog_10_method_14_code 9 = .ok (.getfield 47, 3))
theorem d_Tx_takeEndSign_12 : m_D k_Tx_takeEndSign 12 (.bipush 59) 2 := (by decide +kernel : decode prog_10_method_14_code 12 = .ok (.bipush 59, 2))
theorem d_Tx_takeEndSign_14 : m_D k_Tx_takeEndSign 14 (.if_icmp .eq 9) 3 := (by decide +kernel : decode prog_10_method_14_code 14 = .ok (.if_icmp .eq 9, 3))
theorem d_Tx_takeEndSign_17 : m_D k_Tx_takeEndSign 17 (.aload_n 0) 1 := (by decide +kernel : decode prog_10_method_14_code 17 = .ok (.aload_n 0, 1))
theorem d_Tx_takeEndSign_18 : m_D k_Tx_takeEndSign 18 (.iconst 2) 1 := (by decide +kernel : decode prog_10_method_14_code 18 = .ok (.iconst 2, 1))
theorem d_Tx_takeEndSign_19 : m_D k_Tx_takeEndSign 19 (.invokevirtual 123) 3 := (by decide +kernel : decode prog_10_method_14_code 19 = .ok (.invokevirtual 123, 3))
theorem d_Tx_takeEndSign_22 : m_D k_Tx_takeEndSign 22 (.ireturn) 1 := (by decide +kernel : decode prog_10_method_14_code 22 = .ok (.ireturn, 1))
theorem d_Tx_takeEndSign_23 : m_D k_Tx_takeEndSign 23 (.aload_n 0) 1 := (by decide +kernel : decode prog_10_method_14_code 23 = .ok (.aload_n 0, 1))
theorem d_Tx_takeEndSign_24 : m_D k_Tx_takeEndSign 24 (.invokevirtual 31) 3 := (by decide +kernel : decode prog_10_method_14_code 24 = .ok (.invokevirtual 31, 3))
theorem d_Tx_takeEndSign_27 : m_D k_Tx_takeEndSign 27 (.iconst 1) 1 := (by decide +kernel : decode prog_10_method_14_code 27 = .ok (.iconst 1, 1))
theorem d_Tx_takeEndSign_28 : m_D k_Tx_takeEndSign 28 (.ireturn) 1 := (by decide +kernel : decode prog_10_method_14_code 28 = .ok (.ireturn, 1))
def fn_Tx_takeEndSign (x0 : Option mA) : mP Int32 :=
  m_th 2 x0 <|
  m_bd (m_gI 2 4 x0) fun v1 =>
  if v1 = 3 then
    m_bd (m_gI 2 8 x0) fun v3 =>
    if v3 = 59 then
      m_bd (fn_Tx_advance x0) fun _ =>
      m_rt 1
    else
      m_bd (fn_Tx_refuse x0 2) fun v4 =>
      m_bd (m_cz v4) fun _ => m_rt v4
  else
    m_bd (fn_Tx_refuse x0 2) fun v2 =>
    m_bd (m_cz v2) fun _ => m_rt v2
set_option maxHeartbeats 4000000 in
set_option maxRecDepth 100000 in
theorem sd_Tx_takeEndSign (x0 : Option mA) : m_Sm k_Tx_takeEndSign 4 0 0 [.inr (.inr x0)] (fn_Tx_takeEndSign x0) (fun b => some (.inl b)) := by
  refine ⟨Nat.le_of_ble_eq_true rfl, ?_⟩
  refine sm_th ?_
  refine sm_aload_n (i := 0) (j := 0) (pc' := 1) d_Tx_takeEndSign_0 rfl rfl rfl ?_
  refine sm_getI (pc' := 4) d_Tx_takeEndSign_1 rfl fl_Tx_50 rfl ⟨by decide, by decide⟩ (fun v1 => ?_)
  refine sm_iconst (pc' := 5) d_Tx_takeEndSign_4 rfl ic_3 ?_
  refine sm_icmp_ne (tgt := 17) (pc' := 8) d_Tx_takeEndSign_5 rfl rfl ?_ ?_
  · refine sm_aload_n (i := 0) (j := 0) (pc' := 18) d_Tx_takeEndSign_17 rfl rfl rfl (sm_iconst (pc' := 19) d_Tx_takeEndSign_18 rfl ic_2 ?_)
    refine sm_callVi (ci := 2) (x := x0) (av := [.inl 2]) (st := []) (mc := 0) (ms := 0) (pc' := 22) d_Tx_takeEndSign_19 rfl (sd_Tx_refuse x0 2) m_lv rfl cv_Tx_refuse w_ml_Tx_123 rfl rfl (by decide) (Nat.le_of_ble_eq_true rfl) rfl rfl (fun v2 => ?_)
    exact sm_zretC d_Tx_takeEndSign_22 rfl rfl
  · refine sm_aload_n (i := 0) (j := 0) (pc' := 9) d_Tx_takeEndSign_8 rfl rfl rfl ?_
    refine sm_getI (pc' := 12) d_Tx_takeEndSign_9 rfl fl_Tx_47 rfl ⟨by decide, by decide⟩ (fun v3 => ?_)
    refine sm_bipush (pc' := 14) d_Tx_takeEndSign_12 rfl ib_59 ?_
    refine sm_icmp_eq (tgt := 23) (pc' := 17) d_Tx_takeEndSign_14 rfl rfl ?_ ?_
    · refine sm_aload_n (i := 0) (j := 0) (pc' := 24) d_Tx_takeEndSign_23 rfl rfl rfl ?_
      refine sm_callVv (ci := 2) (x := x0) (av := []) (st := []) (mc := 0) (ms := 0) (pc' := 27) d_Tx_takeEndSign_24 rfl (sd_Tx_advance x0) m_lv rfl cv_Tx_advance w_ml_Tx_31 rfl rfl (by decide) (Nat.le_of_ble_eq_true rfl) rfl rfl ?_
      refine sm_iconst (pc' := 28) d_Tx_takeEndSign_27 rfl ic_1 ?_
      exact sm_zreturn d_Tx_takeEndSign_28 rfl (by decide) rfl
    · refine sm_aload_n (i := 0) (j := 0) (pc' := 18) d_Tx_takeEndSign_17 rfl rfl rfl (sm_iconst (pc' := 19) d_Tx_takeEndSign_18 rfl ic_2 ?_)
      refine sm_callVi (ci := 2) (x := x0) (av := [.inl 2]) (st := []) (mc := 0) (ms := 0) (pc' := 22) d_Tx_takeEndSign_19 rfl (sd_Tx_refuse x0 2) m_lv rfl cv_Tx_refuse w_ml_Tx_123 rfl rfl (by decide) (Nat.le_of_ble_eq_true rfl) rfl rfl (fun v4 => ?_)
      exact sm_zretC d_Tx_takeEndSign_22 rfl rfl
theorem d_Tx_is_0 : m_D k_Tx_is 0 (.aload_n 0) 1 := (by decide +kernel : decode prog_10_method_11_code 0 = .ok (.aload_n 0, 1))
theorem d_Tx_is_1 : m_D k_Tx_is 1 (.getfield 50) 3 := (by decide +kernel : decode prog_10_method_11_code 1 = .ok (.getfield 50, 3))
theorem d_Tx_is_4 : m_D k_Tx_is 4 (.iconst 1) 1 := (by decide +kernel : decode prog_10_method_11_code 4 = .ok (.iconst 1, 1))
theorem d_Tx_is_5 : m_D k_Tx_is 5 (.if_icmp .ne 14) 3 := (by decide +kernel : decode prog_10_method_11_code 5 = .ok (.if_icmp .ne 14, 3))
theorem d_Tx_is_8 : m_D k_Tx_is 8 (.aload_n 0) 1 := (by decide +kernel : decode prog_10_method_11_code 8 = .ok (.aload_n 0, 1))
theorem d_Tx_is_9 : m_D k_Tx_is 9 (.getfield 40) 3 := (by decide +kernel : decode prog_10_method_11_code 9 = .ok (.getfield 40, 3))
theorem d_Tx_is_12 : m_D k_Tx_is 12 (.aload_n 1) 1 := (by decide +kernel : decode prog_10_method_11_code 12 = .ok (.aload_n 1, 1))
theorem d_Tx_is_13 : m_D k_Tx_is 13 (.invokevirtual 68) 3 := (by decide +kernel : decode prog_10_method_11_code 13 = .ok (.invokevirtual 68, 3))
theorem d_Tx_is_16 : m_D k_Tx_is 16 (.if_icmp .eq 5) 3 := (by decide +kernel : decode prog_10_method_11_code 16 = .ok (.if_icmp .eq 5, 3))
theorem d_Tx_is_19 : m_D k_Tx_is 19 (.iconst 0) 1 := (by decide +kernel : decode prog_10_method_11_code 19 = .ok (.iconst 0, 1))
theorem d_Tx_is_20 : m_D k_Tx_is 20 (.ireturn) 1 := (by decide +kernel : decode prog_10_method_11_code 20 = .ok (.ireturn, 1))
theorem d_Tx_is_21 : m_D k_Tx_is 21 (.iconst 0) 1 := (by decide +kernel : decode prog_10_method_11_code 21 = .ok (.iconst 0, 1))
theorem d_Tx_is_22 : m_D k_Tx_is 22 (.istore_n 2) 1 := (by decide +kernel : decode prog_10_method_11_code 22 = .ok (.istore_n 2, 1))
theorem d_Tx_is_23 : m_D k_Tx_is 23 (.iload_n 2) 1 := (by decide +kernel : decode prog_10_method_11_code 23 = .ok (.iload_n 2, 1))
theorem d_Tx_is_24 : m_D k_Tx_is 24 (.aload_n 0) 1 := (by decide +kernel : decode prog_10_method_11_code 24 = .ok (.aload_n 0, 1))
theorem d_Tx_is_25 : m_D k_Tx_is 25 (.getfield 40) 3 := (by decide +kernel : decode prog_10_method_11_code 25 = .ok (.getfield 40, 3))
theorem d_Tx_is_28 : m_D k_Tx_is 28 (.if_icmp .ge 30) 3 := (by decide +kernel : decode prog_10_method_11_code 28 = .ok (.if_icmp .ge 30, 3))
theorem d_Tx_is_31 : m_D k_Tx_is 31 (.aload_n 0) 1 := (by decide +kernel : decode prog_10_method_11_code 31 = .ok (.aload_n 0, 1))
theorem d_Tx_is_32 : m_D k_Tx_is 32 (.getfield 9) 3 := (by decide +kernel : decode prog_10_method_11_code 32 = .ok (.getfield 9, 3))
theorem d_Tx_is_35 : m_D k_Tx_is 35 (.aload_n 0) 1 := (by decide +kernel : decode prog_10_method_11_code 35 = .ok (.aload_n 0, 1))
theorem d_Tx_is_36 : m_D k_Tx_is 36 (.getfield 37) 3 := (by decide +kernel : decode prog_10_method_11_code 36 = .ok (.getfield 37, 3))
theorem d_Tx_is_39 : m_D k_Tx_is 39 (.iload_n 2) 1 := (by decide +kernel : decode prog_10_method_11_code 39 = .ok (.iload_n 2, 1))
theorem d_Tx_is_40 : m_D k_Tx_is 40 (.iadd) 1 := (by decide +kernel : decode prog_10_method_11_code 40 = .ok (.iadd, 1))
theorem d_Tx_is_41 : m_D k_Tx_is 41 (.baload) 1 := (by decide +kernel : decode prog_10_method_11_code 41 = .ok (.baload, 1))
theorem d_Tx_is_42 : m_D k_Tx_is 42 (.aload_n 1) 1 := (by decide +kernel : decode prog_10_method_11_code 42 = .ok (.aload_n 1, 1))
theorem d_Tx_is_43 : m_D k_Tx_is 43 (.iload_n 2) 1 := (by decide +kernel : decode prog_10_method_11_code 43 = .ok (.iload_n 2, 1))
theorem d_Tx_is_44 : m_D k_Tx_is 44 (.invokevirtual 73) 3 := (by decide +kernel : decode prog_10_method_11_code 44 = .ok (.invokevirtual 73, 3))
theorem d_Tx_is_47 : m_D k_Tx_is 47 (.if_icmp .eq 5) 3 := (by decide +kernel : decode prog_10_method_11_code 47 = .ok (.if_icmp .eq 5, 3))
theorem d_Tx_is_50 : m_D k_Tx_is 50 (.iconst 0) 1 := (by decide +kernel : decode prog_10_method_11_code 50 = .ok (.iconst 0, 1))
theorem d_Tx_is_51 : m_D k_Tx_is 51 (.ireturn) 1 := (by decide +kernel : decode prog_10_method_11_code 51 = .ok (.ireturn, 1))
theorem d_Tx_is_52 : m_D k_Tx_is 52 (.iinc 2 1) 3 := (by decide +kernel : decode prog_10_method_11_code 52 = .ok (.iinc 2 1, 3))
theorem d_Tx_is_55 : m_D k_Tx_is 55 (.goto (-32)) 3 := (by decide +kernel : decode prog_10_method_11_code 55 = .ok (.goto (-32), 3))
theorem d_Tx_is_58 : m_D k_Tx_is 58 (.iconst 1) 1 := (by decide +kernel : decode prog_10_method_11_code 58 = .ok (.iconst 1, 1))
theorem d_Tx_is_59 : m_D k_Tx_is 59 (.ireturn) 1 := (by decide +kernel : decode prog_10_method_11_code 59 = .ok (.ireturn, 1))
def fn_Tx_is_l23 (x0 : Option mA) (x1 : Option mA) (t4 : Int32) : mP ((Int32) ⊕ (Int32)) :=
  m_bd (m_gI 2 6 x0) fun v5 =>
  if v5 ≤ t4 then
    m_rt (.inr 1)
  else
    m_bd (m_gR 2 0 x0) fun v6 =>
    m_bd (m_gI 2 5 x0) fun v7 =>
    m_bd (m_aI 2 v6 (v7 + t4)) fun v8 =>
    m_bd (m_sch x1 t4) fun v9 =>
    if v8 = v9 then
      m_rt (.inl (t4 + 1))
    else
      m_rt (.inr 0)
def fn_Tx_is (x0 : Option mA) (x1 : Option mA) : mP Int32 :=
  m_th 2 x0 <|
  m_bd (m_gI 2 4 x0) fun v1 =>
  if v1 = 1 then
    m_bd (m_gI 2 6 x0) fun v2 =>
    m_bd (m_sl x1) fun v3 =>
    if v2 = v3 then
      m_lp (fn_Tx_is_l23 x0 x1) m_F 0
    else
      m_rt 0
  else
    m_rt 0
set_option maxHeartbeats 4000000 in
set_option maxRecDepth 100000 in
theorem sd_Tx_is (x0 : Option mA) (x1 : Option mA) : m_Sm k_Tx_is 6 0 0 [.inr (.inr x0), .inr (.inr x1)] (fn_Tx_is x0 x1) (fun b => some (.inl b)) := by
  refine ⟨Nat.le_of_ble_eq_true rfl, ?_⟩
  refine sm_th ?_
  refine sm_aload_n (i := 0) (j := 0) (pc' := 1) d_Tx_is_0 rfl rfl rfl ?_
  refine sm_getI (pc' := 4) d_Tx_is_1 rfl fl_Tx_50 rfl ⟨by decide, by decide⟩ (fun v1 => ?_)
  refine sm_iconst (pc' := 5) d_Tx_is_4 rfl ic_1 ?_
  refine sm_icmp_ne (tgt := 19) (pc' := 8) d_Tx_is_5 rfl rfl ?_ ?_
  · refine sm_iconst (pc' := 20) d_Tx_is_19 rfl ic_0 ?_
    exact sm_zreturn d_Tx_is_20 rfl (by decide) rfl
  · refine sm_aload_n (i := 0) (j := 0) (pc' := 9) d_Tx_is_8 rfl rfl rfl ?_
    refine sm_getI (pc' := 12) d_Tx_is_9 rfl fl_Tx_40 rfl ⟨by decide, by decide⟩ (fun v2 => ?_)
    refine sm_aload_n (i := 1) (j := 1) (pc' := 13) d_Tx_is_12 rfl rfl rfl ?_
    refine sm_strlen (pc' := 16) d_Tx_is_13 rfl w_ml_Tx_68 (by decide) (Nat.le_of_ble_eq_true rfl) (fun v3 => ?_)
    refine sm_icmp_eq (tgt := 21) (pc' := 19) d_Tx_is_16 rfl rfl ?_ ?_
    · refine sm_iconst (pc' := 22) d_Tx_is_21 rfl ic_0 (sm_istore_n (i := 2) (L' := [(2, .inl 0), (0, .inr (.inr x0)), (1, .inr (.inr x1))]) (pc' := 23) d_Tx_is_22 rfl rfl (Nat.le_of_ble_eq_true rfl) rfl ?_)
      refine sm_sub [0, 1, 2] rfl ?_
      refine sm_lp (hd := fun (t4 : Int32) => (.inl (23, [(2, .inl t4), (0, .inr (.inr x0)), (1, .inr (.inr x1))], []) : mC)) (fun t4 => ?_) m_F 0
      refine sm_iload_n (i := 2) (j := 0) (pc' := 24) d_Tx_is_23 rfl rfl rfl (sm_aload_n (i := 0) (j := 1) (pc' := 25) d_Tx_is_24 rfl rfl rfl ?_)
      refine sm_getI (pc' := 28) d_Tx_is_25 rfl fl_Tx_40 rfl ⟨by decide, by decide⟩ (fun v5 => ?_)
      refine sm_icmp_ge (tgt := 58) (pc' := 31) d_Tx_is_28 rfl rfl ?_ ?_
      · refine sm_iconst (pc' := 59) d_Tx_is_58 rfl ic_1 ?_
        exact sm_zreturn d_Tx_is_59 rfl (by decide) rfl
      · refine sm_aload_n (i := 0) (j := 1) (pc' := 32) d_Tx_is_31 rfl rfl rfl ?_
        refine sm_getR (pc' := 35) d_Tx_is_32 rfl fl_Tx_9 rfl rfl (fun v6 => ?_)
        refine sm_aload_n (i := 0) (j := 1) (pc' := 36) d_Tx_is_35 rfl rfl rfl ?_
        refine sm_getI (pc' := 39) d_Tx_is_36 rfl fl_Tx_37 rfl ⟨by decide, by decide⟩ (fun v7 => ?_)
        refine sm_iload_n (i := 2) (j := 0) (pc' := 40) d_Tx_is_39 rfl rfl rfl (sm_iadd (pc' := 41) d_Tx_is_40 rfl ?_)
        refine sm_bald (pc' := 42) d_Tx_is_41 rfl (fun v8 => ?_)
        refine sm_aload_n (i := 1) (j := 2) (pc' := 43) d_Tx_is_42 rfl rfl rfl (sm_iload_n (i := 2) (j := 0) (pc' := 44) d_Tx_is_43 rfl rfl rfl ?_)
        refine sm_strchr (pc' := 47) d_Tx_is_44 rfl w_ml_Tx_73 (by decide) (Nat.le_of_ble_eq_true rfl) (fun v9 => ?_)
        refine sm_icmp_eq (tgt := 52) (pc' := 50) d_Tx_is_47 rfl rfl ?_ ?_
        · refine sm_iinc (j := 0) (L' := [(2, .inl (t4 + 1)), (0, .inr (.inr x0)), (1, .inr (.inr x1))]) (pc' := 55) d_Tx_is_52 rfl (v := (t4 + 1)) rfl (ix_1 _) (Nat.le_of_ble_eq_true rfl) rfl (sm_goto (tgt := 23) d_Tx_is_55 rfl (sm_sub [0, 1, 2] rfl ?_))
          exact sm_rt rfl
        · refine sm_iconst (pc' := 51) d_Tx_is_50 rfl ic_0 ?_
          exact sm_zreturn d_Tx_is_51 rfl (by decide) rfl
    · refine sm_iconst (pc' := 20) d_Tx_is_19 rfl ic_0 ?_
      exact sm_zreturn d_Tx_is_20 rfl (by decide) rfl
theorem d_Tx_isReserved_0 : m_D k_Tx_isReserved 0 (.aload_n 0) 1 := (by decide +kernel : decode prog_10_method_12_code 0 = .ok (.aload_n 0, 1))
theorem d_Tx_isReserved_1 : m_D k_Tx_isReserved 1 (.ldc 77) 2 := (by decide +kernel : decode prog_10_method_12_code 1 = .ok (.ldc 77, 2))
theorem d_Tx_isReserved_3 : m_D k_Tx_isReserved 3 (.invokevirtual 79) 3 := (by decide +kernel : decode prog_10_method_12_code 3 = .ok (.invokevirtual 79, 3))
theorem d_Tx_isReserved_6 : m_D k_Tx_isReserved 6 (.ifCond .ne 183) 3 := (by decide +kernel : decode prog_10_method_12_code 6 = .ok (.ifCond .ne 183, 3))
theorem d_Tx_isReserved_9 : m_D k_Tx_isReserved 9 (.aload_n 0) 1 := (by decide +kernel : decode prog_10_method_12_code 9 = .ok (.aload_n 0, 1))
theorem d_Tx_isReserved_10 : m_D k_Tx_isReserved 10 (.ldc 83) 2 := (by decide +kernel : decode prog_10_method_12_code 10 = .ok (.ldc 83, 2))
theorem d_Tx_isReserved_12 : m_D k_Tx_isReserved 12 (.invokevirtual 79) 3 := (by decide +kernel : decode prog_10_method_12_code 12 = .ok (.invokevirtual 79, 3))
theorem d_Tx_isReserved_15 : m_D k_Tx_isReserved 15 (.ifCond .ne 174) 3 := (by decide +kernel : decode prog_10_method_12_code 15 = .ok (.ifCond .ne 174, 3))
theorem d_Tx_isReserved_18 : m_D k_Tx_isReserved 18 (.aload_n 0) 1 := (by decide +kernel : decode prog_10_method_12_code 18 = .ok (.aload_n 0, 1))
theorem d_Tx_isReserved_19 : m_D k_Tx_isReserved 19 (.ldc 85) 2 := (by decide +kernel : decode prog_10_method_12_code 19 = .ok (.ldc 85, 2))
theorem d_Tx_isReserved_21 : m_D k_Tx_isReserved 21 (.invokevirtual 79) 3 := (by decide +kernel : decode prog_10_method_12_code 21 = .ok (.invokevirtual 79, 3))
theorem d_Tx_isReserved_24 : m_D k_Tx_isReserved 24 (.ifCond .ne 165) 3 := (by decide +kernel : decode prog_10_method_12_code 24 = .ok (.ifCond .ne 165, 3))
theorem d_Tx_isReserved_27 : m_D k_Tx_isReserved 27 (.aload_n 0) 1 := (by decide +kernel : decode prog_10_method_12_code 27 = .ok (.aload_n 0, 1))
theorem d_Tx_isReserved_28 : m_D k_Tx_isReserved 28 (.ldc 87) 2 := (by decide +kernel : decode prog_10_method_12_code 28 = .ok (.ldc 87, 2))
theorem d_Tx_isReserved_30 : m_D k_Tx_isReserved 30 (.invokevirtual 79) 3 := (by decide +kernel : decode prog_10_method_12_code 30 = .ok (.invokevirtual 79, 3))
theorem d_Tx_isReserved_33 : m_D k_Tx_isReserved 33 (.ifCond .ne 156) 3 := (by decide +kernel : decode prog_10_method_12_code 33 = .ok (.ifCond .ne 156, 3))
theorem d_Tx_isReserved_36 : m_D k_Tx_isReserved 36 (.aload_n 0) 1 := (by decide +kernel : decode prog_10_method_12_code 36 = .ok (.aload_n 0, 1))
theorem d_Tx_isReserved_37 : m_D k_Tx_isReserved 37 (.ldc 89) 2 := (by decide +kernel : decode prog_10_method_12_code 37 = .ok (.ldc 89, 2))
theorem d_Tx_isReserved_39 : m_D k_Tx_isReserved 39 (.invokevirtual 79) 3 := (by decide +kernel : decode prog_10_method_12_code 39 = .ok (.invokevirtual 79, 3))
theorem d_Tx_isReserved_42 : m_D k_Tx_isReserved 42 (.ifCond .ne 147) 3 := (by decide +kernel : decode prog_10_method_12_code 42 = .ok (.ifCond .ne 147, 3))
theorem d_Tx_isReserved_45 : m_D k_Tx_isReserved 45 (.aload_n 0) 1 := (by decide +kernel : decode prog_10_method_12_code 45 = .ok (.aload_n 0, 1))
theorem d_Tx_isReserved_46 : m_D k_Tx_isReserved 46 (.ldc 91) 2 := (by decide +kernel : decode prog_10_method_12_code 46 = .ok (.ldc 91, 2))
theorem d_Tx_isReserved_48 : m_D k_Tx_isReserved 48 (.invokevirtual 79) 3 := (by decide +kernel : decode prog_10_method_12_code 48 = .ok (.invokevirtual 79, 3))
theorem d_Tx_isReserved_51 : m_D k_Tx_isReserved 51 (.ifCond .ne 138) 3 := (by decide +kernel : decode prog_10_method_12_code 51 = .ok (.ifCond .ne 138, 3))
theorem d_Tx_isReserved_54 : m_D k_Tx_isReserved 54 (.aload_n 0) 1 := (by decide +kernel : decode prog_10_method_12_code 54 = .ok (.aload_n 0, 1))
theorem d_Tx_isReserved_55 : m_D k_Tx_isReserved 55 (.ldc 93) 2 := (by decide +kernel : decode prog_10_method_12_code 55 = .ok (.ldc 93, 2))
theorem d_Tx_isReserved_57 : m_D k_Tx_isReserved 57 (.invokevirtual 79) 3 := (by decide +kernel : decode prog_10_method_12_code 57 = .ok (.invokevirtual 79, 3))
theorem d_Tx_isReserved_60 : m_D k_Tx_isReserved 60 (.ifCond .ne 129) 3 := (by decide +kernel : decode prog_10_method_12_code 60 = .ok (.ifCond .ne 129, 3))
theorem d_Tx_isReserved_63 : m_D k_Tx_isReserved 63 (.aload_n 0) 1 := (by decide +kernel : decode prog_10_method_12_code 63 = .ok (.aload_n 0, 1))
theorem d_Tx_isReserved_64 : m_D k_Tx_isReserved 64 (.ldc 95) 2 := (by decide +kernel : decode prog_10_method_12_code 64 = .ok (.ldc 95, 2))
theorem d_Tx_isReserved_66 : m_D k_Tx_isReserved 66 (.invokevirtual 79) 3 := (by decide +kernel : decode prog_10_method_12_code 66 = .ok (.invokevirtual 79, 3))
theorem d_Tx_isReserved_69 : m_D k_Tx_isReserved 69 (.ifCond .ne 120) 3 := (by decide +kernel : decode prog_10_method_12_code 69 = .ok (.ifCond .ne 120, 3))
theorem d_Tx_isReserved_72 : m_D k_Tx_isReserved 72 (.aload_n 0) 1 := (by decide +kernel : decode prog_10_method_12_code 72 = .ok (.aload_n 0, 1))
theorem d_Tx_isReserved_73 : m_D k_Tx_isReserved 73 (.ldc 97) 2 := (by decide +kernel : decode prog_10_method_12_code 73 = .ok (.ldc 97, 2))
theorem d_Tx_isReserved_75 : m_D k_Tx_isReserved 75 (.invokevirtual 79) 3 := (by decide +kernel : decode prog_10_method_12_code 75 = .ok (.invokevirtual 79, 3))
theorem d_Tx_isReserved_78 : m_D k_Tx_isReserved 78 (.ifCond .ne 111) 3 := (by decide +kernel : decode prog_10_method_12_code 78 = .ok (.ifCond .ne 111, 3))
theorem d_Tx_isReserved_81 : m_D k_Tx_isReserved 81 (.aload_n 0) 1 := (by decide +kernel : decode prog_10_method_12_code 81 = .ok (.aload_n 0, 1))
theorem d_Tx_isReserved_82 : m_D k_Tx_isReserved 82 (.ldc 99) 2 := (by decide +kernel : decode prog_10_method_12_code 82 = .ok (.ldc 99, 2))
theorem d_Tx_isReserved_84 : m_D k_Tx_isReserved 84 (.invokevirtual 79) 3 := (by decide +kernel : decode prog_10_method_12_code 84 = .ok (.invokevirtual 79, 3))
theorem d_Tx_isReserved_87 : m_D k_Tx_isReserved 87 (.ifCond .ne 102) 3 := (by decide +kernel : decode prog_10_method_12_code 87 = .ok (.ifCond .ne 102, 3))
theorem d_Tx_isReserved_90 : m_D k_Tx_isReserved 90 (.aload_n 0) 1 := (by decide +kernel : decode prog_10_method_12_code 90 = .ok (.aload_n 0, 1))
theorem d_Tx_isReserved_91 : m_D k_Tx_isReserved 91 (.ldc 101) 2 := (by decide +kernel : decode prog_10_method_12_code 91 = .ok (.ldc 101, 2))
theorem d_Tx_isReserved_93 : m_D k_Tx_isReserved 93 (.invokevirtual 79) 3 := (by decide +kernel : decode prog_10_method_12_code 93 = .ok (.invokevirtual 79, 3))
theorem d_Tx_isReserved_96 : m_D k_Tx_isReserved 96 (.ifCond .ne 93) 3 := (by decide +kernel : decode prog_10_method_12_code 96 = .ok (.ifCond .ne 93, 3))
theorem d_Tx_isReserved_99 : m_D k_Tx_isReserved 99 (.aload_n 0) 1 := (by decide +kernel : decode prog_10_method_12_code 99 = .ok (.aload_n 0, 1))
theorem d_Tx_isReserved_100 : m_D k_Tx_isReserved 100 (.ldc 103) 2 := (by decide +kernel : decode prog_10_method_12_code 100 = .ok (.ldc 103, 2))
theorem d_Tx_isReserved_102 : m_D k_Tx_isReserved 102 (.invokevirtual 79) 3 := (by decide +kernel : decode prog_10_method_12_code 102 = .ok (.invokevirtual 79, 3))
theorem d_Tx_isReserved_105 : m_D k_Tx_isReserved 105 (.ifCond .ne 84) 3 := (by decide +kernel : decode prog_10_method_12_code 105 = .ok (.ifCond .ne 84, 3))
theorem d_Tx_isReserved_108 : m_D k_Tx_isReserved 108 (.aload_n 0) 1 := (by decide +kernel : decode prog_10_method_12_code 108 = .ok (.aload_n 0, 1))
theorem d_Tx_isReserved_109 : m_D k_Tx_isReserved 109 (.ldc 105) 2 := (by decide +kernel : decode prog_10_method_12_code 109 = .ok (.ldc 105, 2))
theorem d_Tx_isReserved_111 : m_D k_Tx_isReserved 111 (.invokevirtual 79) 3 := (by decide +kernel : decode prog_10_method_12_code 111 = .ok (.invokevirtual 79, 3))
theorem d_Tx_isReserved_114 : m_D k_Tx_isReserved 114 (.ifCond .ne 75) 3 := (by decide +kernel : decode prog_10_method_12_code 114 = .ok (.ifCond .ne 75, 3))
theorem d_Tx_isReserved_117 : m_D k_Tx_isReserved 117 (.aload_n 0) 1 := (by decide +kernel : decode prog_10_method_12_code 117 = .ok (.aload_n 0, 1))
theorem d_Tx_isReserved_118 : m_D k_Tx_isReserved 118 (.ldc 107) 2 := (by decide +kernel : decode prog_10_method_12_code 118 = .ok (.ldc 107, 2))
theorem d_Tx_isReserved_120 : m_D k_Tx_isReserved 120 (.invokevirtual 79) 3 := (by decide +kernel : decode prog_10_method_12_code 120 = .ok (.invokevirtual 79, 3))
theorem d_Tx_isReserved_123 : m_D k_Tx_isReserved 123 (.ifCond .ne 66) 3 := (by decide +kernel : decode prog_10_method_12_code 123 = .ok (.ifCond .ne 66, 3))
theorem d_Tx_isReserved_126 : m_D k_Tx_isReserved 126 (.aload_n 0) 1 := (by decide +kernel : decode prog_10_method_12_code 126 = .ok (.aload_n 0, 1))
theorem d_Tx_isReserved_127 : m_D k_Tx_isReserved 127 (.ldc 109) 2 := (by decide +kernel : decode prog_10_method_12_code 127 = .ok (.ldc 109, 2))
theorem d_Tx_isReserved_129 : m_D k_Tx_isReserved 129 (.invokevirtual 79) 3 := (by decide +kernel : decode prog_10_method_12_code 129 = .ok (.invokevirtual 79, 3))
theorem d_Tx_isReserved_132 : m_D k_Tx_isReserved 132 (.ifCond .ne 57) 3 := (by decide +kernel : decode prog_10_method_12_code 132 = .ok (.ifCond .ne 57, 3))
theorem d_Tx_isReserved_135 : m_D k_Tx_isReserved 135 (.aload_n 0) 1 := (by decide +kernel : decode prog_10_method_12_code 135 = .ok (.aload_n 0, 1))
theorem d_Tx_isReserved_136 : m_D k_Tx_isReserved 136 (.ldc 111) 2 := (by decide +kernel : decode prog_10_method_12_code 136 = .ok (.ldc 111, 2))
theorem d_Tx_isReserved_138 : m_D k_Tx_isReserved 138 (.invokevirtual 79) 3 := (by decide +kernel : decode prog_10_method_12_code 138 = .ok (.invokevirtual 79, 3))
theorem d_Tx_isReserved_141 : m_D k_Tx_isReserved 141 (.ifCond .ne 48) 3 := (by decide +kernel : decode prog_10_method_12_code 141 = .ok (.ifCond .ne 48, 3))
theorem d_Tx_isReserved_144 : m_D k_Tx_isReserved 144 (.aload_n 0) 1 := (by decide +kernel : decode prog_10_method_12_code 144 = .ok (.aload_n 0, 1))
theorem d_Tx_isReserved_145 : m_D k_Tx_isReserved 145 (.ldc 113) 2 := (by decide +kernel : decode prog_10_method_12_code 145 = .ok (.ldc 113, 2))
theorem d_Tx_isReserved_147 : m_D k_Tx_isReserved 147 (.invokevirtual 79) 3 := (by decide +kernel : decode prog_10_method_12_code 147 = .ok (.invokevirtual 79, 3))
theorem d_Tx_isReserved_150 : m_D k_Tx_isReserved 150 (.ifCond .ne 39) 3 := (by decide +kernel : decode prog_10_method_12_code 150 = .ok (.ifCond .ne 39, 3))
theorem d_Tx_isReserved_153 : m_D k_Tx_isReserved 153 (.aload_n 0) 1 := (by decide +kernel : decode prog_10_method_12_code 153 = .ok (.aload_n 0, 1))
theorem d_Tx_isReserved_154 : m_D k_Tx_isReserved 154 (.ldc 115) 2 := (by decide +kernel : decode prog_10_method_12_code 154 = .ok (.ldc 115, 2))
theorem d_Tx_isReserved_156 : m_D k_Tx_isReserved 156 (.invokevirtual 79) 3 := (by decide +kernel : decode prog_10_method_12_code 156 = .ok (.invokevirtual 79, 3))
theorem d_Tx_isReserved_159 : m_D k_Tx_isReserved 159 (.ifCond .ne 30) 3 := (by decide +kernel : decode prog_10_method_12_code 159 = .ok (.ifCond .ne 30, 3))
theorem d_Tx_isReserved_162 : m_D k_Tx_isReserved 162 (.aload_n 0) 1 := (by decide +kernel : decode prog_10_method_12_code 162 = .ok (.aload_n 0, 1))
theorem d_Tx_isReserved_163 : m_D k_Tx_isReserved 163 (.ldc 117) 2 := (by decide +kernel : decode prog_10_method_12_code 163 = .ok (.ldc 117, 2))
theorem d_Tx_isReserved_165 : m_D k_Tx_isReserved 165 (.invokevirtual 79) 3 := (by decide +kernel : decode prog_10_method_12_code 165 = .ok (.invokevirtual 79, 3))
theorem d_Tx_isReserved_168 : m_D k_Tx_isReserved 168 (.ifCond .ne 21) 3 := (by decide +kernel : decode prog_10_method_12_code 168 = .ok (.ifCond .ne 21, 3))
theorem d_Tx_isReserved_171 : m_D k_Tx_isReserved 171 (.aload_n 0) 1 := (by decide +kernel : decode prog_10_method_12_code 171 = .ok (.aload_n 0, 1))
theorem d_Tx_isReserved_172 : m_D k_Tx_isReserved 172 (.ldc 119) 2 := (by decide +kernel : decode prog_10_method_12_code 172 = .ok (.ldc 119, 2))
theorem d_Tx_isReserved_174 : m_D k_Tx_isReserved 174 (.invokevirtual 79) 3 := (by decide +kernel : decode prog_10_method_12_code 174 = .ok (.invokevirtual 79, 3))
theorem d_Tx_isReserved_177 : m_D k_Tx_isReserved 177 (.ifCond .ne 12) 3 := (by decide +kernel : decode prog_10_method_12_code 177 = .ok (.ifCond .ne 12, 3))
theorem d_Tx_isReserved_180 : m_D k_Tx_isReserved 180 (.aload_n 0) 1 := (by decide +kernel : decode prog_10_method_12_code 180 = .ok (.aload_n 0, 1))
theorem d_Tx_isReserved_181 : m_D k_Tx_isReserved 181 (.ldc 121) 2 := (by decide +kernel : decode prog_10_method_12_code 181 = .ok (.ldc 121, 2))
theorem d_Tx_isReserved_183 : m_D k_Tx_isReserved 183 (.invokevirtual 79) 3 := (by decide +kernel : decode prog_10_method_12_code 183 = .ok (.invokevirtual 79, 3))
theorem d_Tx_isReserved_186 : m_D k_Tx_isReserved 186 (.ifCond .eq 7) 3 := (by decide +kernel : decode prog_10_method_12_code 186 = .ok (.ifCond .eq 7, 3))
theorem d_Tx_isReserved_189 : m_D k_Tx_isReserved 189 (.iconst 1) 1 := (by decide +kernel : decode prog_10_method_12_code 189 = .ok (.iconst 1, 1))
theorem d_Tx_isReserved_190 : m_D k_Tx_isReserved 190 (.goto 4) 3 := (by decide +kernel : decode prog_10_method_12_code 190 = .ok (.goto 4, 3))
theorem d_Tx_isReserved_193 : m_D k_Tx_isReserved 193 (.iconst 0) 1 := (by decide +kernel : decode prog_10_method_12_code 193 = .ok (.iconst 0, 1))
theorem d_Tx_isReserved_194 : m_D k_Tx_isReserved 194 (.ireturn) 1 := (by decide +kernel : decode prog_10_method_12_code 194 = .ok (.ireturn, 1))
def fn_Tx_isReserved (x0 : Option mA) : mP Int32 :=
  m_th 2 x0 <|
  m_bd (fn_Tx_is x0 (some (0, 1, 0))) fun v1 =>
  if v1 = 0 then
    m_bd (fn_Tx_is x0 (some (0, 2, 0))) fun v2 =>
    if v2 = 0 then
      m_bd (fn_Tx_is x0 (some (0, 3, 0))) fun v3 =>
      if v3 = 0 then
        m_bd (fn_Tx_is x0 (some (0, 4, 0))) fun v4 =>
        if v4 = 0 then
          m_bd (fn_Tx_is x0 (some (0, 0, 0))) fun v5 =>
          if v5 = 0 then
            m_bd (fn_Tx_is x0 (some (0, 5, 0))) fun v6 =>
            if v6 = 0 then
              m_bd (fn_Tx_is x0 (some (0, 6, 0))) fun v7 =>
              if v7 = 0 then
                m_bd (fn_Tx_is x0 (some (0, 7, 0))) fun v8 =>
                if v8 = 0 then
                  m_bd (fn_Tx_is x0 (some (0, 8, 0))) fun v9 =>
                  if v9 = 0 then
                    m_bd (fn_Tx_is x0 (some (0, 9, 0))) fun v10 =>
                    if v10 = 0 then
                      m_bd (fn_Tx_is x0 (some (0, 10, 0))) fun v11 =>
                      if v11 = 0 then
                        m_bd (fn_Tx_is x0 (some (0, 11, 0))) fun v12 =>
                        if v12 = 0 then
                          m_bd (fn_Tx_is x0 (some (0, 12, 0))) fun v13 =>
                          if v13 = 0 then
                            m_bd (fn_Tx_is x0 (some (0, 13, 0))) fun v14 =>
                            if v14 = 0 then
                              m_bd (fn_Tx_is x0 (some (0, 14, 0))) fun v15 =>
                              if v15 = 0 then
                                m_bd (fn_Tx_is x0 (some (0, 15, 0))) fun v16 =>
                                if v16 = 0 then
                                  m_bd (fn_Tx_is x0 (some (0, 16, 0))) fun v17 =>
                                  if v17 = 0 then
                                    m_bd (fn_Tx_is x0 (some (0, 17, 0))) fun v18 =>
                                    if v18 = 0 then
                                      m_bd (fn_Tx_is x0 (some (0, 18, 0))) fun v19 =>
                                      if v19 = 0 then
                                        m_bd (fn_Tx_is x0 (some (0, 19, 0))) fun v20 =>
                                        if v20 = 0 then
                                          m_bd (fn_Tx_is x0 (some (0, 20, 0))) fun v21 =>
                                          if v21 = 0 then
                                            m_rt 0
                                          else
                                            m_rt 1
                                        else
                                          m_rt 1
                                      else
                                        m_rt 1
                                    else
                                      m_rt 1
                                  else
                                    m_rt 1
                                else
                                  m_rt 1
                              else
                                m_rt 1
                            else
                              m_rt 1
                          else
                            m_rt 1
                        else
                          m_rt 1
                      else
                        m_rt 1
                    else
                      m_rt 1
                  else
                    m_rt 1
                else
                  m_rt 1
              else
                m_rt 1
            else
              m_rt 1
          else
            m_rt 1
        else
          m_rt 1
      else
        m_rt 1
    else
      m_rt 1
  else
    m_rt 1
set_option maxHeartbeats 4000000 in
set_option maxRecDepth 100000 in
theorem sd_Tx_isReserved (x0 : Option mA) : m_Sm k_Tx_isReserved 7 0 0 [.inr (.inr x0)] (fn_Tx_isReserved x0) (fun b => some (.inl b)) := by
  refine ⟨Nat.le_of_ble_eq_true rfl, ?_⟩
  refine sm_th ?_
  refine sm_aload_n (i := 0) (j := 0) (pc' := 1) d_Tx_isReserved_0 rfl rfl rfl (sm_ldcS (j := 1) (pc' := 3) d_Tx_isReserved_1 rfl (by decide) ?_)
  refine sm_callVi (ci := 2) (x := x0) (av := [.inr (.inr (some (0, 1, 0)))]) (st := []) (mc := 0) (ms := 0) (pc' := 6) d_Tx_isReserved_3 rfl (sd_Tx_is x0 (some (0, 1, 0))) m_lv rfl cv_Tx_is w_ml_Tx_79 rfl rfl (by decide) (Nat.le_of_ble_eq_true rfl) rfl rfl (fun v1 => ?_)
  refine sm_if_ne (tgt := 189) (pc' := 9) d_Tx_isReserved_6 rfl rfl ?_ ?_
  · refine sm_iconst (pc' := 190) d_Tx_isReserved_189 rfl ic_1 (sm_goto (tgt := 194) d_Tx_isReserved_190 rfl ?_)
    exact sm_zreturn d_Tx_isReserved_194 rfl (by decide) rfl
  · refine sm_aload_n (i := 0) (j := 0) (pc' := 10) d_Tx_isReserved_9 rfl rfl rfl (sm_ldcS (j := 2) (pc' := 12) d_Tx_isReserved_10 rfl (by decide) ?_)
    refine sm_callVi (ci := 2) (x := x0) (av := [.inr (.inr (some (0, 2, 0)))]) (st := []) (mc := 0) (ms := 0) (pc' := 15) d_Tx_isReserved_12 rfl (sd_Tx_is x0 (some (0, 2, 0))) m_lv rfl cv_Tx_is w_ml_Tx_79 rfl rfl (by decide) (Nat.le_of_ble_eq_true rfl) rfl rfl (fun v2 => ?_)
    refine sm_if_ne (tgt := 189) (pc' := 18) d_Tx_isReserved_15 rfl rfl ?_ ?_
    · refine sm_iconst (pc' := 190) d_Tx_isReserved_189 rfl ic_1 (sm_goto (tgt := 194) d_Tx_isReserved_190 rfl ?_)
      exact sm_zreturn d_Tx_isReserved_194 rfl (by decide) rfl
    · refine sm_aload_n (i := 0) (j := 0) (pc' := 19) d_Tx_isReserved_18 rfl rfl rfl (sm_ldcS (j := 3) (pc' := 21) d_Tx_isReserved_19 rfl (by decide) ?_)
      refine sm_callVi (ci := 2) (x := x0) (av := [.inr (.inr (some (0, 3, 0)))]) (st := []) (mc := 0) (ms := 0) (pc' := 24) d_Tx_isReserved_21 rfl (sd_Tx_is x0 (some (0, 3, 0))) m_lv rfl cv_Tx_is w_ml_Tx_79 rfl rfl (by decide) (Nat.le_of_ble_eq_true rfl) rfl rfl (fun v3 => ?_)
      refine sm_if_ne (tgt := 189) (pc' := 27) d_Tx_isReserved_24 rfl rfl ?_ ?_
      · refine sm_iconst (pc' := 190) d_Tx_isReserved_189 rfl ic_1 (sm_goto (tgt := 194) d_Tx_isReserved_190 rfl ?_)
        exact sm_zreturn d_Tx_isReserved_194 rfl (by decide) rfl
      · refine sm_aload_n (i := 0) (j := 0) (pc' := 28) d_Tx_isReserved_27 rfl rfl rfl (sm_ldcS (j := 4) (pc' := 30) d_Tx_isReserved_28 rfl (by decide) ?_)
        refine sm_callVi (ci := 2) (x := x0) (av := [.inr (.inr (some (0, 4, 0)))]) (st := []) (mc := 0) (ms := 0) (pc' := 33) d_Tx_isReserved_30 rfl (sd_Tx_is x0 (some (0, 4, 0))) m_lv rfl cv_Tx_is w_ml_Tx_79 rfl rfl (by decide) (Nat.le_of_ble_eq_true rfl) rfl rfl (fun v4 => ?_)
        refine sm_if_ne (tgt := 189) (pc' := 36) d_Tx_isReserved_33 rfl rfl ?_ ?_
        · refine sm_iconst (pc' := 190) d_Tx_isReserved_189 rfl ic_1 (sm_goto (tgt := 194) d_Tx_isReserved_190 rfl ?_)
          exact sm_zreturn d_Tx_isReserved_194 rfl (by decide) rfl
        · refine sm_aload_n (i := 0) (j := 0) (pc' := 37) d_Tx_isReserved_36 rfl rfl rfl (sm_ldcS (j := 0) (pc' := 39) d_Tx_isReserved_37 rfl (by decide) ?_)
          refine sm_callVi (ci := 2) (x := x0) (av := [.inr (.inr (some (0, 0, 0)))]) (st := []) (mc := 0) (ms := 0) (pc' := 42) d_Tx_isReserved_39 rfl (sd_Tx_is x0 (some (0, 0, 0))) m_lv rfl cv_Tx_is w_ml_Tx_79 rfl rfl (by decide) (Nat.le_of_ble_eq_true rfl) rfl rfl (fun v5 => ?_)
          refine sm_if_ne (tgt := 189) (pc' := 45) d_Tx_isReserved_42 rfl rfl ?_ ?_
          · refine sm_iconst (pc' := 190) d_Tx_isReserved_189 rfl ic_1 (sm_goto (tgt := 194) d_Tx_isReserved_190 rfl ?_)
            exact sm_zreturn d_Tx_isReserved_194 rfl (by decide) rfl
          · refine sm_aload_n (i := 0) (j := 0) (pc' := 46) d_Tx_isReserved_45 rfl rfl rfl (sm_ldcS (j := 5) (pc' := 48) d_Tx_isReserved_46 rfl (by decide) ?_)
            refine sm_callVi (ci := 2) (x := x0) (av := [.inr (.inr (some (0, 5, 0)))]) (st := []) (mc := 0) (ms := 0) (pc' := 51) d_Tx_isReserved_48 rfl (sd_Tx_is x0 (some (0, 5, 0))) m_lv rfl cv_Tx_is w_ml_Tx_79 rfl rfl (by decide) (Nat.le_of_ble_eq_true rfl) rfl rfl (fun v6 => ?_)
            refine sm_if_ne (tgt := 189) (pc' := 54) d_Tx_isReserved_51 rfl rfl ?_ ?_
            · refine sm_iconst (pc' := 190) d_Tx_isReserved_189 rfl ic_1 (sm_goto (tgt := 194) d_Tx_isReserved_190 rfl ?_)
              exact sm_zreturn d_Tx_isReserved_194 rfl (by decide) rfl
            · refine sm_aload_n (i := 0) (j := 0) (pc' := 55) d_Tx_isReserved_54 rfl rfl rfl (sm_ldcS (j := 6) (pc' := 57) d_Tx_isReserved_55 rfl (by decide) ?_)
              refine sm_callVi (ci := 2) (x := x0) (av := [.inr (.inr (some (0, 6, 0)))]) (st := []) (mc := 0) (ms := 0) (pc' := 60) d_Tx_isReserved_57 rfl (sd_Tx_is x0 (some (0, 6, 0))) m_lv rfl cv_Tx_is w_ml_Tx_79 rfl rfl (by decide) (Nat.le_of_ble_eq_true rfl) rfl rfl (fun v7 => ?_)
              refine sm_if_ne (tgt := 189) (pc' := 63) d_Tx_isReserved_60 rfl rfl ?_ ?_
              · refine sm_iconst (pc' := 190) d_Tx_isReserved_189 rfl ic_1 (sm_goto (tgt := 194) d_Tx_isReserved_190 rfl ?_)
                exact sm_zreturn d_Tx_isReserved_194 rfl (by decide) rfl
              · refine sm_aload_n (i := 0) (j := 0) (pc' := 64) d_Tx_isReserved_63 rfl rfl rfl (sm_ldcS (j := 7) (pc' := 66) d_Tx_isReserved_64 rfl (by decide) ?_)
                refine sm_callVi (ci := 2) (x := x0) (av := [.inr (.inr (some (0, 7, 0)))]) (st := []) (mc := 0) (ms := 0) (pc' := 69) d_Tx_isReserved_66 rfl (sd_Tx_is x0 (some (0, 7, 0))) m_lv rfl cv_Tx_is w_ml_Tx_79 rfl rfl (by decide) (Nat.le_of_ble_eq_true rfl) rfl rfl (fun v8 => ?_)
                refine sm_if_ne (tgt := 189) (pc' := 72) d_Tx_isReserved_69 rfl rfl ?_ ?_
                · refine sm_iconst (pc' := 190) d_Tx_isReserved_189 rfl ic_1 (sm_goto (tgt := 194) d_Tx_isReserved_190 rfl ?_)
                  exact sm_zreturn d_Tx_isReserved_194 rfl (by decide) rfl
                · refine sm_aload_n (i := 0) (j := 0) (pc' := 73) d_Tx_isReserved_72 rfl rfl rfl (sm_ldcS (j := 8) (pc' := 75) d_Tx_isReserved_73 rfl (by decide) ?_)
                  refine sm_callVi (ci := 2) (x := x0) (av := [.inr (.inr (some (0, 8, 0)))]) (st := []) (mc := 0) (ms := 0) (pc' := 78) d_Tx_isReserved_75 rfl (sd_Tx_is x0 (some (0, 8, 0))) m_lv rfl cv_Tx_is w_ml_Tx_79 rfl rfl (by decide) (Nat.le_of_ble_eq_true rfl) rfl rfl (fun v9 => ?_)
                  refine sm_if_ne (tgt := 189) (pc' := 81) d_Tx_isReserved_78 rfl rfl ?_ ?_
                  · refine sm_iconst (pc' := 190) d_Tx_isReserved_189 rfl ic_1 (sm_goto (tgt := 194) d_Tx_isReserved_190 rfl ?_)
                    exact sm_zreturn d_Tx_isReserved_194 rfl (by decide) rfl
                  · refine sm_aload_n (i := 0) (j := 0) (pc' := 82) d_Tx_isReserved_81 rfl rfl rfl (sm_ldcS (j := 9) (pc' := 84) d_Tx_isReserved_82 rfl (by decide) ?_)
                    refine sm_callVi (ci := 2) (x := x0) (av := [.inr (.inr (some (0, 9, 0)))]) (st := []) (mc := 0) (ms := 0) (pc' := 87) d_Tx_isReserved_84 rfl (sd_Tx_is x0 (some (0, 9, 0))) m_lv rfl cv_Tx_is w_ml_Tx_79 rfl rfl (by decide) (Nat.le_of_ble_eq_true rfl) rfl rfl (fun v10 => ?_)
                    refine sm_if_ne (tgt := 189) (pc' := 90) d_Tx_isReserved_87 rfl rfl ?_ ?_
                    · refine sm_iconst (pc' := 190) d_Tx_isReserved_189 rfl ic_1 (sm_goto (tgt := 194) d_Tx_isReserved_190 rfl ?_)
                      exact sm_zreturn d_Tx_isReserved_194 rfl (by decide) rfl
                    · refine sm_aload_n (i := 0) (j := 0) (pc' := 91) d_Tx_isReserved_90 rfl rfl rfl (sm_ldcS (j := 10) (pc' := 93) d_Tx_isReserved_91 rfl (by decide) ?_)
                      refine sm_callVi (ci := 2) (x := x0) (av := [.inr (.inr (some (0, 10, 0)))]) (st := []) (mc := 0) (ms := 0) (pc' := 96) d_Tx_isReserved_93 rfl (sd_Tx_is x0 (some (0, 10, 0))) m_lv rfl cv_Tx_is w_ml_Tx_79 rfl rfl (by decide) (Nat.le_of_ble_eq_true rfl) rfl rfl (fun v11 => ?_)
                      refine sm_if_ne (tgt := 189) (pc' := 99) d_Tx_isReserved_96 rfl rfl ?_ ?_
                      · refine sm_iconst (pc' := 190) d_Tx_isReserved_189 rfl ic_1 (sm_goto (tgt := 194) d_Tx_isReserved_190 rfl ?_)
                        exact sm_zreturn d_Tx_isReserved_194 rfl (by decide) rfl
                      · refine sm_aload_n (i := 0) (j := 0) (pc' := 100) d_Tx_isReserved_99 rfl rfl rfl (sm_ldcS (j := 11) (pc' := 102) d_Tx_isReserved_100 rfl (by decide) ?_)
                        refine sm_callVi (ci := 2) (x := x0) (av := [.inr (.inr (some (0, 11, 0)))]) (st := []) (mc := 0) (ms := 0) (pc' := 105) d_Tx_isReserved_102 rfl (sd_Tx_is x0 (some (0, 11, 0))) m_lv rfl cv_Tx_is w_ml_Tx_79 rfl rfl (by decide) (Nat.le_of_ble_eq_true rfl) rfl rfl (fun v12 => ?_)
                        refine sm_if_ne (tgt := 189) (pc' := 108) d_Tx_isReserved_105 rfl rfl ?_ ?_
                        · refine sm_iconst (pc' := 190) d_Tx_isReserved_189 rfl ic_1 (sm_goto (tgt := 194) d_Tx_isReserved_190 rfl ?_)
                          exact sm_zreturn d_Tx_isReserved_194 rfl (by decide) rfl
                        · refine sm_aload_n (i := 0) (j := 0) (pc' := 109) d_Tx_isReserved_108 rfl rfl rfl (sm_ldcS (j := 12) (pc' := 111) d_Tx_isReserved_109 rfl (by decide) ?_)
                          refine sm_callVi (ci := 2) (x := x0) (av := [.inr (.inr (some (0, 12, 0)))]) (st := []) (mc := 0) (ms := 0) (pc' := 114) d_Tx_isReserved_111 rfl (sd_Tx_is x0 (some (0, 12, 0))) m_lv rfl cv_Tx_is w_ml_Tx_79 rfl rfl (by decide) (Nat.le_of_ble_eq_true rfl) rfl rfl (fun v13 => ?_)
                          refine sm_if_ne (tgt := 189) (pc' := 117) d_Tx_isReserved_114 rfl rfl ?_ ?_
                          · refine sm_iconst (pc' := 190) d_Tx_isReserved_189 rfl ic_1 (sm_goto (tgt := 194) d_Tx_isReserved_190 rfl ?_)
                            exact sm_zreturn d_Tx_isReserved_194 rfl (by decide) rfl
                          · refine sm_aload_n (i := 0) (j := 0) (pc' := 118) d_Tx_isReserved_117 rfl rfl rfl (sm_ldcS (j := 13) (pc' := 120) d_Tx_isReserved_118 rfl (by decide) ?_)
                            refine sm_callVi (ci := 2) (x := x0) (av := [.inr (.inr (some (0, 13, 0)))]) (st := []) (mc := 0) (ms := 0) (pc' := 123) d_Tx_isReserved_120 rfl (sd_Tx_is x0 (some (0, 13, 0))) m_lv rfl cv_Tx_is w_ml_Tx_79 rfl rfl (by decide) (Nat.le_of_ble_eq_true rfl) rfl rfl (fun v14 => ?_)
                            refine sm_if_ne (tgt := 189) (pc' := 126) d_Tx_isReserved_123 rfl rfl ?_ ?_
                            · refine sm_iconst (pc' := 190) d_Tx_isReserved_189 rfl ic_1 (sm_goto (tgt := 194) d_Tx_isReserved_190 rfl ?_)
                              exact sm_zreturn d_Tx_isReserved_194 rfl (by decide) rfl
                            · refine sm_aload_n (i := 0) (j := 0) (pc' := 127) d_Tx_isReserved_126 rfl rfl rfl (sm_ldcS (j := 14) (pc' := 129) d_Tx_isReserved_127 rfl (by decide) ?_)
                              refine sm_callVi (ci := 2) (x := x0) (av := [.inr (.inr (some (0, 14, 0)))]) (st := []) (mc := 0) (ms := 0) (pc' := 132) d_Tx_isReserved_129 rfl (sd_Tx_is x0 (some (0, 14, 0))) m_lv rfl cv_Tx_is w_ml_Tx_79 rfl rfl (by decide) (Nat.le_of_ble_eq_true rfl) rfl rfl (fun v15 => ?_)
                              refine sm_if_ne (tgt := 189) (pc' := 135) d_Tx_isReserved_132 rfl rfl ?_ ?_
                              · refine sm_iconst (pc' := 190) d_Tx_isReserved_189 rfl ic_1 (sm_goto (tgt := 194) d_Tx_isReserved_190 rfl ?_)
                                exact sm_zreturn d_Tx_isReserved_194 rfl (by decide) rfl
                              · refine sm_aload_n (i := 0) (j := 0) (pc' := 136) d_Tx_isReserved_135 rfl rfl rfl (sm_ldcS (j := 15) (pc' := 138) d_Tx_isReserved_136 rfl (by decide) ?_)
                                refine sm_callVi (ci := 2) (x := x0) (av := [.inr (.inr (some (0, 15, 0)))]) (st := []) (mc := 0) (ms := 0) (pc' := 141) d_Tx_isReserved_138 rfl (sd_Tx_is x0 (some (0, 15, 0))) m_lv rfl cv_Tx_is w_ml_Tx_79 rfl rfl (by decide) (Nat.le_of_ble_eq_true rfl) rfl rfl (fun v16 => ?_)
                                refine sm_if_ne (tgt := 189) (pc' := 144) d_Tx_isReserved_141 rfl rfl ?_ ?_
                                · refine sm_iconst (pc' := 190) d_Tx_isReserved_189 rfl ic_1 (sm_goto (tgt := 194) d_Tx_isReserved_190 rfl ?_)
                                  exact sm_zreturn d_Tx_isReserved_194 rfl (by decide) rfl
                                · refine sm_aload_n (i := 0) (j := 0) (pc' := 145) d_Tx_isReserved_144 rfl rfl rfl (sm_ldcS (j := 16) (pc' := 147) d_Tx_isReserved_145 rfl (by decide) ?_)
                                  refine sm_callVi (ci := 2) (x := x0) (av := [.inr (.inr (some (0, 16, 0)))]) (st := []) (mc := 0) (ms := 0) (pc' := 150) d_Tx_isReserved_147 rfl (sd_Tx_is x0 (some (0, 16, 0))) m_lv rfl cv_Tx_is w_ml_Tx_79 rfl rfl (by decide) (Nat.le_of_ble_eq_true rfl) rfl rfl (fun v17 => ?_)
                                  refine sm_if_ne (tgt := 189) (pc' := 153) d_Tx_isReserved_150 rfl rfl ?_ ?_
                                  · refine sm_iconst (pc' := 190) d_Tx_isReserved_189 rfl ic_1 (sm_goto (tgt := 194) d_Tx_isReserved_190 rfl ?_)
                                    exact sm_zreturn d_Tx_isReserved_194 rfl (by decide) rfl
                                  · refine sm_aload_n (i := 0) (j := 0) (pc' := 154) d_Tx_isReserved_153 rfl rfl rfl (sm_ldcS (j := 17) (pc' := 156) d_Tx_isReserved_154 rfl (by decide) ?_)
                                    refine sm_callVi (ci := 2) (x := x0) (av := [.inr (.inr (some (0, 17, 0)))]) (st := []) (mc := 0) (ms := 0) (pc' := 159) d_Tx_isReserved_156 rfl (sd_Tx_is x0 (some (0, 17, 0))) m_lv rfl cv_Tx_is w_ml_Tx_79 rfl rfl (by decide) (Nat.le_of_ble_eq_true rfl) rfl rfl (fun v18 => ?_)
                                    refine sm_if_ne (tgt := 189) (pc' := 162) d_Tx_isReserved_159 rfl rfl ?_ ?_
                                    · refine sm_iconst (pc' := 190) d_Tx_isReserved_189 rfl ic_1 (sm_goto (tgt := 194) d_Tx_isReserved_190 rfl ?_)
                                      exact sm_zreturn d_Tx_isReserved_194 rfl (by decide) rfl
                                    · refine sm_aload_n (i := 0) (j := 0) (pc' := 163) d_Tx_isReserved_162 rfl rfl rfl (sm_ldcS (j := 18) (pc' := 165) d_Tx_isReserved_163 rfl (by decide) ?_)
                                      refine sm_callVi (ci := 2) (x := x0) (av := [.inr (.inr (some (0, 18, 0)))]) (st := []) (mc := 0) (ms := 0) (pc' := 168) d_Tx_isReserved_165 rfl (sd_Tx_is x0 (some (0, 18, 0))) m_lv rfl cv_Tx_is w_ml_Tx_79 rfl rfl (by decide) (Nat.le_of_ble_eq_true rfl) rfl rfl (fun v19 => ?_)
                                      refine sm_if_ne (tgt := 189) (pc' := 171) d_Tx_isReserved_168 rfl rfl ?_ ?_
                                      · refine sm_iconst (pc' := 190) d_Tx_isReserved_189 rfl ic_1 (sm_goto (tgt := 194) d_Tx_isReserved_190 rfl ?_)
                                        exact sm_zreturn d_Tx_isReserved_194 rfl (by decide) rfl
                                      · refine sm_aload_n (i := 0) (j := 0) (pc' := 172) d_Tx_isReserved_171 rfl rfl rfl (sm_ldcS (j := 19) (pc' := 174) d_Tx_isReserved_172 rfl (by decide) ?_)
                                        refine sm_callVi (ci := 2) (x := x0) (av := [.inr (.inr (some (0, 19, 0)))]) (st := []) (mc := 0) (ms := 0) (pc' := 177) d_Tx_isReserved_174 rfl (sd_Tx_is x0 (some (0, 19, 0))) m_lv rfl cv_Tx_is w_ml_Tx_79 rfl rfl (by decide) (Nat.le_of_ble_eq_true rfl) rfl rfl (fun v20 => ?_)
                                        refine sm_if_ne (tgt := 189) (pc' := 180) d_Tx_isReserved_177 rfl rfl ?_ ?_
                                        · refine sm_iconst (pc' := 190) d_Tx_isReserved_189 rfl ic_1 (sm_goto (tgt := 194) d_Tx_isReserved_190 rfl ?_)
                                          exact sm_zreturn d_Tx_isReserved_194 rfl (by decide) rfl
                                        · refine sm_aload_n (i := 0) (j := 0) (pc' := 181) d_Tx_isReserved_180 rfl rfl rfl (sm_ldcS (j := 20) (pc' := 183) d_Tx_isReserved_181 rfl (by decide) ?_)
                                          refine sm_callVi (ci := 2) (x := x0) (av := [.inr (.inr (some (0, 20, 0)))]) (st := []) (mc := 0) (ms := 0) (pc' := 186) d_Tx_isReserved_183 rfl (sd_Tx_is x0 (some (0, 20, 0))) m_lv rfl cv_Tx_is w_ml_Tx_79 rfl rfl (by decide) (Nat.le_of_ble_eq_true rfl) rfl rfl (fun v21 => ?_)
                                          refine sm_if_eq (tgt := 193) (pc' := 189) d_Tx_isReserved_186 rfl rfl ?_ ?_
                                          · refine sm_iconst (pc' := 194) d_Tx_isReserved_193 rfl ic_0 ?_
                                            exact sm_zreturn d_Tx_isReserved_194 rfl (by decide) rfl
                                          · refine sm_iconst (pc' := 190) d_Tx_isReserved_189 rfl ic_1 (sm_goto (tgt := 194) d_Tx_isReserved_190 rfl ?_)
                                            exact sm_zreturn d_Tx_isReserved_194 rfl (by decide) rfl
theorem d_Tx_takeName_0 : m_D k_Tx_takeName 0 (.aload_n 0) 1 := (by decide +kernel : decode prog_10_method_16_code 0 = .ok (.aload_n 0, 1))
theorem d_Tx_takeName_1 : m_D k_Tx_takeName 1 (.getfield 50) 3 := (by decide +kernel : decode prog_10_method_16_code 1 = .ok (.getfield 50, 3))
theorem d_Tx_takeName_4 : m_D k_Tx_takeName 4 (.iconst 1) 1 := (by decide +kernel : decode prog_10_method_16_code 4 = .ok (.iconst 1, 1))
theorem d_Tx_takeName_5 : m_D k_Tx_takeName 5 (.if_icmp .ne 19) 3 := (by decide +kernel : decode prog_10_method_16_code 5 = .ok (.if_icmp .ne 19, 3))
theorem d_Tx_takeName_8 : m_D k_Tx_takeName 8 (.aload_n 0) 1 := (by decide +kernel : decode prog_10_method_16_code 8 = .ok (.aload_n 0, 1))
theorem d_Tx_takeName_9 : m_D k_Tx_takeName 9 (.getfield 40) 3 := (by decide +kernel : decode prog_10_method_16_code 9 = .ok (.getfield 40, 3))
theorem d_Tx_takeName_12 : m_D k_Tx_takeName 12 (.bipush 8) 2 := (by decide +kernel : decode prog_10_method_16_code 12 = .ok (.bipush 8, 2))
theorem d_Tx_takeName_14 : m_D k_Tx_takeName 14 (.if_icmp .gt 10) 3 := (by decide +kernel : decode prog_10_method_16_code 14 = .ok (.if_icmp .gt 10, 3))
theorem d_Tx_takeName_17 : m_D k_Tx_takeName 17 (.aload_n 0) 1 := (by decide +kernel : decode prog_10_method_16_code 17 = .ok (.aload_n 0, 1))
theorem d_Tx_takeName_18 : m_D k_Tx_takeName 18 (.invokevirtual 134) 3 := (by decide +kernel : decode prog_10_method_16_code 18 = .ok (.invokevirtual 134, 3))
theorem d_Tx_takeName_21 : m_D k_Tx_takeName 21 (.ifCond .eq 9) 3 := (by decide +kernel : decode prog_10_method_16_code 21 = .ok (.ifCond .eq 9, 3))
theorem d_Tx_takeName_24 : m_D k_Tx_takeName 24 (.aload_n 0) 1 := (by decide +kernel : decode prog_10_method_16_code 24 = .ok (.aload_n 0, 1))
theorem d_Tx_takeName_25 : m_D k_Tx_takeName 25 (.iconst 2) 1 := (by decide +kernel : decode prog_10_method_16_code 25 = .ok (.iconst 2, 1))
theorem d_Tx_takeName_26 : m_D k_Tx_takeName 26 (.invokevirtual 123) 3 := (by decide +kernel : decode prog_10_method_16_code 26 = .ok (.invokevirtual 123, 3))
theorem d_Tx_takeName_29 : m_D k_Tx_takeName 29 (.ireturn) 1 := (by decide +kernel : decode prog_10_method_16_code 29 = .ok (.ireturn, 1))
theorem d_Tx_takeName_30 : m_D k_Tx_takeName 30 (.iload_n 1) 1 := (by decide +kernel : decode prog_10_method_16_code 30 = .ok (.iload_n 1, 1))
theorem d_Tx_takeName_31 : m_D k_Tx_takeName 31 (.ifCond .ne 9) 3 := (by decide +kernel : decode prog_10_method_16_code 31 = .ok (.ifCond .ne 9, 3))
theorem d_Tx_takeName_34 : m_D k_Tx_takeName 34 (.aload_n 0) 1 := (by decide +kernel : decode prog_10_method_16_code 34 = .ok (.aload_n 0, 1))
theorem d_Tx_takeName_35 : m_D k_Tx_takeName 35 (.iconst 3) 1 := (by decide +kernel : decode prog_10_method_16_code 35 = .ok (.iconst 3, 1))
theorem d_Tx_takeName_36 : m_D k_Tx_takeName 36 (.invokevirtual 123) 3 := (by decide +kernel : decode prog_10_method_16_code 36 = .ok (.invokevirtual 123, 3))
theorem d_Tx_takeName_39 : m_D k_Tx_takeName 39 (.ireturn) 1 := (by decide +kernel : decode prog_10_method_16_code 39 = .ok (.ireturn, 1))
theorem d_Tx_takeName_40 : m_D k_Tx_takeName 40 (.aload_n 0) 1 := (by decide +kernel : decode prog_10_method_16_code 40 = .ok (.aload_n 0, 1))
theorem d_Tx_takeName_41 : m_D k_Tx_takeName 41 (.invokevirtual 31) 3 := (by decide +kernel : decode prog_10_method_16_code 41 = .ok (.invokevirtual 31, 3))
theorem d_Tx_takeName_44 : m_D k_Tx_takeName 44 (.iconst 1) 1 := (by decide +kernel : decode prog_10_method_16_code 44 = .ok (.iconst 1, 1))
theorem d_Tx_takeName_45 : m_D k_Tx_takeName 45 (.ireturn) 1 := (by decide +kernel : decode prog_10_method_16_code 45 = .ok (.ireturn, 1))
def fn_Tx_takeName (x0 : Option mA) (x1 : Int32) : mP Int32 :=
  m_th 2 x0 <|
  m_bd (m_gI 2 4 x0) fun v1 =>
  if v1 = 1 then
    m_bd (m_gI 2 6 x0) fun v3 =>
    if 8 < v3 then
      m_bd (fn_Tx_refuse x0 2) fun v4 =>
      m_bd (m_cz v4) fun _ => m_rt v4
    else
      m_bd (fn_Tx_isReserved x0) fun v5 =>
      if v5 = 0 then
        if x1 = 0 then
          m_bd (fn_Tx_refuse x0 3) fun v6 =>
          m_bd (m_cz v6) fun _ => m_rt v6
        else
          m_bd (fn_Tx_advance x0) fun _ =>
          m_rt 1
      else
        m_bd (fn_Tx_refuse x0 2) fun v7 =>
        m_bd (m_cz v7) fun _ => m_rt v7
  else
    m_bd (fn_Tx_refuse x0 2) fun v2 =>
    m_bd (m_cz v2) fun _ => m_rt v2
set_option maxHeartbeats 4000000 in
set_option maxRecDepth 100000 in
theorem sd_Tx_takeName (x0 : Option mA) (x1 : Int32) : m_Sm k_Tx_takeName 8 0 0 [.inr (.inr x0), .inl x1] (fn_Tx_takeName x0 x1) (fun b => some (.inl b)) := by
  refine ⟨Nat.le_of_ble_eq_true rfl, ?_⟩
  refine sm_th ?_
  refine sm_aload_n (i := 0) (j := 0) (pc' := 1) d_Tx_takeName_0 rfl rfl rfl ?_
  refine sm_getI (pc' := 4) d_Tx_takeName_1 rfl fl_Tx_50 rfl ⟨by decide, by decide⟩ (fun v1 => ?_)
  refine sm_iconst (pc' := 5) d_Tx_takeName_4 rfl ic_1 ?_
  refine sm_icmp_ne (tgt := 24) (pc' := 8) d_Tx_takeName_5 rfl rfl ?_ ?_
  · refine sm_aload_n (i := 0) (j := 0) (pc' := 25) d_Tx_takeName_24 rfl rfl rfl (sm_iconst (pc' := 26) d_Tx_takeName_25 rfl ic_2 ?_)
    refine sm_callVi (ci := 2) (x := x0) (av := [.inl 2]) (st := []) (mc := 0) (ms := 0) (pc' := 29) d_Tx_takeName_26 rfl (sd_Tx_refuse x0 2) m_lv rfl cv_Tx_refuse w_ml_Tx_123 rfl rfl (by decide) (Nat.le_of_ble_eq_true rfl) rfl rfl (fun v2 => ?_)
    exact sm_zretC d_Tx_takeName_29 rfl rfl
  · refine sm_aload_n (i := 0) (j := 0) (pc' := 9) d_Tx_takeName_8 rfl rfl rfl ?_
    refine sm_getI (pc' := 12) d_Tx_takeName_9 rfl fl_Tx_40 rfl ⟨by decide, by decide⟩ (fun v3 => ?_)
    refine sm_bipush (pc' := 14) d_Tx_takeName_12 rfl ib_8 ?_
    refine sm_icmp_gt (tgt := 24) (pc' := 17) d_Tx_takeName_14 rfl rfl ?_ ?_
    · refine sm_aload_n (i := 0) (j := 0) (pc' := 25) d_Tx_takeName_24 rfl rfl rfl (sm_iconst (pc' := 26) d_Tx_takeName_25 rfl ic_2 ?_)
      refine sm_callVi (ci := 2) (x := x0) (av := [.inl 2]) (st := []) (mc := 0) (ms := 0) (pc' := 29) d_Tx_takeName_26 rfl (sd_Tx_refuse x0 2) m_lv rfl cv_Tx_refuse w_ml_Tx_123 rfl rfl (by decide) (Nat.le_of_ble_eq_true rfl) rfl rfl (fun v4 => ?_)
      exact sm_zretC d_Tx_takeName_29 rfl rfl
    · refine sm_aload_n (i := 0) (j := 0) (pc' := 18) d_Tx_takeName_17 rfl rfl rfl ?_
      refine sm_callVi (ci := 2) (x := x0) (av := []) (st := []) (mc := 0) (ms := 0) (pc' := 21) d_Tx_takeName_18 rfl (sd_Tx_isReserved x0) m_lv rfl cv_Tx_isReserved w_ml_Tx_134 rfl rfl (by decide) (Nat.le_of_ble_eq_true rfl) rfl rfl (fun v5 => ?_)
      refine sm_if_eq (tgt := 30) (pc' := 24) d_Tx_takeName_21 rfl rfl ?_ ?_
      · refine sm_iload_n (i := 1) (j := 1) (pc' := 31) d_Tx_takeName_30 rfl rfl rfl ?_
        refine sm_if_ne (tgt := 40) (pc' := 34) d_Tx_takeName_31 rfl rfl ?_ ?_
        · refine sm_aload_n (i := 0) (j := 0) (pc' := 41) d_Tx_takeName_40 rfl rfl rfl ?_
          refine sm_callVv (ci := 2) (x := x0) (av := []) (st := []) (mc := 0) (ms := 0) (pc' := 44) d_Tx_takeName_41 rfl (sd_Tx_advance x0) m_lv rfl cv_Tx_advance w_ml_Tx_31 rfl rfl (by decide) (Nat.le_of_ble_eq_true rfl) rfl rfl ?_
          refine sm_iconst (pc' := 45) d_Tx_takeName_44 rfl ic_1 ?_
          exact sm_zreturn d_Tx_takeName_45 rfl (by decide) rfl
        · refine sm_aload_n (i := 0) (j := 0) (pc' := 35) d_Tx_takeName_34 rfl rfl rfl (sm_iconst (pc' := 36) d_Tx_takeName_35 rfl ic_3 ?_)
          refine sm_callVi (ci := 2) (x := x0) (av := [.inl 3]) (st := []) (mc := 0) (ms := 0) (pc' := 39) d_Tx_takeName_36 rfl (sd_Tx_refuse x0 3) m_lv rfl cv_Tx_refuse w_ml_Tx_123 rfl rfl (by decide) (Nat.le_of_ble_eq_true rfl) rfl rfl (fun v6 => ?_)
          exact sm_zretC d_Tx_takeName_39 rfl rfl
      · refine sm_aload_n (i := 0) (j := 0) (pc' := 25) d_Tx_takeName_24 rfl rfl rfl (sm_iconst (pc' := 26) d_Tx_takeName_25 rfl ic_2 ?_)
        refine sm_callVi (ci := 2) (x := x0) (av := [.inl 2]) (st := []) (mc := 0) (ms := 0) (pc' := 29) d_Tx_takeName_26 rfl (sd_Tx_refuse x0 2) m_lv rfl cv_Tx_refuse w_ml_Tx_123 rfl rfl (by decide) (Nat.le_of_ble_eq_true rfl) rfl rfl (fun v7 => ?_)
        exact sm_zretC d_Tx_takeName_29 rfl rfl
theorem d_C_isWithin_0 : m_D k_C_isWithin 0 (.iload_n 0) 1 := (by decide +kernel : decode prog_1_method_25_code 0 = .ok (.iload_n 0, 1))
theorem d_C_isWithin_1 : m_D k_C_isWithin 1 (.iload_n 1) 1 := (by decide +kernel : decode prog_1_method_25_code 1 = .ok (.iload_n 1, 1))
theorem d_C_isWithin_2 : m_D k_C_isWithin 2 (.if_icmp .lt 12) 3 := (by decide +kernel : decode prog_1_method_25_code 2 = .ok (.if_icmp .lt 12, 3))
theorem d_C_isWithin_5 : m_D k_C_isWithin 5 (.iload_n 0) 1 := (by decide +kernel : decode prog_1_method_25_code 5 = .ok (.iload_n 0, 1))
theorem d_C_isWithin_6 : m_D k_C_isWithin 6 (.iload_n 2) 1 := (by decide +kernel : decode prog_1_method_25_code 6 = .ok (.iload_n 2, 1))
theorem d_C_isWithin_7 : m_D k_C_isWithin 7 (.if_icmp .gt 7) 3 := (by decide +kernel : decode prog_1_method_25_code 7 = .ok (.if_icmp .gt 7, 3))
theorem d_C_isWithin_10 : m_D k_C_isWithin 10 (.iconst 1) 1 := (by decide +kernel : decode prog_1_method_25_code 10 = .ok (.iconst 1, 1))
theorem d_C_isWithin_11 : m_D k_C_isWithin 11 (.goto 4) 3 := (by decide +kernel : decode prog_1_method_25_code 11 = .ok (.goto 4, 3))
theorem d_C_isWithin_14 : m_D k_C_isWithin 14 (.iconst 0) 1 := (by decide +kernel : decode prog_1_method_25_code 14 = .ok (.iconst 0, 1))
theorem d_C_isWithin_15 : m_D k_C_isWithin 15 (.ireturn) 1 := (by decide +kernel : decode prog_1_method_25_code 15 = .ok (.ireturn, 1))
def fn_C_isWithin (x0 : Int32) (x1 : Int32) (x2 : Int32) : mP Int32 :=
  if x0 < x1 then
    m_rt 0
  else
    if x2 < x0 then
      m_rt 0
    else
      m_rt 1
set_option maxHeartbeats 4000000 in
set_option maxRecDepth 100000 in
theorem sd_C_isWithin (x0 : Int32) (x1 : Int32) (x2 : Int32) : m_Sm k_C_isWithin 1 0 0 [.inl x0, .inl x1, .inl x2] (fn_C_isWithin x0 x1 x2) (fun b => some (.inl b)) := by
  refine ⟨Nat.le_of_ble_eq_true rfl, ?_⟩
  refine sm_iload_n (i := 0) (j := 0) (pc' := 1) d_C_isWithin_0 rfl rfl rfl (sm_iload_n (i := 1) (j := 1) (pc' := 2) d_C_isWithin_1 rfl rfl rfl ?_)
  refine sm_icmp_lt (tgt := 14) (pc' := 5) d_C_isWithin_2 rfl rfl ?_ ?_
  · refine sm_iconst (pc' := 15) d_C_isWithin_14 rfl ic_0 ?_
    exact sm_zreturn d_C_isWithin_15 rfl (by decide) rfl
  · refine sm_iload_n (i := 0) (j := 0) (pc' := 6) d_C_isWithin_5 rfl rfl rfl (sm_iload_n (i := 2) (j := 2) (pc' := 7) d_C_isWithin_6 rfl rfl rfl ?_)
    refine sm_icmp_gt (tgt := 14) (pc' := 10) d_C_isWithin_7 rfl rfl ?_ ?_
    · refine sm_iconst (pc' := 15) d_C_isWithin_14 rfl ic_0 ?_
      exact sm_zreturn d_C_isWithin_15 rfl (by decide) rfl
    · refine sm_iconst (pc' := 11) d_C_isWithin_10 rfl ic_1 (sm_goto (tgt := 15) d_C_isWithin_11 rfl ?_)
      exact sm_zreturn d_C_isWithin_15 rfl (by decide) rfl
theorem d_Tx_takeNumber_0 : m_D k_Tx_takeNumber 0 (.aload_n 0) 1 := (by decide +kernel : decode prog_10_method_15_code 0 = .ok (.aload_n 0, 1))
theorem d_Tx_takeNumber_1 : m_D k_Tx_takeNumber 1 (.getfield 50) 3 := (by decide +kernel : decode prog_10_method_15_code 1 = .ok (.getfield 50, 3))
theorem d_Tx_takeNumber_4 : m_D k_Tx_takeNumber 4 (.iconst 2) 1 := (by decide +kernel : decode prog_10_method_15_code 4 = .ok (.iconst 2, 1))
theorem d_Tx_takeNumber_5 : m_D k_Tx_takeNumber 5 (.if_icmp .eq 9) 3 := (by decide +kernel : decode prog_10_method_15_code 5 = .ok (.if_icmp .eq 9, 3))
theorem d_Tx_takeNumber_8 : m_D k_Tx_takeNumber 8 (.aload_n 0) 1 := (by decide +kernel : decode prog_10_method_15_code 8 = .ok (.aload_n 0, 1))
theorem d_Tx_takeNumber_9 : m_D k_Tx_takeNumber 9 (.iconst 2) 1 := (by decide +kernel : decode prog_10_method_15_code 9 = .ok (.iconst 2, 1))
theorem d_Tx_takeNumber_10 : m_D k_Tx_takeNumber 10 (.invokevirtual 123) 3 := (by decide +kernel : decode prog_10_method_15_code 10 = .ok (.invokevirtual 123, 3))
theorem d_Tx_takeNumber_13 : m_D k_Tx_takeNumber 13 (.ireturn) 1 := (by decide +kernel : decode prog_10_method_15_code 13 = .ok (.ireturn, 1))
theorem d_Tx_takeNumber_14 : m_D k_Tx_takeNumber 14 (.aload_n 0) 1 := (by decide +kernel : decode prog_10_method_15_code 14 = .ok (.aload_n 0, 1))
theorem d_Tx_takeNumber_15 : m_D k_Tx_takeNumber 15 (.getfield 47) 3 := (by decide +kernel : decode prog_10_method_15_code 15 = .ok (.getfield 47, 3))
theorem d_Tx_takeNumber_18 : m_D k_Tx_takeNumber 18 (.iload_n 1) 1 := (by decide +kernel : decode prog_10_method_15_code 18 = .ok (.iload_n 1, 1))
theorem d_Tx_takeNumber_19 : m_D k_Tx_takeNumber 19 (.iload_n 2) 1 := (by decide +kernel : decode prog_10_method_15_code 19 = .ok (.iload_n 2, 1))
theorem d_Tx_takeNumber_20 : m_D k_Tx_takeNumber 20 (.invokestatic 127) 3 := (by decide +kernel : decode prog_10_method_15_code 20 = .ok (.invokestatic 127, 3))
theorem d_Tx_takeNumber_23 : m_D k_Tx_takeNumber 23 (.ifCond .ne 9) 3 := (by decide +kernel : decode prog_10_method_15_code 23 = .ok (.ifCond .ne 9, 3))
theorem d_Tx_takeNumber_26 : m_D k_Tx_takeNumber 26 (.aload_n 0) 1 := (by decide +kernel : decode prog_10_method_15_code 26 = .ok (.aload_n 0, 1))
theorem d_Tx_takeNumber_27 : m_D k_Tx_takeNumber 27 (.iconst 4) 1 := (by decide +kernel : decode prog_10_method_15_code 27 = .ok (.iconst 4, 1))
theorem d_Tx_takeNumber_28 : m_D k_Tx_takeNumber 28 (.invokevirtual 123) 3 := (by decide +kernel : decode prog_10_method_15_code 28 = .ok (.invokevirtual 123, 3))
theorem d_Tx_takeNumber_31 : m_D k_Tx_takeNumber 31 (.ireturn) 1 := (by decide +kernel : decode prog_10_method_15_code 31 = .ok (.ireturn, 1))
theorem d_Tx_takeNumber_32 : m_D k_Tx_takeNumber 32 (.aload_n 0) 1 := (by decide +kernel : decode prog_10_method_15_code 32 = .ok (.aload_n 0, 1))
theorem d_Tx_takeNumber_33 : m_D k_Tx_takeNumber 33 (.aload_n 0) 1 := (by decide +kernel : decode prog_10_method_15_code 33 = .ok (.aload_n 0, 1))
theorem d_Tx_takeNumber_34 : m_D k_Tx_takeNumber 34 (.getfield 47) 3 := (by decide +kernel : decode prog_10_method_15_code 34 = .ok (.getfield 47, 3))
theorem d_Tx_takeNumber_37 : m_D k_Tx_takeNumber 37 (.putfield 131) 3 := (by decide +kernel : decode prog_10_method_15_code 37 = .ok (.putfield 131, 3))
theorem d_Tx_takeNumber_40 : m_D k_Tx_takeNumber 40 (.aload_n 0) 1 := (by decide +kernel : decode prog_10_method_15_code 40 = .ok (.aload_n 0, 1))
theorem d_Tx_takeNumber_41 : m_D k_Tx_takeNumber 41 (.invokevirtual 31) 3 := (by decide +kernel : decode prog_10_method_15_code 41 = .ok (.invokevirtual 31, 3))
theorem d_Tx_takeNumber_44 : m_D k_Tx_takeNumber 44 (.iconst 1) 1 := (by decide +kernel : decode prog_10_method_15_code 44 = .ok (.iconst 1, 1))
theorem d_Tx_takeNumber_45 : m_D k_Tx_takeNumber 45 (.ireturn) 1 := (by decide +kernel : decode prog_10_method_15_code 45 = .ok (.ireturn, 1))
def fn_Tx_takeNumber (x0 : Option mA) (x1 : Int32) (x2 : Int32) : mP Int32 :=
  m_th 2 x0 <|
  m_bd (m_gI 2 4 x0) fun v1 =>
  if v1 = 2 then
    m_bd (m_gI 2 8 x0) fun v2 =>
    m_bd (fn_C_isWithin v2 x1 x2) fun v3 =>
    if v3 = 0 then
      m_bd (fn_Tx_refuse x0 4) fun v5 =>
      m_bd (m_cz v5) fun _ => m_rt v5
    else
      m_bd (m_gI 2 8 x0) fun v4 =>
      m_bd (m_pI 2 9 x0 v4) fun _ =>
      m_bd (fn_Tx_advance x0) fun _ =>
      m_rt 1
  else
    m_bd (fn_Tx_refuse x0 2) fun v6 =>
    m_bd (m_cz v6) fun _ => m_rt v6
set_option maxHeartbeats 4000000 in
set_option maxRecDepth 100000 in
theorem sd_Tx_takeNumber (x0 : Option mA) (x1 : Int32) (x2 : Int32) : m_Sm k_Tx_takeNumber 4 0 0 [.inr (.inr x0), .inl x1, .inl x2] (fn_Tx_takeNumber x0 x1 x2) (fun b => some (.inl b)) := by
  refine ⟨Nat.le_of_ble_eq_true rfl, ?_⟩
  refine sm_th ?_
  refine sm_aload_n (i := 0) (j := 0) (pc' := 1) d_Tx_takeNumber_0 rfl rfl rfl ?_
  refine sm_getI (pc' := 4) d_Tx_takeNumber_1 rfl fl_Tx_50 rfl ⟨by decide, by decide⟩ (fun v1 => ?_)
  refine sm_iconst (pc' := 5) d_Tx_takeNumber_4 rfl ic_2 ?_
  refine sm_icmp_eq (tgt := 14) (pc' := 8) d_Tx_takeNumber_5 rfl rfl ?_ ?_
  · refine sm_aload_n (i := 0) (j := 0) (pc' := 15) d_Tx_takeNumber_14 rfl rfl rfl ?_
    refine sm_getI (pc' := 18) d_Tx_takeNumber_15 rfl fl_Tx_47 rfl ⟨by decide, by decide⟩ (fun v2 => ?_)
    refine sm_iload_n (i := 1) (j := 1) (pc' := 19) d_Tx_takeNumber_18 rfl rfl rfl (sm_iload_n (i := 2) (j := 2) (pc' := 20) d_Tx_takeNumber_19 rfl rfl rfl ?_)
    refine sm_callNi (host := "RustFamily") (av := [.inl v2, .inl x1, .inl x2]) (st := []) (mc := 0) (ms := 0) (pc' := 23) d_Tx_takeNumber_20 rfl (sd_C_isWithin v2 x1 x2) cs_C_isWithin (by decide) rfl rfl (by decide) (Nat.le_of_ble_eq_true rfl) rfl rfl (fun v3 => ?_)
    refine sm_if_ne (tgt := 32) (pc' := 26) d_Tx_takeNumber_23 rfl rfl ?_ ?_
    · refine sm_aload_n (i := 0) (j := 0) (pc' := 33) d_Tx_takeNumber_32 rfl rfl rfl (sm_aload_n (i := 0) (j := 0) (pc' := 34) d_Tx_takeNumber_33 rfl rfl rfl ?_)
      refine sm_getI (pc' := 37) d_Tx_takeNumber_34 rfl fl_Tx_47 rfl ⟨by decide, by decide⟩ (fun v4 => ?_)
      refine sm_putI (pc' := 40) d_Tx_takeNumber_37 rfl fl_Tx_131 (Or.inl rfl) rfl (sm_aload_n (i := 0) (j := 0) (pc' := 41) d_Tx_takeNumber_40 rfl rfl rfl ?_)
      refine sm_callVv (ci := 2) (x := x0) (av := []) (st := []) (mc := 0) (ms := 0) (pc' := 44) d_Tx_takeNumber_41 rfl (sd_Tx_advance x0) m_lv rfl cv_Tx_advance w_ml_Tx_31 rfl rfl (by decide) (Nat.le_of_ble_eq_true rfl) rfl rfl ?_
      refine sm_iconst (pc' := 45) d_Tx_takeNumber_44 rfl ic_1 ?_
      exact sm_zreturn d_Tx_takeNumber_45 rfl (by decide) rfl
    · refine sm_aload_n (i := 0) (j := 0) (pc' := 27) d_Tx_takeNumber_26 rfl rfl rfl (sm_iconst (pc' := 28) d_Tx_takeNumber_27 rfl ic_4 ?_)
      refine sm_callVi (ci := 2) (x := x0) (av := [.inl 4]) (st := []) (mc := 0) (ms := 0) (pc' := 31) d_Tx_takeNumber_28 rfl (sd_Tx_refuse x0 4) m_lv rfl cv_Tx_refuse w_ml_Tx_123 rfl rfl (by decide) (Nat.le_of_ble_eq_true rfl) rfl rfl (fun v5 => ?_)
      exact sm_zretC d_Tx_takeNumber_31 rfl rfl
  · refine sm_aload_n (i := 0) (j := 0) (pc' := 9) d_Tx_takeNumber_8 rfl rfl rfl (sm_iconst (pc' := 10) d_Tx_takeNumber_9 rfl ic_2 ?_)
    refine sm_callVi (ci := 2) (x := x0) (av := [.inl 2]) (st := []) (mc := 0) (ms := 0) (pc' := 13) d_Tx_takeNumber_10 rfl (sd_Tx_refuse x0 2) m_lv rfl cv_Tx_refuse w_ml_Tx_123 rfl rfl (by decide) (Nat.le_of_ble_eq_true rfl) rfl rfl (fun v6 => ?_)
    exact sm_zretC d_Tx_takeNumber_13 rfl rfl
theorem d_Re_takeLove_0 : m_D k_Re_takeLove 0 (.aload_n 0) 1 := (by decide +kernel : decode prog_8_method_10_code 0 = .ok (.aload_n 0, 1))
theorem d_Re_takeLove_1 : m_D k_Re_takeLove 1 (.invokevirtual 93) 3 := (by decide +kernel : decode prog_8_method_10_code 1 = .ok (.invokevirtual 93, 3))
theorem d_Re_takeLove_4 : m_D k_Re_takeLove 4 (.aload_n 1) 1 := (by decide +kernel : decode prog_8_method_10_code 4 = .ok (.aload_n 1, 1))
theorem d_Re_takeLove_5 : m_D k_Re_takeLove 5 (.aload_n 0) 1 := (by decide +kernel : decode prog_8_method_10_code 5 = .ok (.aload_n 0, 1))
theorem d_Re_takeLove_6 : m_D k_Re_takeLove 6 (.getfield 111) 3 := (by decide +kernel : decode prog_8_method_10_code 6 = .ok (.getfield 111, 3))
theorem d_Re_takeLove_9 : m_D k_Re_takeLove 9 (.invokevirtual 104) 3 := (by decide +kernel : decode prog_8_method_10_code 9 = .ok (.invokevirtual 104, 3))
theorem d_Re_takeLove_12 : m_D k_Re_takeLove 12 (.istore_n 2) 1 := (by decide +kernel : decode prog_8_method_10_code 12 = .ok (.istore_n 2, 1))
theorem d_Re_takeLove_13 : m_D k_Re_takeLove 13 (.aload_n 0) 1 := (by decide +kernel : decode prog_8_method_10_code 13 = .ok (.aload_n 0, 1))
theorem d_Re_takeLove_14 : m_D k_Re_takeLove 14 (.iload_n 2) 1 := (by decide +kernel : decode prog_8_method_10_code 14 = .ok (.iload_n 2, 1))
theorem d_Re_takeLove_15 : m_D k_Re_takeLove 15 (.iconst (-1)) 1 := (by decide +kernel : decode prog_8_method_10_code 15 = .ok (.iconst (-1), 1))
theorem d_Re_takeLove_16 : m_D k_Re_takeLove 16 (.if_icmp .eq 7) 3 := (by decide +kernel : decode prog_8_method_10_code 16 = .ok (.if_icmp .eq 7, 3))
theorem d_Re_takeLove_19 : m_D k_Re_takeLove 19 (.iconst 1) 1 := (by decide +kernel : decode prog_8_method_10_code 19 = .ok (.iconst 1, 1))
theorem d_Re_takeLove_20 : m_D k_Re_takeLove 20 (.goto 4) 3 := (by decide +kernel : decode prog_8_method_10_code 20 = .ok (.goto 4, 3))
theorem d_Re_takeLove_23 : m_D k_Re_takeLove 23 (.iconst 0) 1 := (by decide +kernel : decode prog_8_method_10_code 23 = .ok (.iconst 0, 1))
theorem d_Re_takeLove_24 : m_D k_Re_takeLove 24 (.invokevirtual 119) 3 := (by decide +kernel : decode prog_8_method_10_code 24 = .ok (.invokevirtual 119, 3))
theorem d_Re_takeLove_27 : m_D k_Re_takeLove 27 (.ifCond .ne 5) 3 := (by decide +kernel : decode prog_8_method_10_code 27 = .ok (.ifCond .ne 5, 3))
theorem d_Re_takeLove_30 : m_D k_Re_takeLove 30 (.iconst 0) 1 := (by decide +kernel : decode prog_8_method_10_code 30 = .ok (.iconst 0, 1))
theorem d_Re_takeLove_31 : m_D k_Re_takeLove 31 (.ireturn) 1 := (by decide +kernel : decode prog_8_method_10_code 31 = .ok (.ireturn, 1))
theorem d_Re_takeLove_32 : m_D k_Re_takeLove 32 (.aload_n 1) 1 := (by decide +kernel : decode prog_8_method_10_code 32 = .ok (.aload_n 1, 1))
theorem d_Re_takeLove_33 : m_D k_Re_takeLove 33 (.aload_n 0) 1 := (by decide +kernel : decode prog_8_method_10_code 33 = .ok (.aload_n 0, 1))
theorem d_Re_takeLove_34 : m_D k_Re_takeLove 34 (.getfield 111) 3 := (by decide +kernel : decode prog_8_method_10_code 34 = .ok (.getfield 111, 3))
theorem d_Re_takeLove_37 : m_D k_Re_takeLove 37 (.invokevirtual 108) 3 := (by decide +kernel : decode prog_8_method_10_code 37 = .ok (.invokevirtual 108, 3))
theorem d_Re_takeLove_40 : m_D k_Re_takeLove 40 (.istore_n 3) 1 := (by decide +kernel : decode prog_8_method_10_code 40 = .ok (.istore_n 3, 1))
theorem d_Re_takeLove_41 : m_D k_Re_takeLove 41 (.aload_n 0) 1 := (by decide +kernel : decode prog_8_method_10_code 41 = .ok (.aload_n 0, 1))
theorem d_Re_takeLove_42 : m_D k_Re_takeLove 42 (.iload_n 3) 1 := (by decide +kernel : decode prog_8_method_10_code 42 = .ok (.iload_n 3, 1))
theorem d_Re_takeLove_43 : m_D k_Re_takeLove 43 (.iconst (-1)) 1 := (by decide +kernel : decode prog_8_method_10_code 43 = .ok (.iconst (-1), 1))
theorem d_Re_takeLove_44 : m_D k_Re_takeLove 44 (.if_icmp .eq 7) 3 := (by decide +kernel : decode prog_8_method_10_code 44 = .ok (.if_icmp .eq 7, 3))
theorem d_Re_takeLove_47 : m_D k_Re_takeLove 47 (.iconst 1) 1 := (by decide +kernel : decode prog_8_method_10_code 47 = .ok (.iconst 1, 1))
theorem d_Re_takeLove_48 : m_D k_Re_takeLove 48 (.goto 4) 3 := (by decide +kernel : decode prog_8_method_10_code 48 = .ok (.goto 4, 3))
theorem d_Re_takeLove_51 : m_D k_Re_takeLove 51 (.iconst 0) 1 := (by decide +kernel : decode prog_8_method_10_code 51 = .ok (.iconst 0, 1))
theorem d_Re_takeLove_52 : m_D k_Re_takeLove 52 (.invokevirtual 119) 3 := (by decide +kernel : decode prog_8_method_10_code 52 = .ok (.invokevirtual 119, 3))
theorem d_Re_takeLove_55 : m_D k_Re_takeLove 55 (.ifCond .eq 20) 3 := (by decide +kernel : decode prog_8_method_10_code 55 = .ok (.ifCond .eq 20, 3))
theorem d_Re_takeLove_58 : m_D k_Re_takeLove 58 (.aload_n 0) 1 := (by decide +kernel : decode prog_8_method_10_code 58 = .ok (.aload_n 0, 1))
theorem d_Re_takeLove_59 : m_D k_Re_takeLove 59 (.iconst 0) 1 := (by decide +kernel : decode prog_8_method_10_code 59 = .ok (.iconst 0, 1))
theorem d_Re_takeLove_60 : m_D k_Re_takeLove 60 (.bipush 9) 2 := (by decide +kernel : decode prog_8_method_10_code 60 = .ok (.bipush 9, 2))
theorem d_Re_takeLove_62 : m_D k_Re_takeLove 62 (.invokevirtual 96) 3 := (by decide +kernel : decode prog_8_method_10_code 62 = .ok (.invokevirtual 96, 3))
theorem d_Re_takeLove_65 : m_D k_Re_takeLove 65 (.ifCond .eq 10) 3 := (by decide +kernel : decode prog_8_method_10_code 65 = .ok (.ifCond .eq 10, 3))
theorem d_Re_takeLove_68 : m_D k_Re_takeLove 68 (.aload_n 0) 1 := (by decide +kernel : decode prog_8_method_10_code 68 = .ok (.aload_n 0, 1))
theorem d_Re_takeLove_69 : m_D k_Re_takeLove 69 (.invokevirtual 100) 3 := (by decide +kernel : decode prog_8_method_10_code 69 = .ok (.invokevirtual 100, 3))
theorem d_Re_takeLove_72 : m_D k_Re_takeLove 72 (.ifCond .ne 5) 3 := (by decide +kernel : decode prog_8_method_10_code 72 = .ok (.ifCond .ne 5, 3))
theorem d_Re_takeLove_75 : m_D k_Re_takeLove 75 (.iconst 0) 1 := (by decide +kernel : decode prog_8_method_10_code 75 = .ok (.iconst 0, 1))
theorem d_Re_takeLove_76 : m_D k_Re_takeLove 76 (.ireturn) 1 := (by decide +kernel : decode prog_8_method_10_code 76 = .ok (.ireturn, 1))
theorem d_Re_takeLove_77 : m_D k_Re_takeLove 77 (.aload_n 1) 1 := (by decide +kernel : decode prog_8_method_10_code 77 = .ok (.aload_n 1, 1))
theorem d_Re_takeLove_78 : m_D k_Re_takeLove 78 (.getfield 142) 3 := (by decide +kernel : decode prog_8_method_10_code 78 = .ok (.getfield 142, 3))
theorem d_Re_takeLove_81 : m_D k_Re_takeLove 81 (.iload_n 2) 1 := (by decide +kernel : decode prog_8_method_10_code 81 = .ok (.iload_n 2, 1))
theorem d_Re_takeLove_82 : m_D k_Re_takeLove 82 (.aaload) 1 := (by decide +kernel : decode prog_8_method_10_code 82 = .ok (.aaload, 1))
theorem d_Re_takeLove_83 : m_D k_Re_takeLove 83 (.getfield 146) 3 := (by decide +kernel : decode prog_8_method_10_code 83 = .ok (.getfield 146, 3))
theorem d_Re_takeLove_86 : m_D k_Re_takeLove 86 (.iload_n 3) 1 := (by decide +kernel : decode prog_8_method_10_code 86 = .ok (.iload_n 3, 1))
theorem d_Re_takeLove_87 : m_D k_Re_takeLove 87 (.aload_n 0) 1 := (by decide +kernel : decode prog_8_method_10_code 87 = .ok (.aload_n 0, 1))
theorem d_Re_takeLove_88 : m_D k_Re_takeLove 88 (.getfield 83) 3 := (by decide +kernel : decode prog_8_method_10_code 88 = .ok (.getfield 83, 3))
theorem d_Re_takeLove_91 : m_D k_Re_takeLove 91 (.iastore) 1 := (by decide +kernel : decode prog_8_method_10_code 91 = .ok (.iastore, 1))
theorem d_Re_takeLove_92 : m_D k_Re_takeLove 92 (.iconst 1) 1 := (by decide +kernel : decode prog_8_method_10_code 92 = .ok (.iconst 1, 1))
theorem d_Re_takeLove_93 : m_D k_Re_takeLove 93 (.ireturn) 1 := (by decide +kernel : decode prog_8_method_10_code 93 = .ok (.ireturn, 1))
def fn_Re_takeLove (x0 : Option mA) (x1 : Option mA) : mP Int32 :=
  m_bd (fn_Tx_advance x0) fun _ =>
  m_bd (m_gJ 2 7 x0) fun v1 =>
  m_bd (fn_Fa_personNamed x1 v1) fun v2 =>
  m_bd (α := Int32) (
    if v2 = (-1) then
      m_rt 0
    else
      m_rt 1
    ) fun (t3 : Int32) =>
  m_bd (fn_Tx_takeName x0 t3) fun v4 =>
  if v4 = 0 then
    m_rt 0
  else
    m_bd (m_gJ 2 7 x0) fun v5 =>
    m_bd (fn_Fa_thingNamed x1 v5) fun v6 =>
    m_bd (α := Int32) (
      if v6 = (-1) then
        m_rt 0
      else
        m_rt 1
      ) fun (t7 : Int32) =>
    m_bd (fn_Tx_takeName x0 t7) fun v8 =>
    if v8 = 0 then
      m_rt 0
    else
      m_bd (fn_Tx_takeNumber x0 0 9) fun v9 =>
      if v9 = 0 then
        m_rt 0
      else
        m_bd (fn_Tx_takeEndSign x0) fun v10 =>
        if v10 = 0 then
          m_rt 0
        else
          m_bd (m_gR 3 7 x1) fun v11 =>
          m_bd (m_aR 6 v11 v2) fun v12 =>
          m_bd (m_gR 4 4 v12) fun v13 =>
          m_bd (m_gI 2 9 x0) fun v14 =>
          m_bd (m_tI 0 v13 v6 v14) fun _ =>
          m_rt 1
set_option maxHeartbeats 4000000 in
set_option maxRecDepth 100000 in
theorem sd_Re_takeLove (x0 : Option mA) (x1 : Option mA) : m_Sm k_Re_takeLove 9 0 0 [.inr (.inr x0), .inr (.inr x1)] (fn_Re_takeLove x0 x1) (fun b => some (.inl b)) := by
  refine ⟨Nat.le_of_ble_eq_true rfl, ?_⟩
  refine sm_aload_n (i := 0) (j := 0) (pc' := 1) d_Re_takeLove_0 rfl rfl rfl ?_
  refine sm_callVv (ci := 2) (x := x0) (av := []) (st := []) (mc := 0) (ms := 0) (pc' := 4) d_Re_takeLove_1 rfl (sd_Tx_advance x0) m_lv rfl cv_Tx_advance w_ml_Re_93 rfl rfl (by decide) (Nat.le_of_ble_eq_true rfl) rfl rfl ?_
  refine sm_aload_n (i := 1) (j := 1) (pc' := 5) d_Re_takeLove_4 rfl rfl rfl (sm_aload_n (i := 0) (j := 0) (pc' := 6) d_Re_takeLove_5 rfl rfl rfl ?_)
  refine sm_getJ (pc' := 9) d_Re_takeLove_6 rfl fl_Re_111 rfl rfl (fun v1 => ?_)
  refine sm_callVi (ci := 3) (x := x1) (av := [.inr (.inl v1)]) (st := []) (mc := 0) (ms := 0) (pc' := 12) d_Re_takeLove_9 rfl (sd_Fa_personNamed x1 v1) m_lv rfl cv_Fa_personNamed w_ml_Re_104 rfl rfl (by decide) (Nat.le_of_ble_eq_true rfl) rfl rfl (fun v2 => ?_)
  refine sm_istore_n (i := 2) (L' := [(2, .inl v2), (0, .inr (.inr x0)), (1, .inr (.inr x1))]) (pc' := 13) d_Re_takeLove_12 rfl rfl (Nat.le_of_ble_eq_true rfl) rfl (sm_aload_n (i := 0) (j := 1) (pc' := 14) d_Re_takeLove_13 rfl rfl rfl (sm_iload_n (i := 2) (j := 0) (pc' := 15) d_Re_takeLove_14 rfl rfl rfl (sm_iconst (pc' := 16) d_Re_takeLove_15 rfl ic_m1 ?_)))
  refine sm_bd (mid := fun (t3 : Int32) => .inl (24, [(0, .inr (.inr x0)), (1, .inr (.inr x1)), (2, .inl v2)], [.inl t3, .inr (.inr x0)])) ?_ (fun t3 => ?_)
  · refine sm_icmp_eq (tgt := 23) (pc' := 19) d_Re_takeLove_16 rfl rfl ?_ ?_
    · refine sm_iconst (pc' := 24) d_Re_takeLove_23 rfl ic_0 (sm_sub [1, 2, 0] rfl ?_)
      exact sm_rt rfl
    · refine sm_iconst (pc' := 20) d_Re_takeLove_19 rfl ic_1 (sm_goto (tgt := 24) d_Re_takeLove_20 rfl (sm_sub [1, 2, 0] rfl ?_))
      exact sm_rt rfl
  · refine sm_callVi (ci := 2) (x := x0) (av := [.inl t3]) (st := []) (mc := 0) (ms := 0) (pc' := 27) d_Re_takeLove_24 rfl (sd_Tx_takeName x0 t3) m_lv rfl cv_Tx_takeName w_ml_Re_119 rfl rfl (by decide) (Nat.le_of_ble_eq_true rfl) rfl rfl (fun v4 => ?_)
    refine sm_if_ne (tgt := 32) (pc' := 30) d_Re_takeLove_27 rfl rfl ?_ ?_
    · refine sm_aload_n (i := 1) (j := 1) (pc' := 33) d_Re_takeLove_32 rfl rfl rfl (sm_aload_n (i := 0) (j := 0) (pc' := 34) d_Re_takeLove_33 rfl rfl rfl ?_)
      refine sm_getJ (pc' := 37) d_Re_takeLove_34 rfl fl_Re_111 rfl rfl (fun v5 => ?_)
      refine sm_callVi (ci := 3) (x := x1) (av := [.inr (.inl v5)]) (st := []) (mc := 0) (ms := 0) (pc' := 40) d_Re_takeLove_37 rfl (sd_Fa_thingNamed x1 v5) m_lv rfl cv_Fa_thingNamed w_ml_Re_108 rfl rfl (by decide) (Nat.le_of_ble_eq_true rfl) rfl rfl (fun v6 => ?_)
      refine sm_istore_n (i := 3) (L' := [(3, .inl v6), (0, .inr (.inr x0)), (1, .inr (.inr x1)), (2, .inl v2)]) (pc' := 41) d_Re_takeLove_40 rfl rfl (Nat.le_of_ble_eq_true rfl) rfl (sm_aload_n (i := 0) (j := 1) (pc' := 42) d_Re_takeLove_41 rfl rfl rfl (sm_iload_n (i := 3) (j := 0) (pc' := 43) d_Re_takeLove_42 rfl rfl rfl (sm_iconst (pc' := 44) d_Re_takeLove_43 rfl ic_m1 ?_)))
      refine sm_bd (mid := fun (t7 : Int32) => .inl (52, [(0, .inr (.inr x0)), (1, .inr (.inr x1)), (2, .inl v2), (3, .inl v6)], [.inl t7, .inr (.inr x0)])) ?_ (fun t7 => ?_)
      · refine sm_icmp_eq (tgt := 51) (pc' := 47) d_Re_takeLove_44 rfl rfl ?_ ?_
        · refine sm_iconst (pc' := 52) d_Re_takeLove_51 rfl ic_0 (sm_sub [1, 2, 3, 0] rfl ?_)
          exact sm_rt rfl
        · refine sm_iconst (pc' := 48) d_Re_takeLove_47 rfl ic_1 (sm_goto (tgt := 52) d_Re_takeLove_48 rfl (sm_sub [1, 2, 3, 0] rfl ?_))
          exact sm_rt rfl
      · refine sm_callVi (ci := 2) (x := x0) (av := [.inl t7]) (st := []) (mc := 0) (ms := 0) (pc' := 55) d_Re_takeLove_52 rfl (sd_Tx_takeName x0 t7) m_lv rfl cv_Tx_takeName w_ml_Re_119 rfl rfl (by decide) (Nat.le_of_ble_eq_true rfl) rfl rfl (fun v8 => ?_)
        refine sm_if_eq (tgt := 75) (pc' := 58) d_Re_takeLove_55 rfl rfl ?_ ?_
        · refine sm_iconst (pc' := 76) d_Re_takeLove_75 rfl ic_0 ?_
          exact sm_zreturn d_Re_takeLove_76 rfl (by decide) rfl
        · refine sm_aload_n (i := 0) (j := 0) (pc' := 59) d_Re_takeLove_58 rfl rfl rfl (sm_iconst (pc' := 60) d_Re_takeLove_59 rfl ic_0 (sm_bipush (pc' := 62) d_Re_takeLove_60 rfl ib_9 ?_))
          refine sm_callVi (ci := 2) (x := x0) (av := [.inl 0, .inl 9]) (st := []) (mc := 0) (ms := 0) (pc' := 65) d_Re_takeLove_62 rfl (sd_Tx_takeNumber x0 0 9) m_lv rfl cv_Tx_takeNumber w_ml_Re_96 rfl rfl (by decide) (Nat.le_of_ble_eq_true rfl) rfl rfl (fun v9 => ?_)
          refine sm_if_eq (tgt := 75) (pc' := 68) d_Re_takeLove_65 rfl rfl ?_ ?_
          · refine sm_iconst (pc' := 76) d_Re_takeLove_75 rfl ic_0 ?_
            exact sm_zreturn d_Re_takeLove_76 rfl (by decide) rfl
          · refine sm_aload_n (i := 0) (j := 0) (pc' := 69) d_Re_takeLove_68 rfl rfl rfl ?_
            refine sm_callVi (ci := 2) (x := x0) (av := []) (st := []) (mc := 0) (ms := 0) (pc' := 72) d_Re_takeLove_69 rfl (sd_Tx_takeEndSign x0) m_lv rfl cv_Tx_takeEndSign w_ml_Re_100 rfl rfl (by decide) (Nat.le_of_ble_eq_true rfl) rfl rfl (fun v10 => ?_)
            refine sm_if_ne (tgt := 77) (pc' := 75) d_Re_takeLove_72 rfl rfl ?_ ?_
            · refine sm_aload_n (i := 1) (j := 1) (pc' := 78) d_Re_takeLove_77 rfl rfl rfl ?_
              refine sm_getR (pc' := 81) d_Re_takeLove_78 rfl fl_Re_142 rfl rfl (fun v11 => ?_)
              refine sm_iload_n (i := 2) (j := 2) (pc' := 82) d_Re_takeLove_81 rfl rfl rfl ?_
              refine sm_aald (t := 6) ⟨by decide, by decide⟩ rfl (pc' := 83) d_Re_takeLove_82 rfl (fun v12 => ?_)
              refine sm_getR (pc' := 86) d_Re_takeLove_83 rfl fl_Re_146 rfl rfl (fun v13 => ?_)
              refine sm_iload_n (i := 3) (j := 3) (pc' := 87) d_Re_takeLove_86 rfl rfl rfl (sm_aload_n (i := 0) (j := 0) (pc' := 88) d_Re_takeLove_87 rfl rfl rfl ?_)
              refine sm_getI (pc' := 91) d_Re_takeLove_88 rfl fl_Re_83 rfl ⟨by decide, by decide⟩ (fun v14 => ?_)
              refine sm_iast (pc' := 92) d_Re_takeLove_91 rfl (sm_iconst (pc' := 93) d_Re_takeLove_92 rfl ic_1 ?_)
              exact sm_zreturn d_Re_takeLove_93 rfl (by decide) rfl
            · refine sm_iconst (pc' := 76) d_Re_takeLove_75 rfl ic_0 ?_
              exact sm_zreturn d_Re_takeLove_76 rfl (by decide) rfl
    · refine sm_iconst (pc' := 31) d_Re_takeLove_30 rfl ic_0 ?_
      exact sm_zreturn d_Re_takeLove_31 rfl (by decide) rfl
theorem d_Fa_addPerson_0 : m_D k_Fa_addPerson 0 (.aload_n 0) 1 := (by decide +kernel : decode prog_3_method_3_code 0 = .ok (.aload_n 0, 1))
theorem d_Fa_addPerson_1 : m_D k_Fa_addPerson 1 (.getfield 26) 3 := (by decide +kernel : decode prog_3_method_3_code 1 = .ok (.getfield 26, 3))
theorem d_Fa_addPerson_4 : m_D k_Fa_addPerson 4 (.aload_n 0) 1 := (by decide +kernel : decode prog_3_method_3_code 4 = .ok (.aload_n 0, 1))
theorem d_Fa_addPerson_5 : m_D k_Fa_addPerson 5 (.getfield 45) 3 := (by decide +kernel : decode prog_3_method_3_code 5 = .ok (.getfield 45, 3))
theorem d_Fa_addPerson_8 : m_D k_Fa_addPerson 8 (.aaload) 1 := (by decide +kernel : decode prog_3_method_3_code 8 = .ok (.aaload, 1))
theorem d_Fa_addPerson_9 : m_D k_Fa_addPerson 9 (.astore 5) 2 := (by decide +kernel : decode prog_3_method_3_code 9 = .ok (.astore 5, 2))
theorem d_Fa_addPerson_11 : m_D k_Fa_addPerson 11 (.aload 5) 2 := (by decide +kernel : decode prog_3_method_3_code 11 = .ok (.aload 5, 2))
theorem d_Fa_addPerson_13 : m_D k_Fa_addPerson 13 (.lload_n 1) 1 := (by decide +kernel : decode prog_3_method_3_code 13 = .ok (.lload_n 1, 1))
theorem d_Fa_addPerson_14 : m_D k_Fa_addPerson 14 (.putfield 61) 3 := (by decide +kernel : decode prog_3_method_3_code 14 = .ok (.putfield 61, 3))
theorem d_Fa_addPerson_17 : m_D k_Fa_addPerson 17 (.aload 5) 2 := (by decide +kernel : decode prog_3_method_3_code 17 = .ok (.aload 5, 2))
theorem d_Fa_addPerson_19 : m_D k_Fa_addPerson 19 (.iload_n 3) 1 := (by decide +kernel : decode prog_3_method_3_code 19 = .ok (.iload_n 3, 1))
theorem d_Fa_addPerson_20 : m_D k_Fa_addPerson 20 (.putfield 65) 3 := (by decide +kernel : decode prog_3_method_3_code 20 = .ok (.putfield 65, 3))
theorem d_Fa_addPerson_23 : m_D k_Fa_addPerson 23 (.aload 5) 2 := (by decide +kernel : decode prog_3_method_3_code 23 = .ok (.aload 5, 2))
theorem d_Fa_addPerson_25 : m_D k_Fa_addPerson 25 (.iload 4) 2 := (by decide +kernel : decode prog_3_method_3_code 25 = .ok (.iload 4, 2))
theorem d_Fa_addPerson_27 : m_D k_Fa_addPerson 27 (.putfield 68) 3 := (by decide +kernel : decode prog_3_method_3_code 27 = .ok (.putfield 68, 3))
theorem d_Fa_addPerson_30 : m_D k_Fa_addPerson 30 (.aload 5) 2 := (by decide +kernel : decode prog_3_method_3_code 30 = .ok (.aload 5, 2))
theorem d_Fa_addPerson_32 : m_D k_Fa_addPerson 32 (.iconst 1) 1 := (by decide +kernel : decode prog_3_method_3_code 32 = .ok (.iconst 1, 1))
theorem d_Fa_addPerson_33 : m_D k_Fa_addPerson 33 (.putfield 72) 3 := (by decide +kernel : decode prog_3_method_3_code 33 = .ok (.putfield 72, 3))
theorem d_Fa_addPerson_36 : m_D k_Fa_addPerson 36 (.aload 5) 2 := (by decide +kernel : decode prog_3_method_3_code 36 = .ok (.aload 5, 2))
theorem d_Fa_addPerson_38 : m_D k_Fa_addPerson 38 (.getfield 75) 3 := (by decide +kernel : decode prog_3_method_3_code 38 = .ok (.getfield 75, 3))
theorem d_Fa_addPerson_41 : m_D k_Fa_addPerson 41 (.iconst 0) 1 := (by decide +kernel : decode prog_3_method_3_code 41 = .ok (.iconst 0, 1))
theorem d_Fa_addPerson_42 : m_D k_Fa_addPerson 42 (.invokestatic 79) 3 := (by decide +kernel : decode prog_3_method_3_code 42 = .ok (.invokestatic 79, 3))
theorem d_Fa_addPerson_45 : m_D k_Fa_addPerson 45 (.aload_n 0) 1 := (by decide +kernel : decode prog_3_method_3_code 45 = .ok (.aload_n 0, 1))
theorem d_Fa_addPerson_46 : m_D k_Fa_addPerson 46 (.dup) 1 := (by decide +kernel : decode prog_3_method_3_code 46 = .ok (.dup, 1))
theorem d_Fa_addPerson_47 : m_D k_Fa_addPerson 47 (.getfield 45) 3 := (by decide +kernel : decode prog_3_method_3_code 47 = .ok (.getfield 45, 3))
theorem d_Fa_addPerson_50 : m_D k_Fa_addPerson 50 (.iconst 1) 1 := (by decide +kernel : decode prog_3_method_3_code 50 = .ok (.iconst 1, 1))
theorem d_Fa_addPerson_51 : m_D k_Fa_addPerson 51 (.iadd) 1 := (by decide +kernel : decode prog_3_method_3_code 51 = .ok (.iadd, 1))
theorem d_Fa_addPerson_52 : m_D k_Fa_addPerson 52 (.putfield 45) 3 := (by decide +kernel : decode prog_3_method_3_code 52 = .ok (.putfield 45, 3))
theorem d_Fa_addPerson_55 : m_D k_Fa_addPerson 55 (.return_) 1 := (by decide +kernel : decode prog_3_method_3_code 55 = .ok (.return_, 1))
def fn_Fa_addPerson (x0 : Option mA) (x1 : Int64) (x3 : Int32) (x4 : Int32) : mP Unit :=
  m_th 3 x0 <|
  m_bd (m_gR 3 7 x0) fun v1 =>
  m_bd (m_gI 3 0 x0) fun v2 =>
  m_bd (m_aR 6 v1 v2) fun v3 =>
  m_bd (m_pJ 4 0 v3 x1) fun _ =>
  m_bd (m_pI 4 1 v3 x3) fun _ =>
  m_bd (m_pZ 4 2 v3 x4) fun _ =>
  m_bd (m_pZ 4 3 v3 1) fun _ =>
  m_bd (m_gR 4 4 v3) fun v4 =>
  m_bd (fn_JA_fill_aII v4 0) fun _ =>
  m_bd (m_gI 3 0 x0) fun v5 =>
  m_bd (m_pI 3 0 x0 (v5 + 1)) fun _ =>
  m_rt ()
set_option maxHeartbeats 4000000 in
set_option maxRecDepth 100000 in
theorem sd_Fa_addPerson (x0 : Option mA) (x1 : Int64) (x3 : Int32) (x4 : Int32) : m_Sm k_Fa_addPerson 2 0 0 [.inr (.inr x0), .inr (.inl x1), .inl x3, .inl x4] (fn_Fa_addPerson x0 x1 x3 x4) (fun _ => none) := by
  refine ⟨Nat.le_of_ble_eq_true rfl, ?_⟩
  refine sm_th ?_
  refine sm_aload_n (i := 0) (j := 0) (pc' := 1) d_Fa_addPerson_0 rfl rfl rfl ?_
  refine sm_getR (pc' := 4) d_Fa_addPerson_1 rfl fl_Fa_26 rfl rfl (fun v1 => ?_)
  refine sm_aload_n (i := 0) (j := 0) (pc' := 5) d_Fa_addPerson_4 rfl rfl rfl ?_
  refine sm_getI (pc' := 8) d_Fa_addPerson_5 rfl fl_Fa_45 rfl ⟨by decide, by decide⟩ (fun v2 => ?_)
  refine sm_aald (t := 6) ⟨by decide, by decide⟩ rfl (pc' := 9) d_Fa_addPerson_8 rfl (fun v3 => ?_)
  refine sm_astore (L' := [(5, .inr (.inr v3)), (0, .inr (.inr x0)), (1, .inr (.inl x1)), (3, .inl x3), (4, .inl x4)]) (pc' := 11) d_Fa_addPerson_9 rfl (Nat.le_of_ble_eq_true rfl) rfl (sm_aload (j := 0) (pc' := 13) d_Fa_addPerson_11 rfl rfl (sm_lload_n (i := 1) (j := 2) (pc' := 14) d_Fa_addPerson_13 rfl rfl rfl (sm_putJ (pc' := 17) d_Fa_addPerson_14 rfl fl_Fa_61 (Or.inl rfl) rfl (sm_aload (j := 0) (pc' := 19) d_Fa_addPerson_17 rfl rfl (sm_iload_n (i := 3) (j := 3) (pc' := 20) d_Fa_addPerson_19 rfl rfl rfl (sm_putI (pc' := 23) d_Fa_addPerson_20 rfl fl_Fa_65 (Or.inl rfl) rfl (sm_aload (j := 0) (pc' := 25) d_Fa_addPerson_23 rfl rfl (sm_iload (j := 4) (pc' := 27) d_Fa_addPerson_25 rfl rfl (sm_putZ (pc' := 30) d_Fa_addPerson_27 rfl fl_Fa_68 (Or.inl rfl) rfl ?_)))))))))
  refine sm_aload (j := 0) (pc' := 32) d_Fa_addPerson_30 rfl rfl (sm_iconst (pc' := 33) d_Fa_addPerson_32 rfl ic_1 (sm_putZ (pc' := 36) d_Fa_addPerson_33 rfl fl_Fa_72 (Or.inl rfl) rfl (sm_aload (j := 0) (pc' := 38) d_Fa_addPerson_36 rfl rfl ?_)))
  refine sm_getR (pc' := 41) d_Fa_addPerson_38 rfl fl_Fa_75 rfl rfl (fun v4 => ?_)
  refine sm_iconst (pc' := 42) d_Fa_addPerson_41 rfl ic_0 ?_
  refine sm_callSv (av := [.inr (.inr v4), .inl 0]) (st := []) (mc := 0) (ms := 0) (pc' := 45) d_Fa_addPerson_42 rfl (sd_JA_fill_aII v4 0) cs_JA_fill_aII w_ml_Fa_79 rfl rfl (by decide) (Nat.le_of_ble_eq_true rfl) rfl rfl ?_
  refine sm_aload_n (i := 0) (j := 1) (pc' := 46) d_Fa_addPerson_45 rfl rfl rfl (sm_dup (pc' := 47) d_Fa_addPerson_46 rfl rfl ?_)
  refine sm_getI (pc' := 50) d_Fa_addPerson_47 rfl fl_Fa_45 rfl ⟨by decide, by decide⟩ (fun v5 => ?_)
  refine sm_iconst (pc' := 51) d_Fa_addPerson_50 rfl ic_1 (sm_iadd (pc' := 52) d_Fa_addPerson_51 rfl (sm_putI (pc' := 55) d_Fa_addPerson_52 rfl fl_Fa_45 (Or.inl rfl) rfl ?_))
  exact sm_return d_Fa_addPerson_55 rfl rfl
theorem d_Re_isNew_0 : m_D k_Re_isNew 0 (.aload_n 0) 1 := (by decide +kernel : decode prog_8_method_7_code 0 = .ok (.aload_n 0, 1))
theorem d_Re_isNew_1 : m_D k_Re_isNew 1 (.lload_n 1) 1 := (by decide +kernel : decode prog_8_method_7_code 1 = .ok (.lload_n 1, 1))
theorem d_Re_isNew_2 : m_D k_Re_isNew 2 (.invokevirtual 104) 3 := (by decide +kernel : decode prog_8_method_7_code 2 = .ok (.invokevirtual 104, 3))
theorem d_Re_isNew_5 : m_D k_Re_isNew 5 (.iconst (-1)) 1 := (by decide +kernel : decode prog_8_method_7_code 5 = .ok (.iconst (-1), 1))
theorem d_Re_isNew_6 : m_D k_Re_isNew 6 (.if_icmp .ne 16) 3 := (by decide +kernel : decode prog_8_method_7_code 6 = .ok (.if_icmp .ne 16, 3))
theorem d_Re_isNew_9 : m_D k_Re_isNew 9 (.aload_n 0) 1 := (by decide +kernel : decode prog_8_method_7_code 9 = .ok (.aload_n 0, 1))
theorem d_Re_isNew_10 : m_D k_Re_isNew 10 (.lload_n 1) 1 := (by decide +kernel : decode prog_8_method_7_code 10 = .ok (.lload_n 1, 1))
theorem d_Re_isNew_11 : m_D k_Re_isNew 11 (.invokevirtual 108) 3 := (by decide +kernel : decode prog_8_method_7_code 11 = .ok (.invokevirtual 108, 3))
theorem d_Re_isNew_14 : m_D k_Re_isNew 14 (.iconst (-1)) 1 := (by decide +kernel : decode prog_8_method_7_code 14 = .ok (.iconst (-1), 1))
theorem d_Re_isNew_15 : m_D k_Re_isNew 15 (.if_icmp .ne 7) 3 := (by decide +kernel : decode prog_8_method_7_code 15 = .ok (.if_icmp .ne 7, 3))
theorem d_Re_isNew_18 : m_D k_Re_isNew 18 (.iconst 1) 1 := (by decide +kernel : decode prog_8_method_7_code 18 = .ok (.iconst 1, 1))
theorem d_Re_isNew_19 : m_D k_Re_isNew 19 (.goto 4) 3 := (by decide +kernel : decode prog_8_method_7_code 19 = .ok (.goto 4, 3))
theorem d_Re_isNew_22 : m_D k_Re_isNew 22 (.iconst 0) 1 := (by decide +kernel : decode prog_8_method_7_code 22 = .ok (.iconst 0, 1))
theorem d_Re_isNew_23 : m_D k_Re_isNew 23 (.ireturn) 1 := (by decide +kernel : decode prog_8_method_7_code 23 = .ok (.ireturn, 1))
def fn_Re_isNew (x0 : Option mA) (x1 : Int64) : mP Int32 :=
  m_bd (fn_Fa_personNamed x0 x1) fun v1 =>
  if v1 = (-1) then
    m_bd (fn_Fa_thingNamed x0 x1) fun v2 =>
    if v2 = (-1) then
      m_rt 1
    else
      m_rt 0
  else
    m_rt 0
set_option maxHeartbeats 4000000 in
set_option maxRecDepth 100000 in
theorem sd_Re_isNew (x0 : Option mA) (x1 : Int64) : m_Sm k_Re_isNew 2 0 0 [.inr (.inr x0), .inr (.inl x1)] (fn_Re_isNew x0 x1) (fun b => some (.inl b)) := by
  refine ⟨Nat.le_of_ble_eq_true rfl, ?_⟩
  refine sm_aload_n (i := 0) (j := 0) (pc' := 1) d_Re_isNew_0 rfl rfl rfl (sm_lload_n (i := 1) (j := 1) (pc' := 2) d_Re_isNew_1 rfl rfl rfl ?_)
  refine sm_callVi (ci := 3) (x := x0) (av := [.inr (.inl x1)]) (st := []) (mc := 0) (ms := 0) (pc' := 5) d_Re_isNew_2 rfl (sd_Fa_personNamed x0 x1) m_lv rfl cv_Fa_personNamed w_ml_Re_104 rfl rfl (by decide) (Nat.le_of_ble_eq_true rfl) rfl rfl (fun v1 => ?_)
  refine sm_iconst (pc' := 6) d_Re_isNew_5 rfl ic_m1 ?_
  refine sm_icmp_ne (tgt := 22) (pc' := 9) d_Re_isNew_6 rfl rfl ?_ ?_
  · refine sm_iconst (pc' := 23) d_Re_isNew_22 rfl ic_0 ?_
    exact sm_zreturn d_Re_isNew_23 rfl (by decide) rfl
  · refine sm_aload_n (i := 0) (j := 0) (pc' := 10) d_Re_isNew_9 rfl rfl rfl (sm_lload_n (i := 1) (j := 1) (pc' := 11) d_Re_isNew_10 rfl rfl rfl ?_)
    refine sm_callVi (ci := 3) (x := x0) (av := [.inr (.inl x1)]) (st := []) (mc := 0) (ms := 0) (pc' := 14) d_Re_isNew_11 rfl (sd_Fa_thingNamed x0 x1) m_lv rfl cv_Fa_thingNamed w_ml_Re_108 rfl rfl (by decide) (Nat.le_of_ble_eq_true rfl) rfl rfl (fun v2 => ?_)
    refine sm_iconst (pc' := 15) d_Re_isNew_14 rfl ic_m1 ?_
    refine sm_icmp_ne (tgt := 22) (pc' := 18) d_Re_isNew_15 rfl rfl ?_ ?_
    · refine sm_iconst (pc' := 23) d_Re_isNew_22 rfl ic_0 ?_
      exact sm_zreturn d_Re_isNew_23 rfl (by decide) rfl
    · refine sm_iconst (pc' := 19) d_Re_isNew_18 rfl ic_1 (sm_goto (tgt := 23) d_Re_isNew_19 rfl ?_)
      exact sm_zreturn d_Re_isNew_23 rfl (by decide) rfl
theorem d_Tx_takeWord_0 : m_D k_Tx_takeWord 0 (.aload_n 0) 1 := (by decide +kernel : decode prog_10_method_13_code 0 = .ok (.aload_n 0, 1))
theorem d_Tx_takeWord_1 : m_D k_Tx_takeWord 1 (.aload_n 1) 1 := (by decide +kernel : decode prog_10_method_13_code 1 = .ok (.aload_n 1, 1))
theorem d_Tx_takeWord_2 : m_D k_Tx_takeWord 2 (.invokevirtual 79) 3 := (by decide +kernel : decode prog_10_method_13_code 2 = .ok (.invokevirtual 79, 3))
theorem d_Tx_takeWord_5 : m_D k_Tx_takeWord 5 (.ifCond .ne 9) 3 := (by decide +kernel : decode prog_10_method_13_code 5 = .ok (.ifCond .ne 9, 3))
theorem d_Tx_takeWord_8 : m_D k_Tx_takeWord 8 (.aload_n 0) 1 := (by decide +kernel : decode prog_10_method_13_code 8 = .ok (.aload_n 0, 1))
theorem d_Tx_takeWord_9 : m_D k_Tx_takeWord 9 (.iconst 2) 1 := (by decide +kernel : decode prog_10_method_13_code 9 = .ok (.iconst 2, 1))
theorem d_Tx_takeWord_10 : m_D k_Tx_takeWord 10 (.invokevirtual 123) 3 := (by decide +kernel : decode prog_10_method_13_code 10 = .ok (.invokevirtual 123, 3))
theorem d_Tx_takeWord_13 : m_D k_Tx_takeWord 13 (.ireturn) 1 := (by decide +kernel : decode prog_10_method_13_code 13 = .ok (.ireturn, 1))
theorem d_Tx_takeWord_14 : m_D k_Tx_takeWord 14 (.aload_n 0) 1 := (by decide +kernel : decode prog_10_method_13_code 14 = .ok (.aload_n 0, 1))
theorem d_Tx_takeWord_15 : m_D k_Tx_takeWord 15 (.invokevirtual 31) 3 := (by decide +kernel : decode prog_10_method_13_code 15 = .ok (.invokevirtual 31, 3))
theorem d_Tx_takeWord_18 : m_D k_Tx_takeWord 18 (.iconst 1) 1 := (by decide +kernel : decode prog_10_method_13_code 18 = .ok (.iconst 1, 1))
theorem d_Tx_takeWord_19 : m_D k_Tx_takeWord 19 (.ireturn) 1 := (by decide +kernel : decode prog_10_method_13_code 19 = .ok (.ireturn, 1))
def fn_Tx_takeWord (x0 : Option mA) (x1 : Option mA) : mP Int32 :=
  m_th 2 x0 <|
  m_bd (fn_Tx_is x0 x1) fun v1 =>
  if v1 = 0 then
    m_bd (fn_Tx_refuse x0 2) fun v2 =>
    m_bd (m_cz v2) fun _ => m_rt v2
  else
    m_bd (fn_Tx_advance x0) fun _ =>
    m_rt 1
set_option maxHeartbeats 4000000 in
set_option maxRecDepth 100000 in
theorem sd_Tx_takeWord (x0 : Option mA) (x1 : Option mA) : m_Sm k_Tx_takeWord 7 0 0 [.inr (.inr x0), .inr (.inr x1)] (fn_Tx_takeWord x0 x1) (fun b => some (.inl b)) := by
  refine ⟨Nat.le_of_ble_eq_true rfl, ?_⟩
  refine sm_th ?_
  refine sm_aload_n (i := 0) (j := 0) (pc' := 1) d_Tx_takeWord_0 rfl rfl rfl (sm_aload_n (i := 1) (j := 1) (pc' := 2) d_Tx_takeWord_1 rfl rfl rfl ?_)
  refine sm_callVi (ci := 2) (x := x0) (av := [.inr (.inr x1)]) (st := []) (mc := 0) (ms := 0) (pc' := 5) d_Tx_takeWord_2 rfl (sd_Tx_is x0 x1) m_lv rfl cv_Tx_is w_ml_Tx_79 rfl rfl (by decide) (Nat.le_of_ble_eq_true rfl) rfl rfl (fun v1 => ?_)
  refine sm_if_ne (tgt := 14) (pc' := 8) d_Tx_takeWord_5 rfl rfl ?_ ?_
  · refine sm_aload_n (i := 0) (j := 0) (pc' := 15) d_Tx_takeWord_14 rfl rfl rfl ?_
    refine sm_callVv (ci := 2) (x := x0) (av := []) (st := []) (mc := 0) (ms := 0) (pc' := 18) d_Tx_takeWord_15 rfl (sd_Tx_advance x0) m_lv rfl cv_Tx_advance w_ml_Tx_31 rfl rfl (by decide) (Nat.le_of_ble_eq_true rfl) rfl rfl ?_
    refine sm_iconst (pc' := 19) d_Tx_takeWord_18 rfl ic_1 ?_
    exact sm_zreturn d_Tx_takeWord_19 rfl (by decide) rfl
  · refine sm_aload_n (i := 0) (j := 0) (pc' := 9) d_Tx_takeWord_8 rfl rfl rfl (sm_iconst (pc' := 10) d_Tx_takeWord_9 rfl ic_2 ?_)
    refine sm_callVi (ci := 2) (x := x0) (av := [.inl 2]) (st := []) (mc := 0) (ms := 0) (pc' := 13) d_Tx_takeWord_10 rfl (sd_Tx_refuse x0 2) m_lv rfl cv_Tx_refuse w_ml_Tx_123 rfl rfl (by decide) (Nat.le_of_ble_eq_true rfl) rfl rfl (fun v2 => ?_)
    exact sm_zretC d_Tx_takeWord_13 rfl rfl
theorem d_Re_takePerson_0 : m_D k_Re_takePerson 0 (.aload_n 1) 1 := (by decide +kernel : decode prog_8_method_8_code 0 = .ok (.aload_n 1, 1))
theorem d_Re_takePerson_1 : m_D k_Re_takePerson 1 (.getfield 47) 3 := (by decide +kernel : decode prog_8_method_8_code 1 = .ok (.getfield 47, 3))
theorem d_Re_takePerson_4 : m_D k_Re_takePerson 4 (.bipush 6) 2 := (by decide +kernel : decode prog_8_method_8_code 4 = .ok (.bipush 6, 2))
theorem d_Re_takePerson_6 : m_D k_Re_takePerson 6 (.if_icmp .lt 10) 3 := (by decide +kernel : decode prog_8_method_8_code 6 = .ok (.if_icmp .lt 10, 3))
theorem d_Re_takePerson_9 : m_D k_Re_takePerson 9 (.aload_n 0) 1 := (by decide +kernel : decode prog_8_method_8_code 9 = .ok (.aload_n 0, 1))
theorem d_Re_takePerson_10 : m_D k_Re_takePerson 10 (.bipush 6) 2 := (by decide +kernel : decode prog_8_method_8_code 10 = .ok (.bipush 6, 2))
theorem d_Re_takePerson_12 : m_D k_Re_takePerson 12 (.invokevirtual 89) 3 := (by decide +kernel : decode prog_8_method_8_code 12 = .ok (.invokevirtual 89, 3))
theorem d_Re_takePerson_15 : m_D k_Re_takePerson 15 (.ireturn) 1 := (by decide +kernel : decode prog_8_method_8_code 15 = .ok (.ireturn, 1))
theorem d_Re_takePerson_16 : m_D k_Re_takePerson 16 (.aload_n 0) 1 := (by decide +kernel : decode prog_8_method_8_code 16 = .ok (.aload_n 0, 1))
theorem d_Re_takePerson_17 : m_D k_Re_takePerson 17 (.invokevirtual 93) 3 := (by decide +kernel : decode prog_8_method_8_code 17 = .ok (.invokevirtual 93, 3))
theorem d_Re_takePerson_20 : m_D k_Re_takePerson 20 (.aload_n 0) 1 := (by decide +kernel : decode prog_8_method_8_code 20 = .ok (.aload_n 0, 1))
theorem d_Re_takePerson_21 : m_D k_Re_takePerson 21 (.getfield 111) 3 := (by decide +kernel : decode prog_8_method_8_code 21 = .ok (.getfield 111, 3))
theorem d_Re_takePerson_24 : m_D k_Re_takePerson 24 (.lstore_n 2) 1 := (by decide +kernel : decode prog_8_method_8_code 24 = .ok (.lstore_n 2, 1))
theorem d_Re_takePerson_25 : m_D k_Re_takePerson 25 (.aload_n 0) 1 := (by decide +kernel : decode prog_8_method_8_code 25 = .ok (.aload_n 0, 1))
theorem d_Re_takePerson_26 : m_D k_Re_takePerson 26 (.aload_n 1) 1 := (by decide +kernel : decode prog_8_method_8_code 26 = .ok (.aload_n 1, 1))
theorem d_Re_takePerson_27 : m_D k_Re_takePerson 27 (.lload_n 2) 1 := (by decide +kernel : decode prog_8_method_8_code 27 = .ok (.lload_n 2, 1))
theorem d_Re_takePerson_28 : m_D k_Re_takePerson 28 (.invokestatic 115) 3 := (by decide +kernel : decode prog_8_method_8_code 28 = .ok (.invokestatic 115, 3))
theorem d_Re_takePerson_31 : m_D k_Re_takePerson 31 (.invokevirtual 119) 3 := (by decide +kernel : decode prog_8_method_8_code 31 = .ok (.invokevirtual 119, 3))
theorem d_Re_takePerson_34 : m_D k_Re_takePerson 34 (.ifCond .eq 22) 3 := (by decide +kernel : decode prog_8_method_8_code 34 = .ok (.ifCond .eq 22, 3))
theorem d_Re_takePerson_37 : m_D k_Re_takePerson 37 (.aload_n 0) 1 := (by decide +kernel : decode prog_8_method_8_code 37 = .ok (.aload_n 0, 1))
theorem d_Re_takePerson_38 : m_D k_Re_takePerson 38 (.ldc 123) 2 := (by decide +kernel : decode prog_8_method_8_code 38 = .ok (.ldc 123, 2))
theorem d_Re_takePerson_40 : m_D k_Re_takePerson 40 (.invokevirtual 125) 3 := (by decide +kernel : decode prog_8_method_8_code 40 = .ok (.invokevirtual 125, 3))
theorem d_Re_takePerson_43 : m_D k_Re_takePerson 43 (.ifCond .eq 13) 3 := (by decide +kernel : decode prog_8_method_8_code 43 = .ok (.ifCond .eq 13, 3))
theorem d_Re_takePerson_46 : m_D k_Re_takePerson 46 (.aload_n 0) 1 := (by decide +kernel : decode prog_8_method_8_code 46 = .ok (.aload_n 0, 1))
theorem d_Re_takePerson_47 : m_D k_Re_takePerson 47 (.iconst 0) 1 := (by decide +kernel : decode prog_8_method_8_code 47 = .ok (.iconst 0, 1))
theorem d_Re_takePerson_48 : m_D k_Re_takePerson 48 (.bipush 119) 2 := (by decide +kernel : decode prog_8_method_8_code 48 = .ok (.bipush 119, 2))
theorem d_Re_takePerson_50 : m_D k_Re_takePerson 50 (.invokevirtual 96) 3 := (by decide +kernel : decode prog_8_method_8_code 50 = .ok (.invokevirtual 96, 3))
theorem d_Re_takePerson_53 : m_D k_Re_takePerson 53 (.ifCond .ne 5) 3 := (by decide +kernel : decode prog_8_method_8_code 53 = .ok (.ifCond .ne 5, 3))
theorem d_Re_takePerson_56 : m_D k_Re_takePerson 56 (.iconst 0) 1 := (by decide +kernel : decode prog_8_method_8_code 56 = .ok (.iconst 0, 1))
theorem d_Re_takePerson_57 : m_D k_Re_takePerson 57 (.ireturn) 1 := (by decide +kernel : decode prog_8_method_8_code 57 = .ok (.ireturn, 1))
theorem d_Re_takePerson_58 : m_D k_Re_takePerson 58 (.aload_n 0) 1 := (by decide +kernel : decode prog_8_method_8_code 58 = .ok (.aload_n 0, 1))
theorem d_Re_takePerson_59 : m_D k_Re_takePerson 59 (.ldc 128) 2 := (by decide +kernel : decode prog_8_method_8_code 59 = .ok (.ldc 128, 2))
theorem d_Re_takePerson_61 : m_D k_Re_takePerson 61 (.invokevirtual 26) 3 := (by decide +kernel : decode prog_8_method_8_code 61 = .ok (.invokevirtual 26, 3))
theorem d_Re_takePerson_64 : m_D k_Re_takePerson 64 (.istore 4) 2 := (by decide +kernel : decode prog_8_method_8_code 64 = .ok (.istore 4, 2))
theorem d_Re_takePerson_66 : m_D k_Re_takePerson 66 (.iload 4) 2 := (by decide +kernel : decode prog_8_method_8_code 66 = .ok (.iload 4, 2))
theorem d_Re_takePerson_68 : m_D k_Re_takePerson 68 (.ifCond .eq 7) 3 := (by decide +kernel : decode prog_8_method_8_code 68 = .ok (.ifCond .eq 7, 3))
theorem d_Re_takePerson_71 : m_D k_Re_takePerson 71 (.aload_n 0) 1 := (by decide +kernel : decode prog_8_method_8_code 71 = .ok (.aload_n 0, 1))
theorem d_Re_takePerson_72 : m_D k_Re_takePerson 72 (.invokevirtual 93) 3 := (by decide +kernel : decode prog_8_method_8_code 72 = .ok (.invokevirtual 93, 3))
theorem d_Re_takePerson_75 : m_D k_Re_takePerson 75 (.aload_n 0) 1 := (by decide +kernel : decode prog_8_method_8_code 75 = .ok (.aload_n 0, 1))
theorem d_Re_takePerson_76 : m_D k_Re_takePerson 76 (.invokevirtual 100) 3 := (by decide +kernel : decode prog_8_method_8_code 76 = .ok (.invokevirtual 100, 3))
theorem d_Re_takePerson_79 : m_D k_Re_takePerson 79 (.ifCond .ne 5) 3 := (by decide +kernel : decode prog_8_method_8_code 79 = .ok (.ifCond .ne 5, 3))
theorem d_Re_takePerson_82 : m_D k_Re_takePerson 82 (.iconst 0) 1 := (by decide +kernel : decode prog_8_method_8_code 82 = .ok (.iconst 0, 1))
theorem d_Re_takePerson_83 : m_D k_Re_takePerson 83 (.ireturn) 1 := (by decide +kernel : decode prog_8_method_8_code 83 = .ok (.ireturn, 1))
theorem d_Re_takePerson_84 : m_D k_Re_takePerson 84 (.aload_n 1) 1 := (by decide +kernel : decode prog_8_method_8_code 84 = .ok (.aload_n 1, 1))
theorem d_Re_takePerson_85 : m_D k_Re_takePerson 85 (.lload_n 2) 1 := (by decide +kernel : decode prog_8_method_8_code 85 = .ok (.lload_n 2, 1))
theorem d_Re_takePerson_86 : m_D k_Re_takePerson 86 (.aload_n 0) 1 := (by decide +kernel : decode prog_8_method_8_code 86 = .ok (.aload_n 0, 1))
theorem d_Re_takePerson_87 : m_D k_Re_takePerson 87 (.getfield 83) 3 := (by decide +kernel : decode prog_8_method_8_code 87 = .ok (.getfield 83, 3))
theorem d_Re_takePerson_90 : m_D k_Re_takePerson 90 (.iload 4) 2 := (by decide +kernel : decode prog_8_method_8_code 90 = .ok (.iload 4, 2))
theorem d_Re_takePerson_92 : m_D k_Re_takePerson 92 (.invokevirtual 130) 3 := (by decide +kernel : decode prog_8_method_8_code 92 = .ok (.invokevirtual 130, 3))
theorem d_Re_takePerson_95 : m_D k_Re_takePerson 95 (.iconst 1) 1 := (by decide +kernel : decode prog_8_method_8_code 95 = .ok (.iconst 1, 1))
theorem d_Re_takePerson_96 : m_D k_Re_takePerson 96 (.ireturn) 1 := (by decide +kernel : decode prog_8_method_8_code 96 = .ok (.ireturn, 1))
def fn_Re_takePerson (x0 : Option mA) (x1 : Option mA) : mP Int32 :=
  m_bd (m_gI 3 0 x1) fun v1 =>
  if v1 < 6 then
    m_bd (fn_Tx_advance x0) fun _ =>
    m_bd (m_gJ 2 7 x0) fun v2 =>
    m_bd (fn_Re_isNew x1 v2) fun v3 =>
    m_bd (fn_Tx_takeName x0 v3) fun v4 =>
    if v4 = 0 then
      m_rt 0
    else
      m_bd (fn_Tx_takeWord x0 (some (0, 5, 0))) fun v5 =>
      if v5 = 0 then
        m_rt 0
      else
        m_bd (fn_Tx_takeNumber x0 0 119) fun v6 =>
        if v6 = 0 then
          m_rt 0
        else
          m_bd (fn_Tx_is x0 (some (0, 6, 0))) fun v7 =>
          m_bd (α := Unit) (
            if v7 = 0 then
              m_rt ()
            else
              m_bd (fn_Tx_advance x0) fun _ =>
              m_rt ()
            ) fun (t8 : Unit) =>
          m_bd (fn_Tx_takeEndSign x0) fun v9 =>
          if v9 = 0 then
            m_rt 0
          else
            m_bd (m_gI 2 9 x0) fun v10 =>
            m_bd (fn_Fa_addPerson x1 v2 v10 v7) fun _ =>
            m_rt 1
  else
    m_bd (fn_Tx_refuse x0 6) fun v11 =>
    m_bd (m_cz v11) fun _ => m_rt v11
set_option maxHeartbeats 4000000 in
set_option maxRecDepth 100000 in
theorem sd_Re_takePerson (x0 : Option mA) (x1 : Option mA) : m_Sm k_Re_takePerson 9 0 0 [.inr (.inr x0), .inr (.inr x1)] (fn_Re_takePerson x0 x1) (fun b => some (.inl b)) := by
  refine ⟨Nat.le_of_ble_eq_true rfl, ?_⟩
  refine sm_aload_n (i := 1) (j := 1) (pc' := 1) d_Re_takePerson_0 rfl rfl rfl ?_
  refine sm_getI (pc' := 4) d_Re_takePerson_1 rfl fl_Re_47 rfl ⟨by decide, by decide⟩ (fun v1 => ?_)
  refine sm_bipush (pc' := 6) d_Re_takePerson_4 rfl ib_6 ?_
  refine sm_icmp_lt (tgt := 16) (pc' := 9) d_Re_takePerson_6 rfl rfl ?_ ?_
  · refine sm_aload_n (i := 0) (j := 0) (pc' := 17) d_Re_takePerson_16 rfl rfl rfl ?_
    refine sm_callVv (ci := 2) (x := x0) (av := []) (st := []) (mc := 0) (ms := 0) (pc' := 20) d_Re_takePerson_17 rfl (sd_Tx_advance x0) m_lv rfl cv_Tx_advance w_ml_Re_93 rfl rfl (by decide) (Nat.le_of_ble_eq_true rfl) rfl rfl ?_
    refine sm_aload_n (i := 0) (j := 0) (pc' := 21) d_Re_takePerson_20 rfl rfl rfl ?_
    refine sm_getJ (pc' := 24) d_Re_takePerson_21 rfl fl_Re_111 rfl rfl (fun v2 => ?_)
    refine sm_lstore_n (i := 2) (L' := [(2, .inr (.inl v2)), (0, .inr (.inr x0)), (1, .inr (.inr x1))]) (pc' := 25) d_Re_takePerson_24 rfl rfl (Nat.le_of_ble_eq_true rfl) rfl (sm_aload_n (i := 0) (j := 1) (pc' := 26) d_Re_takePerson_25 rfl rfl rfl (sm_aload_n (i := 1) (j := 2) (pc' := 27) d_Re_takePerson_26 rfl rfl rfl (sm_lload_n (i := 2) (j := 0) (pc' := 28) d_Re_takePerson_27 rfl rfl rfl ?_)))
    refine sm_callSi (av := [.inr (.inr x1), .inr (.inl v2)]) (st := [.inr (.inr x0)]) (mc := 0) (ms := 0) (pc' := 31) d_Re_takePerson_28 rfl (sd_Re_isNew x1 v2) cs_Re_isNew w_ml_Re_115 rfl rfl (by decide) (Nat.le_of_ble_eq_true rfl) rfl rfl (fun v3 => ?_)
    refine sm_callVi (ci := 2) (x := x0) (av := [.inl v3]) (st := []) (mc := 0) (ms := 0) (pc' := 34) d_Re_takePerson_31 rfl (sd_Tx_takeName x0 v3) m_lv rfl cv_Tx_takeName w_ml_Re_119 rfl rfl (by decide) (Nat.le_of_ble_eq_true rfl) rfl rfl (fun v4 => ?_)
    refine sm_if_eq (tgt := 56) (pc' := 37) d_Re_takePerson_34 rfl rfl ?_ ?_
    · refine sm_iconst (pc' := 57) d_Re_takePerson_56 rfl ic_0 ?_
      exact sm_zreturn d_Re_takePerson_57 rfl (by decide) rfl
    · refine sm_aload_n (i := 0) (j := 1) (pc' := 38) d_Re_takePerson_37 rfl rfl rfl (sm_ldcS (j := 5) (pc' := 40) d_Re_takePerson_38 rfl (by decide) ?_)
      refine sm_callVi (ci := 2) (x := x0) (av := [.inr (.inr (some (0, 5, 0)))]) (st := []) (mc := 0) (ms := 0) (pc' := 43) d_Re_takePerson_40 rfl (sd_Tx_takeWord x0 (some (0, 5, 0))) m_lv rfl cv_Tx_takeWord w_ml_Re_125 rfl rfl (by decide) (Nat.le_of_ble_eq_true rfl) rfl rfl (fun v5 => ?_)
      refine sm_if_eq (tgt := 56) (pc' := 46) d_Re_takePerson_43 rfl rfl ?_ ?_
      · refine sm_iconst (pc' := 57) d_Re_takePerson_56 rfl ic_0 ?_
        exact sm_zreturn d_Re_takePerson_57 rfl (by decide) rfl
      · refine sm_aload_n (i := 0) (j := 1) (pc' := 47) d_Re_takePerson_46 rfl rfl rfl (sm_iconst (pc' := 48) d_Re_takePerson_47 rfl ic_0 (sm_bipush (pc' := 50) d_Re_takePerson_48 rfl ib_119 ?_))
        refine sm_callVi (ci := 2) (x := x0) (av := [.inl 0, .inl 119]) (st := []) (mc := 0) (ms := 0) (pc' := 53) d_Re_takePerson_50 rfl (sd_Tx_takeNumber x0 0 119) m_lv rfl cv_Tx_takeNumber w_ml_Re_96 rfl rfl (by decide) (Nat.le_of_ble_eq_true rfl) rfl rfl (fun v6 => ?_)
        refine sm_if_ne (tgt := 58) (pc' := 56) d_Re_takePerson_53 rfl rfl ?_ ?_
        · refine sm_aload_n (i := 0) (j := 1) (pc' := 59) d_Re_takePerson_58 rfl rfl rfl (sm_ldcS (j := 6) (pc' := 61) d_Re_takePerson_59 rfl (by decide) ?_)
          refine sm_callVi (ci := 2) (x := x0) (av := [.inr (.inr (some (0, 6, 0)))]) (st := []) (mc := 0) (ms := 0) (pc' := 64) d_Re_takePerson_61 rfl (sd_Tx_is x0 (some (0, 6, 0))) m_lv rfl cv_Tx_is w_ml_Re_26 rfl rfl (by decide) (Nat.le_of_ble_eq_true rfl) rfl rfl (fun v7 => ?_)
          refine sm_istore (L' := [(4, .inl v7), (2, .inr (.inl v2)), (0, .inr (.inr x0)), (1, .inr (.inr x1))]) (pc' := 66) d_Re_takePerson_64 rfl (Nat.le_of_ble_eq_true rfl) rfl (sm_iload (j := 0) (pc' := 68) d_Re_takePerson_66 rfl rfl ?_)
          refine sm_bd (mid := fun (t8 : Unit) => .inl (75, [(0, .inr (.inr x0)), (1, .inr (.inr x1)), (2, .inr (.inl v2)), (4, .inl v7)], [])) ?_ (fun t8 => ?_)
          · refine sm_if_eq (tgt := 75) (pc' := 71) d_Re_takePerson_68 rfl rfl ?_ ?_
            · refine sm_sub [2, 3, 1, 0] rfl ?_
              exact sm_rt rfl
            · refine sm_aload_n (i := 0) (j := 2) (pc' := 72) d_Re_takePerson_71 rfl rfl rfl ?_
              refine sm_callVv (ci := 2) (x := x0) (av := []) (st := []) (mc := 0) (ms := 0) (pc' := 75) d_Re_takePerson_72 rfl (sd_Tx_advance x0) m_lv rfl cv_Tx_advance w_ml_Re_93 rfl rfl (by decide) (Nat.le_of_ble_eq_true rfl) rfl rfl ?_
              refine sm_sub [2, 3, 1, 0] rfl ?_
              exact sm_rt rfl
          · refine sm_aload_n (i := 0) (j := 0) (pc' := 76) d_Re_takePerson_75 rfl rfl rfl ?_
            refine sm_callVi (ci := 2) (x := x0) (av := []) (st := []) (mc := 0) (ms := 0) (pc' := 79) d_Re_takePerson_76 rfl (sd_Tx_takeEndSign x0) m_lv rfl cv_Tx_takeEndSign w_ml_Re_100 rfl rfl (by decide) (Nat.le_of_ble_eq_true rfl) rfl rfl (fun v9 => ?_)
            refine sm_if_ne (tgt := 84) (pc' := 82) d_Re_takePerson_79 rfl rfl ?_ ?_
            · refine sm_aload_n (i := 1) (j := 1) (pc' := 85) d_Re_takePerson_84 rfl rfl rfl (sm_lload_n (i := 2) (j := 2) (pc' := 86) d_Re_takePerson_85 rfl rfl rfl (sm_aload_n (i := 0) (j := 0) (pc' := 87) d_Re_takePerson_86 rfl rfl rfl ?_))
              refine sm_getI (pc' := 90) d_Re_takePerson_87 rfl fl_Re_83 rfl ⟨by decide, by decide⟩ (fun v10 => ?_)
              refine sm_iload (j := 3) (pc' := 92) d_Re_takePerson_90 rfl rfl ?_
              refine sm_callVv (ci := 3) (x := x1) (av := [.inr (.inl v2), .inl v10, .inl v7]) (st := []) (mc := 0) (ms := 0) (pc' := 95) d_Re_takePerson_92 rfl (sd_Fa_addPerson x1 v2 v10 v7) m_lv rfl cv_Fa_addPerson w_ml_Re_130 rfl rfl (by decide) (Nat.le_of_ble_eq_true rfl) rfl rfl ?_
              refine sm_iconst (pc' := 96) d_Re_takePerson_95 rfl ic_1 ?_
              exact sm_zreturn d_Re_takePerson_96 rfl (by decide) rfl
            · refine sm_iconst (pc' := 83) d_Re_takePerson_82 rfl ic_0 ?_
              exact sm_zreturn d_Re_takePerson_83 rfl (by decide) rfl
        · refine sm_iconst (pc' := 57) d_Re_takePerson_56 rfl ic_0 ?_
          exact sm_zreturn d_Re_takePerson_57 rfl (by decide) rfl
  · refine sm_aload_n (i := 0) (j := 0) (pc' := 10) d_Re_takePerson_9 rfl rfl rfl (sm_bipush (pc' := 12) d_Re_takePerson_10 rfl ib_6 ?_)
    refine sm_callVi (ci := 2) (x := x0) (av := [.inl 6]) (st := []) (mc := 0) (ms := 0) (pc' := 15) d_Re_takePerson_12 rfl (sd_Tx_refuse x0 6) m_lv rfl cv_Tx_refuse w_ml_Re_89 rfl rfl (by decide) (Nat.le_of_ble_eq_true rfl) rfl rfl (fun v11 => ?_)
    exact sm_zretC d_Re_takePerson_15 rfl rfl
theorem d_Re_takeOnce_0 : m_D k_Re_takeOnce 0 (.iload_n 1) 1 := (by decide +kernel : decode prog_8_method_6_code 0 = .ok (.iload_n 1, 1))
theorem d_Re_takeOnce_1 : m_D k_Re_takeOnce 1 (.iconst (-1)) 1 := (by decide +kernel : decode prog_8_method_6_code 1 = .ok (.iconst (-1), 1))
theorem d_Re_takeOnce_2 : m_D k_Re_takeOnce 2 (.if_icmp .eq 9) 3 := (by decide +kernel : decode prog_8_method_6_code 2 = .ok (.if_icmp .eq 9, 3))
theorem d_Re_takeOnce_5 : m_D k_Re_takeOnce 5 (.aload_n 0) 1 := (by decide +kernel : decode prog_8_method_6_code 5 = .ok (.aload_n 0, 1))
theorem d_Re_takeOnce_6 : m_D k_Re_takeOnce 6 (.iconst 5) 1 := (by decide +kernel : decode prog_8_method_6_code 6 = .ok (.iconst 5, 1))
theorem d_Re_takeOnce_7 : m_D k_Re_takeOnce 7 (.invokevirtual 89) 3 := (by decide +kernel : decode prog_8_method_6_code 7 = .ok (.invokevirtual 89, 3))
theorem d_Re_takeOnce_10 : m_D k_Re_takeOnce 10 (.ireturn) 1 := (by decide +kernel : decode prog_8_method_6_code 10 = .ok (.ireturn, 1))
theorem d_Re_takeOnce_11 : m_D k_Re_takeOnce 11 (.aload_n 0) 1 := (by decide +kernel : decode prog_8_method_6_code 11 = .ok (.aload_n 0, 1))
theorem d_Re_takeOnce_12 : m_D k_Re_takeOnce 12 (.invokevirtual 93) 3 := (by decide +kernel : decode prog_8_method_6_code 12 = .ok (.invokevirtual 93, 3))
theorem d_Re_takeOnce_15 : m_D k_Re_takeOnce 15 (.aload_n 0) 1 := (by decide +kernel : decode prog_8_method_6_code 15 = .ok (.aload_n 0, 1))
theorem d_Re_takeOnce_16 : m_D k_Re_takeOnce 16 (.iload_n 2) 1 := (by decide +kernel : decode prog_8_method_6_code 16 = .ok (.iload_n 2, 1))
theorem d_Re_takeOnce_17 : m_D k_Re_takeOnce 17 (.iload_n 3) 1 := (by decide +kernel : decode prog_8_method_6_code 17 = .ok (.iload_n 3, 1))
theorem d_Re_takeOnce_18 : m_D k_Re_takeOnce 18 (.invokevirtual 96) 3 := (by decide +kernel : decode prog_8_method_6_code 18 = .ok (.invokevirtual 96, 3))
theorem d_Re_takeOnce_21 : m_D k_Re_takeOnce 21 (.ifCond .eq 14) 3 := (by decide +kernel : decode prog_8_method_6_code 21 = .ok (.ifCond .eq 14, 3))
theorem d_Re_takeOnce_24 : m_D k_Re_takeOnce 24 (.aload_n 0) 1 := (by decide +kernel : decode prog_8_method_6_code 24 = .ok (.aload_n 0, 1))
theorem d_Re_takeOnce_25 : m_D k_Re_takeOnce 25 (.invokevirtual 100) 3 := (by decide +kernel : decode prog_8_method_6_code 25 = .ok (.invokevirtual 100, 3))
theorem d_Re_takeOnce_28 : m_D k_Re_takeOnce 28 (.ifCond .eq 7) 3 := (by decide +kernel : decode prog_8_method_6_code 28 = .ok (.ifCond .eq 7, 3))
theorem d_Re_takeOnce_31 : m_D k_Re_takeOnce 31 (.iconst 1) 1 := (by decide +kernel : decode prog_8_method_6_code 31 = .ok (.iconst 1, 1))
theorem d_Re_takeOnce_32 : m_D k_Re_takeOnce 32 (.goto 4) 3 := (by decide +kernel : decode prog_8_method_6_code 32 = .ok (.goto 4, 3))
theorem d_Re_takeOnce_35 : m_D k_Re_takeOnce 35 (.iconst 0) 1 := (by decide +kernel : decode prog_8_method_6_code 35 = .ok (.iconst 0, 1))
theorem d_Re_takeOnce_36 : m_D k_Re_takeOnce 36 (.ireturn) 1 := (by decide +kernel : decode prog_8_method_6_code 36 = .ok (.ireturn, 1))
def fn_Re_takeOnce (x0 : Option mA) (x1 : Int32) (x2 : Int32) (x3 : Int32) : mP Int32 :=
  if x1 = (-1) then
    m_bd (fn_Tx_advance x0) fun _ =>
    m_bd (fn_Tx_takeNumber x0 x2 x3) fun v1 =>
    if v1 = 0 then
      m_rt 0
    else
      m_bd (fn_Tx_takeEndSign x0) fun v2 =>
      if v2 = 0 then
        m_rt 0
      else
        m_rt 1
  else
    m_bd (fn_Tx_refuse x0 5) fun v3 =>
    m_bd (m_cz v3) fun _ => m_rt v3
set_option maxHeartbeats 4000000 in
set_option maxRecDepth 100000 in
theorem sd_Re_takeOnce (x0 : Option mA) (x1 : Int32) (x2 : Int32) (x3 : Int32) : m_Sm k_Re_takeOnce 5 0 0 [.inr (.inr x0), .inl x1, .inl x2, .inl x3] (fn_Re_takeOnce x0 x1 x2 x3) (fun b => some (.inl b)) := by
  refine ⟨Nat.le_of_ble_eq_true rfl, ?_⟩
  refine sm_iload_n (i := 1) (j := 1) (pc' := 1) d_Re_takeOnce_0 rfl rfl rfl (sm_iconst (pc' := 2) d_Re_takeOnce_1 rfl ic_m1 ?_)
  refine sm_icmp_eq (tgt := 11) (pc' := 5) d_Re_takeOnce_2 rfl rfl ?_ ?_
  · refine sm_aload_n (i := 0) (j := 0) (pc' := 12) d_Re_takeOnce_11 rfl rfl rfl ?_
    refine sm_callVv (ci := 2) (x := x0) (av := []) (st := []) (mc := 0) (ms := 0) (pc' := 15) d_Re_takeOnce_12 rfl (sd_Tx_advance x0) m_lv rfl cv_Tx_advance w_ml_Re_93 rfl rfl (by decide) (Nat.le_of_ble_eq_true rfl) rfl rfl ?_
    refine sm_aload_n (i := 0) (j := 0) (pc' := 16) d_Re_takeOnce_15 rfl rfl rfl (sm_iload_n (i := 2) (j := 2) (pc' := 17) d_Re_takeOnce_16 rfl rfl rfl (sm_iload_n (i := 3) (j := 3) (pc' := 18) d_Re_takeOnce_17 rfl rfl rfl ?_))
    refine sm_callVi (ci := 2) (x := x0) (av := [.inl x2, .inl x3]) (st := []) (mc := 0) (ms := 0) (pc' := 21) d_Re_takeOnce_18 rfl (sd_Tx_takeNumber x0 x2 x3) m_lv rfl cv_Tx_takeNumber w_ml_Re_96 rfl rfl (by decide) (Nat.le_of_ble_eq_true rfl) rfl rfl (fun v1 => ?_)
    refine sm_if_eq (tgt := 35) (pc' := 24) d_Re_takeOnce_21 rfl rfl ?_ ?_
    · refine sm_iconst (pc' := 36) d_Re_takeOnce_35 rfl ic_0 ?_
      exact sm_zreturn d_Re_takeOnce_36 rfl (by decide) rfl
    · refine sm_aload_n (i := 0) (j := 0) (pc' := 25) d_Re_takeOnce_24 rfl rfl rfl ?_
      refine sm_callVi (ci := 2) (x := x0) (av := []) (st := []) (mc := 0) (ms := 0) (pc' := 28) d_Re_takeOnce_25 rfl (sd_Tx_takeEndSign x0) m_lv rfl cv_Tx_takeEndSign w_ml_Re_100 rfl rfl (by decide) (Nat.le_of_ble_eq_true rfl) rfl rfl (fun v2 => ?_)
      refine sm_if_eq (tgt := 35) (pc' := 31) d_Re_takeOnce_28 rfl rfl ?_ ?_
      · refine sm_iconst (pc' := 36) d_Re_takeOnce_35 rfl ic_0 ?_
        exact sm_zreturn d_Re_takeOnce_36 rfl (by decide) rfl
      · refine sm_iconst (pc' := 32) d_Re_takeOnce_31 rfl ic_1 (sm_goto (tgt := 36) d_Re_takeOnce_32 rfl ?_)
        exact sm_zreturn d_Re_takeOnce_36 rfl (by decide) rfl
  · refine sm_aload_n (i := 0) (j := 0) (pc' := 6) d_Re_takeOnce_5 rfl rfl rfl (sm_iconst (pc' := 7) d_Re_takeOnce_6 rfl ic_5 ?_)
    refine sm_callVi (ci := 2) (x := x0) (av := [.inl 5]) (st := []) (mc := 0) (ms := 0) (pc' := 10) d_Re_takeOnce_7 rfl (sd_Tx_refuse x0 5) m_lv rfl cv_Tx_refuse w_ml_Re_89 rfl rfl (by decide) (Nat.le_of_ble_eq_true rfl) rfl rfl (fun v3 => ?_)
    exact sm_zretC d_Re_takeOnce_10 rfl rfl
theorem d_Re_takeRule_0 : m_D k_Re_takeRule 0 (.aload_n 0) 1 := (by decide +kernel : decode prog_8_method_5_code 0 = .ok (.aload_n 0, 1))
theorem d_Re_takeRule_1 : m_D k_Re_takeRule 1 (.ldc 78) 2 := (by decide +kernel : decode prog_8_method_5_code 1 = .ok (.ldc 78, 2))
theorem d_Re_takeRule_3 : m_D k_Re_takeRule 3 (.invokevirtual 26) 3 := (by decide +kernel : decode prog_8_method_5_code 3 = .ok (.invokevirtual 26, 3))
theorem d_Re_takeRule_6 : m_D k_Re_takeRule 6 (.ifCond .eq 26) 3 := (by decide +kernel : decode prog_8_method_5_code 6 = .ok (.ifCond .eq 26, 3))
theorem d_Re_takeRule_9 : m_D k_Re_takeRule 9 (.aload_n 0) 1 := (by decide +kernel : decode prog_8_method_5_code 9 = .ok (.aload_n 0, 1))
theorem d_Re_takeRule_10 : m_D k_Re_takeRule 10 (.aload_n 1) 1 := (by decide +kernel : decode prog_8_method_5_code 10 = .ok (.aload_n 1, 1))
theorem d_Re_takeRule_11 : m_D k_Re_takeRule 11 (.getfield 55) 3 := (by decide +kernel : decode prog_8_method_5_code 11 = .ok (.getfield 55, 3))
theorem d_Re_takeRule_14 : m_D k_Re_takeRule 14 (.iconst 0) 1 := (by decide +kernel : decode prog_8_method_5_code 14 = .ok (.iconst 0, 1))
theorem d_Re_takeRule_15 : m_D k_Re_takeRule 15 (.bipush 99) 2 := (by decide +kernel : decode prog_8_method_5_code 15 = .ok (.bipush 99, 2))
theorem d_Re_takeRule_17 : m_D k_Re_takeRule 17 (.invokestatic 79) 3 := (by decide +kernel : decode prog_8_method_5_code 17 = .ok (.invokestatic 79, 3))
theorem d_Re_takeRule_20 : m_D k_Re_takeRule 20 (.istore_n 2) 1 := (by decide +kernel : decode prog_8_method_5_code 20 = .ok (.istore_n 2, 1))
theorem d_Re_takeRule_21 : m_D k_Re_takeRule 21 (.aload_n 1) 1 := (by decide +kernel : decode prog_8_method_5_code 21 = .ok (.aload_n 1, 1))
theorem d_Re_takeRule_22 : m_D k_Re_takeRule 22 (.aload_n 0) 1 := (by decide +kernel : decode prog_8_method_5_code 22 = .ok (.aload_n 0, 1))
theorem d_Re_takeRule_23 : m_D k_Re_takeRule 23 (.getfield 83) 3 := (by decide +kernel : decode prog_8_method_5_code 23 = .ok (.getfield 83, 3))
theorem d_Re_takeRule_26 : m_D k_Re_takeRule 26 (.putfield 55) 3 := (by decide +kernel : decode prog_8_method_5_code 26 = .ok (.putfield 55, 3))
theorem d_Re_takeRule_29 : m_D k_Re_takeRule 29 (.goto 105) 3 := (by decide +kernel : decode prog_8_method_5_code 29 = .ok (.goto 105, 3))
theorem d_Re_takeRule_32 : m_D k_Re_takeRule 32 (.aload_n 0) 1 := (by decide +kernel : decode prog_8_method_5_code 32 = .ok (.aload_n 0, 1))
theorem d_Re_takeRule_33 : m_D k_Re_takeRule 33 (.ldc 86) 2 := (by decide +kernel : decode prog_8_method_5_code 33 = .ok (.ldc 86, 2))
theorem d_Re_takeRule_35 : m_D k_Re_takeRule 35 (.invokevirtual 26) 3 := (by decide +kernel : decode prog_8_method_5_code 35 = .ok (.invokevirtual 26, 3))
theorem d_Re_takeRule_38 : m_D k_Re_takeRule 38 (.ifCond .eq 26) 3 := (by decide +kernel : decode prog_8_method_5_code 38 = .ok (.ifCond .eq 26, 3))
theorem d_Re_takeRule_41 : m_D k_Re_takeRule 41 (.aload_n 0) 1 := (by decide +kernel : decode prog_8_method_5_code 41 = .ok (.aload_n 0, 1))
theorem d_Re_takeRule_42 : m_D k_Re_takeRule 42 (.aload_n 1) 1 := (by decide +kernel : decode prog_8_method_5_code 42 = .ok (.aload_n 1, 1))
theorem d_Re_takeRule_43 : m_D k_Re_takeRule 43 (.getfield 58) 3 := (by decide +kernel : decode prog_8_method_5_code 43 = .ok (.getfield 58, 3))
theorem d_Re_takeRule_46 : m_D k_Re_takeRule 46 (.iconst 1) 1 := (by decide +kernel : decode prog_8_method_5_code 46 = .ok (.iconst 1, 1))
theorem d_Re_takeRule_47 : m_D k_Re_takeRule 47 (.bipush 120) 2 := (by decide +kernel : decode prog_8_method_5_code 47 = .ok (.bipush 120, 2))
theorem d_Re_takeRule_49 : m_D k_Re_takeRule 49 (.invokestatic 79) 3 := (by decide +kernel : decode prog_8_method_5_code 49 = .ok (.invokestatic 79, 3))
theorem d_Re_takeRule_52 : m_D k_Re_takeRule 52 (.istore_n 2) 1 := (by decide +kernel : decode prog_8_method_5_code 52 = .ok (.istore_n 2, 1))
theorem d_Re_takeRule_53 : m_D k_Re_takeRule 53 (.aload_n 1) 1 := (by decide +kernel : decode prog_8_method_5_code 53 = .ok (.aload_n 1, 1))
theorem d_Re_takeRule_54 : m_D k_Re_takeRule 54 (.aload_n 0) 1 := (by decide +kernel : decode prog_8_method_5_code 54 = .ok (.aload_n 0, 1))
theorem d_Re_takeRule_55 : m_D k_Re_takeRule 55 (.getfield 83) 3 := (by decide +kernel : decode prog_8_method_5_code 55 = .ok (.getfield 83, 3))
theorem d_Re_takeRule_58 : m_D k_Re_takeRule 58 (.putfield 58) 3 := (by decide +kernel : decode prog_8_method_5_code 58 = .ok (.putfield 58, 3))
theorem d_Re_takeRule_61 : m_D k_Re_takeRule 61 (.goto 73) 3 := (by decide +kernel : decode prog_8_method_5_code 61 = .ok (.goto 73, 3))
theorem d_Re_takeRule_64 : m_D k_Re_takeRule 64 (.aload_n 0) 1 := (by decide +kernel : decode prog_8_method_5_code 64 = .ok (.aload_n 0, 1))
theorem d_Re_takeRule_65 : m_D k_Re_takeRule 65 (.ldc 87) 2 := (by decide +kernel : decode prog_8_method_5_code 65 = .ok (.ldc 87, 2))
theorem d_Re_takeRule_67 : m_D k_Re_takeRule 67 (.invokevirtual 26) 3 := (by decide +kernel : decode prog_8_method_5_code 67 = .ok (.invokevirtual 26, 3))
theorem d_Re_takeRule_70 : m_D k_Re_takeRule 70 (.ifCond .eq 26) 3 := (by decide +kernel : decode prog_8_method_5_code 70 = .ok (.ifCond .eq 26, 3))
theorem d_Re_takeRule_73 : m_D k_Re_takeRule 73 (.aload_n 0) 1 := (by decide +kernel : decode prog_8_method_5_code 73 = .ok (.aload_n 0, 1))
theorem d_Re_takeRule_74 : m_D k_Re_takeRule 74 (.aload_n 1) 1 := (by decide +kernel : decode prog_8_method_5_code 74 = .ok (.aload_n 1, 1))
theorem d_Re_takeRule_75 : m_D k_Re_takeRule 75 (.getfield 61) 3 := (by decide +kernel : decode prog_8_method_5_code 75 = .ok (.getfield 61, 3))
theorem d_Re_takeRule_78 : m_D k_Re_takeRule 78 (.iconst 0) 1 := (by decide +kernel : decode prog_8_method_5_code 78 = .ok (.iconst 0, 1))
theorem d_Re_takeRule_79 : m_D k_Re_takeRule 79 (.bipush 9) 2 := (by decide +kernel : decode prog_8_method_5_code 79 = .ok (.bipush 9, 2))
theorem d_Re_takeRule_81 : m_D k_Re_takeRule 81 (.invokestatic 79) 3 := (by decide +kernel : decode prog_8_method_5_code 81 = .ok (.invokestatic 79, 3))
theorem d_Re_takeRule_84 : m_D k_Re_takeRule 84 (.istore_n 2) 1 := (by decide +kernel : decode prog_8_method_5_code 84 = .ok (.istore_n 2, 1))
theorem d_Re_takeRule_85 : m_D k_Re_takeRule 85 (.aload_n 1) 1 := (by decide +kernel : decode prog_8_method_5_code 85 = .ok (.aload_n 1, 1))
theorem d_Re_takeRule_86 : m_D k_Re_takeRule 86 (.aload_n 0) 1 := (by decide +kernel : decode prog_8_method_5_code 86 = .ok (.aload_n 0, 1))
theorem d_Re_takeRule_87 : m_D k_Re_takeRule 87 (.getfield 83) 3 := (by decide +kernel : decode prog_8_method_5_code 87 = .ok (.getfield 83, 3))
theorem d_Re_takeRule_90 : m_D k_Re_takeRule 90 (.putfield 61) 3 := (by decide +kernel : decode prog_8_method_5_code 90 = .ok (.putfield 61, 3))
theorem d_Re_takeRule_93 : m_D k_Re_takeRule 93 (.goto 41) 3 := (by decide +kernel : decode prog_8_method_5_code 93 = .ok (.goto 41, 3))
theorem d_Re_takeRule_96 : m_D k_Re_takeRule 96 (.aload_n 0) 1 := (by decide +kernel : decode prog_8_method_5_code 96 = .ok (.aload_n 0, 1))
theorem d_Re_takeRule_97 : m_D k_Re_takeRule 97 (.ldc 88) 2 := (by decide +kernel : decode prog_8_method_5_code 97 = .ok (.ldc 88, 2))
theorem d_Re_takeRule_99 : m_D k_Re_takeRule 99 (.invokevirtual 26) 3 := (by decide +kernel : decode prog_8_method_5_code 99 = .ok (.invokevirtual 26, 3))
theorem d_Re_takeRule_102 : m_D k_Re_takeRule 102 (.ifCond .eq 26) 3 := (by decide +kernel : decode prog_8_method_5_code 102 = .ok (.ifCond .eq 26, 3))
theorem d_Re_takeRule_105 : m_D k_Re_takeRule 105 (.aload_n 0) 1 := (by decide +kernel : decode prog_8_method_5_code 105 = .ok (.aload_n 0, 1))
theorem d_Re_takeRule_106 : m_D k_Re_takeRule 106 (.aload_n 1) 1 := (by decide +kernel : decode prog_8_method_5_code 106 = .ok (.aload_n 1, 1))
theorem d_Re_takeRule_107 : m_D k_Re_takeRule 107 (.getfield 64) 3 := (by decide +kernel : decode prog_8_method_5_code 107 = .ok (.getfield 64, 3))
theorem d_Re_takeRule_110 : m_D k_Re_takeRule 110 (.iconst 0) 1 := (by decide +kernel : decode prog_8_method_5_code 110 = .ok (.iconst 0, 1))
theorem d_Re_takeRule_111 : m_D k_Re_takeRule 111 (.bipush 99) 2 := (by decide +kernel : decode prog_8_method_5_code 111 = .ok (.bipush 99, 2))
theorem d_Re_takeRule_113 : m_D k_Re_takeRule 113 (.invokestatic 79) 3 := (by decide +kernel : decode prog_8_method_5_code 113 = .ok (.invokestatic 79, 3))
theorem d_Re_takeRule_116 : m_D k_Re_takeRule 116 (.istore_n 2) 1 := (by decide +kernel : decode prog_8_method_5_code 116 = .ok (.istore_n 2, 1))
theorem d_Re_takeRule_117 : m_D k_Re_takeRule 117 (.aload_n 1) 1 := (by decide +kernel : decode prog_8_method_5_code 117 = .ok (.aload_n 1, 1))
theorem d_Re_takeRule_118 : m_D k_Re_takeRule 118 (.aload_n 0) 1 := (by decide +kernel : decode prog_8_method_5_code 118 = .ok (.aload_n 0, 1))
theorem d_Re_takeRule_119 : m_D k_Re_takeRule 119 (.getfield 83) 3 := (by decide +kernel : decode prog_8_method_5_code 119 = .ok (.getfield 83, 3))
theorem d_Re_takeRule_122 : m_D k_Re_takeRule 122 (.putfield 64) 3 := (by decide +kernel : decode prog_8_method_5_code 122 = .ok (.putfield 64, 3))
theorem d_Re_takeRule_125 : m_D k_Re_takeRule 125 (.goto 9) 3 := (by decide +kernel : decode prog_8_method_5_code 125 = .ok (.goto 9, 3))
theorem d_Re_takeRule_128 : m_D k_Re_takeRule 128 (.aload_n 0) 1 := (by decide +kernel : decode prog_8_method_5_code 128 = .ok (.aload_n 0, 1))
theorem d_Re_takeRule_129 : m_D k_Re_takeRule 129 (.iconst 2) 1 := (by decide +kernel : decode prog_8_method_5_code 129 = .ok (.iconst 2, 1))
theorem d_Re_takeRule_130 : m_D k_Re_takeRule 130 (.invokevirtual 89) 3 := (by decide +kernel : decode prog_8_method_5_code 130 = .ok (.invokevirtual 89, 3))
theorem d_Re_takeRule_133 : m_D k_Re_takeRule 133 (.istore_n 2) 1 := (by decide +kernel : decode prog_8_method_5_code 133 = .ok (.istore_n 2, 1))
theorem d_Re_takeRule_134 : m_D k_Re_takeRule 134 (.iload_n 2) 1 := (by decide +kernel : decode prog_8_method_5_code 134 = .ok (.iload_n 2, 1))
theorem d_Re_takeRule_135 : m_D k_Re_takeRule 135 (.ireturn) 1 := (by decide +kernel : decode prog_8_method_5_code 135 = .ok (.ireturn, 1))
def fn_Re_takeRule (x0 : Option mA) (x1 : Option mA) : mP Int32 :=
  m_bd (fn_Tx_is x0 (some (0, 1, 0))) fun v1 =>
  if v1 = 0 then
    m_bd (fn_Tx_is x0 (some (0, 2, 0))) fun v2 =>
    if v2 = 0 then
      m_bd (fn_Tx_is x0 (some (0, 3, 0))) fun v3 =>
      if v3 = 0 then
        m_bd (fn_Tx_is x0 (some (0, 4, 0))) fun v4 =>
        if v4 = 0 then
          m_bd (fn_Tx_refuse x0 2) fun v5 =>
          m_bd (m_cz v5) fun _ => m_rt v5
        else
          m_bd (m_gI 3 5 x1) fun v6 =>
          m_bd (fn_Re_takeOnce x0 v6 0 99) fun v7 =>
          m_bd (m_gI 2 9 x0) fun v8 =>
          m_bd (m_pI 3 5 x1 v8) fun _ =>
          m_bd (m_cz v7) fun _ => m_rt v7
      else
        m_bd (m_gI 3 4 x1) fun v9 =>
        m_bd (fn_Re_takeOnce x0 v9 0 9) fun v10 =>
        m_bd (m_gI 2 9 x0) fun v11 =>
        m_bd (m_pI 3 4 x1 v11) fun _ =>
        m_bd (m_cz v10) fun _ => m_rt v10
    else
      m_bd (m_gI 3 3 x1) fun v12 =>
      m_bd (fn_Re_takeOnce x0 v12 1 120) fun v13 =>
      m_bd (m_gI 2 9 x0) fun v14 =>
      m_bd (m_pI 3 3 x1 v14) fun _ =>
      m_bd (m_cz v13) fun _ => m_rt v13
  else
    m_bd (m_gI 3 2 x1) fun v15 =>
    m_bd (fn_Re_takeOnce x0 v15 0 99) fun v16 =>
    m_bd (m_gI 2 9 x0) fun v17 =>
    m_bd (m_pI 3 2 x1 v17) fun _ =>
    m_bd (m_cz v16) fun _ => m_rt v16
set_option maxHeartbeats 4000000 in
set_option maxRecDepth 100000 in
theorem sd_Re_takeRule (x0 : Option mA) (x1 : Option mA) : m_Sm k_Re_takeRule 7 0 0 [.inr (.inr x0), .inr (.inr x1)] (fn_Re_takeRule x0 x1) (fun b => some (.inl b)) := by
  refine ⟨Nat.le_of_ble_eq_true rfl, ?_⟩
  refine sm_aload_n (i := 0) (j := 0) (pc' := 1) d_Re_takeRule_0 rfl rfl rfl (sm_ldcS (j := 1) (pc' := 3) d_Re_takeRule_1 rfl (by decide) ?_)
  refine sm_callVi (ci := 2) (x := x0) (av := [.inr (.inr (some (0, 1, 0)))]) (st := []) (mc := 0) (ms := 0) (pc' := 6) d_Re_takeRule_3 rfl (sd_Tx_is x0 (some (0, 1, 0))) m_lv rfl cv_Tx_is w_ml_Re_26 rfl rfl (by decide) (Nat.le_of_ble_eq_true rfl) rfl rfl (fun v1 => ?_)
  refine sm_if_eq (tgt := 32) (pc' := 9) d_Re_takeRule_6 rfl rfl ?_ ?_
  · refine sm_aload_n (i := 0) (j := 0) (pc' := 33) d_Re_takeRule_32 rfl rfl rfl (sm_ldcS (j := 2) (pc' := 35) d_Re_takeRule_33 rfl (by decide) ?_)
    refine sm_callVi (ci := 2) (x := x0) (av := [.inr (.inr (some (0, 2, 0)))]) (st := []) (mc := 0) (ms := 0) (pc' := 38) d_Re_takeRule_35 rfl (sd_Tx_is x0 (some (0, 2, 0))) m_lv rfl cv_Tx_is w_ml_Re_26 rfl rfl (by decide) (Nat.le_of_ble_eq_true rfl) rfl rfl (fun v2 => ?_)
    refine sm_if_eq (tgt := 64) (pc' := 41) d_Re_takeRule_38 rfl rfl ?_ ?_
    · refine sm_aload_n (i := 0) (j := 0) (pc' := 65) d_Re_takeRule_64 rfl rfl rfl (sm_ldcS (j := 3) (pc' := 67) d_Re_takeRule_65 rfl (by decide) ?_)
      refine sm_callVi (ci := 2) (x := x0) (av := [.inr (.inr (some (0, 3, 0)))]) (st := []) (mc := 0) (ms := 0) (pc' := 70) d_Re_takeRule_67 rfl (sd_Tx_is x0 (some (0, 3, 0))) m_lv rfl cv_Tx_is w_ml_Re_26 rfl rfl (by decide) (Nat.le_of_ble_eq_true rfl) rfl rfl (fun v3 => ?_)
      refine sm_if_eq (tgt := 96) (pc' := 73) d_Re_takeRule_70 rfl rfl ?_ ?_
      · refine sm_aload_n (i := 0) (j := 0) (pc' := 97) d_Re_takeRule_96 rfl rfl rfl (sm_ldcS (j := 4) (pc' := 99) d_Re_takeRule_97 rfl (by decide) ?_)
        refine sm_callVi (ci := 2) (x := x0) (av := [.inr (.inr (some (0, 4, 0)))]) (st := []) (mc := 0) (ms := 0) (pc' := 102) d_Re_takeRule_99 rfl (sd_Tx_is x0 (some (0, 4, 0))) m_lv rfl cv_Tx_is w_ml_Re_26 rfl rfl (by decide) (Nat.le_of_ble_eq_true rfl) rfl rfl (fun v4 => ?_)
        refine sm_if_eq (tgt := 128) (pc' := 105) d_Re_takeRule_102 rfl rfl ?_ ?_
        · refine sm_aload_n (i := 0) (j := 0) (pc' := 129) d_Re_takeRule_128 rfl rfl rfl (sm_iconst (pc' := 130) d_Re_takeRule_129 rfl ic_2 ?_)
          refine sm_callVi (ci := 2) (x := x0) (av := [.inl 2]) (st := []) (mc := 0) (ms := 0) (pc' := 133) d_Re_takeRule_130 rfl (sd_Tx_refuse x0 2) m_lv rfl cv_Tx_refuse w_ml_Re_89 rfl rfl (by decide) (Nat.le_of_ble_eq_true rfl) rfl rfl (fun v5 => ?_)
          refine sm_istore_n (i := 2) (L' := [(2, .inl v5), (0, .inr (.inr x0)), (1, .inr (.inr x1))]) (pc' := 134) d_Re_takeRule_133 rfl rfl (Nat.le_of_ble_eq_true rfl) rfl (sm_iload_n (i := 2) (j := 0) (pc' := 135) d_Re_takeRule_134 rfl rfl rfl ?_)
          exact sm_zretC d_Re_takeRule_135 rfl rfl
        · refine sm_aload_n (i := 0) (j := 0) (pc' := 106) d_Re_takeRule_105 rfl rfl rfl (sm_aload_n (i := 1) (j := 1) (pc' := 107) d_Re_takeRule_106 rfl rfl rfl ?_)
          refine sm_getI (pc' := 110) d_Re_takeRule_107 rfl fl_Re_64 rfl ⟨by decide, by decide⟩ (fun v6 => ?_)
          refine sm_iconst (pc' := 111) d_Re_takeRule_110 rfl ic_0 (sm_bipush (pc' := 113) d_Re_takeRule_111 rfl ib_99 ?_)
          refine sm_callSi (av := [.inr (.inr x0), .inl v6, .inl 0, .inl 99]) (st := []) (mc := 0) (ms := 0) (pc' := 116) d_Re_takeRule_113 rfl (sd_Re_takeOnce x0 v6 0 99) cs_Re_takeOnce w_ml_Re_79 rfl rfl (by decide) (Nat.le_of_ble_eq_true rfl) rfl rfl (fun v7 => ?_)
          refine sm_istore_n (i := 2) (L' := [(2, .inl v7), (0, .inr (.inr x0)), (1, .inr (.inr x1))]) (pc' := 117) d_Re_takeRule_116 rfl rfl (Nat.le_of_ble_eq_true rfl) rfl (sm_aload_n (i := 1) (j := 2) (pc' := 118) d_Re_takeRule_117 rfl rfl rfl (sm_aload_n (i := 0) (j := 1) (pc' := 119) d_Re_takeRule_118 rfl rfl rfl ?_))
          refine sm_getI (pc' := 122) d_Re_takeRule_119 rfl fl_Re_83 rfl ⟨by decide, by decide⟩ (fun v8 => ?_)
          refine sm_putI (pc' := 125) d_Re_takeRule_122 rfl fl_Re_64 (Or.inl rfl) rfl (sm_goto (tgt := 134) d_Re_takeRule_125 rfl (sm_iload_n (i := 2) (j := 0) (pc' := 135) d_Re_takeRule_134 rfl rfl rfl ?_))
          exact sm_zretC d_Re_takeRule_135 rfl rfl
      · refine sm_aload_n (i := 0) (j := 0) (pc' := 74) d_Re_takeRule_73 rfl rfl rfl (sm_aload_n (i := 1) (j := 1) (pc' := 75) d_Re_takeRule_74 rfl rfl rfl ?_)
        refine sm_getI (pc' := 78) d_Re_takeRule_75 rfl fl_Re_61 rfl ⟨by decide, by decide⟩ (fun v9 => ?_)
        refine sm_iconst (pc' := 79) d_Re_takeRule_78 rfl ic_0 (sm_bipush (pc' := 81) d_Re_takeRule_79 rfl ib_9 ?_)
        refine sm_callSi (av := [.inr (.inr x0), .inl v9, .inl 0, .inl 9]) (st := []) (mc := 0) (ms := 0) (pc' := 84) d_Re_takeRule_81 rfl (sd_Re_takeOnce x0 v9 0 9) cs_Re_takeOnce w_ml_Re_79 rfl rfl (by decide) (Nat.le_of_ble_eq_true rfl) rfl rfl (fun v10 => ?_)
        refine sm_istore_n (i := 2) (L' := [(2, .inl v10), (0, .inr (.inr x0)), (1, .inr (.inr x1))]) (pc' := 85) d_Re_takeRule_84 rfl rfl (Nat.le_of_ble_eq_true rfl) rfl (sm_aload_n (i := 1) (j := 2) (pc' := 86) d_Re_takeRule_85 rfl rfl rfl (sm_aload_n (i := 0) (j := 1) (pc' := 87) d_Re_takeRule_86 rfl rfl rfl ?_))
        refine sm_getI (pc' := 90) d_Re_takeRule_87 rfl fl_Re_83 rfl ⟨by decide, by decide⟩ (fun v11 => ?_)
        refine sm_putI (pc' := 93) d_Re_takeRule_90 rfl fl_Re_61 (Or.inl rfl) rfl (sm_goto (tgt := 134) d_Re_takeRule_93 rfl (sm_iload_n (i := 2) (j := 0) (pc' := 135) d_Re_takeRule_134 rfl rfl rfl ?_))
        exact sm_zretC d_Re_takeRule_135 rfl rfl
    · refine sm_aload_n (i := 0) (j := 0) (pc' := 42) d_Re_takeRule_41 rfl rfl rfl (sm_aload_n (i := 1) (j := 1) (pc' := 43) d_Re_takeRule_42 rfl rfl rfl ?_)
      refine sm_getI (pc' := 46) d_Re_takeRule_43 rfl fl_Re_58 rfl ⟨by decide, by decide⟩ (fun v12 => ?_)
      refine sm_iconst (pc' := 47) d_Re_takeRule_46 rfl ic_1 (sm_bipush (pc' := 49) d_Re_takeRule_47 rfl ib_120 ?_)
      refine sm_callSi (av := [.inr (.inr x0), .inl v12, .inl 1, .inl 120]) (st := []) (mc := 0) (ms := 0) (pc' := 52) d_Re_takeRule_49 rfl (sd_Re_takeOnce x0 v12 1 120) cs_Re_takeOnce w_ml_Re_79 rfl rfl (by decide) (Nat.le_of_ble_eq_true rfl) rfl rfl (fun v13 => ?_)
      refine sm_istore_n (i := 2) (L' := [(2, .inl v13), (0, .inr (.inr x0)), (1, .inr (.inr x1))]) (pc' := 53) d_Re_takeRule_52 rfl rfl (Nat.le_of_ble_eq_true rfl) rfl (sm_aload_n (i := 1) (j := 2) (pc' := 54) d_Re_takeRule_53 rfl rfl rfl (sm_aload_n (i := 0) (j := 1) (pc' := 55) d_Re_takeRule_54 rfl rfl rfl ?_))
      refine sm_getI (pc' := 58) d_Re_takeRule_55 rfl fl_Re_83 rfl ⟨by decide, by decide⟩ (fun v14 => ?_)
      refine sm_putI (pc' := 61) d_Re_takeRule_58 rfl fl_Re_58 (Or.inl rfl) rfl (sm_goto (tgt := 134) d_Re_takeRule_61 rfl (sm_iload_n (i := 2) (j := 0) (pc' := 135) d_Re_takeRule_134 rfl rfl rfl ?_))
      exact sm_zretC d_Re_takeRule_135 rfl rfl
  · refine sm_aload_n (i := 0) (j := 0) (pc' := 10) d_Re_takeRule_9 rfl rfl rfl (sm_aload_n (i := 1) (j := 1) (pc' := 11) d_Re_takeRule_10 rfl rfl rfl ?_)
    refine sm_getI (pc' := 14) d_Re_takeRule_11 rfl fl_Re_55 rfl ⟨by decide, by decide⟩ (fun v15 => ?_)
    refine sm_iconst (pc' := 15) d_Re_takeRule_14 rfl ic_0 (sm_bipush (pc' := 17) d_Re_takeRule_15 rfl ib_99 ?_)
    refine sm_callSi (av := [.inr (.inr x0), .inl v15, .inl 0, .inl 99]) (st := []) (mc := 0) (ms := 0) (pc' := 20) d_Re_takeRule_17 rfl (sd_Re_takeOnce x0 v15 0 99) cs_Re_takeOnce w_ml_Re_79 rfl rfl (by decide) (Nat.le_of_ble_eq_true rfl) rfl rfl (fun v16 => ?_)
    refine sm_istore_n (i := 2) (L' := [(2, .inl v16), (0, .inr (.inr x0)), (1, .inr (.inr x1))]) (pc' := 21) d_Re_takeRule_20 rfl rfl (Nat.le_of_ble_eq_true rfl) rfl (sm_aload_n (i := 1) (j := 2) (pc' := 22) d_Re_takeRule_21 rfl rfl rfl (sm_aload_n (i := 0) (j := 1) (pc' := 23) d_Re_takeRule_22 rfl rfl rfl ?_))
    refine sm_getI (pc' := 26) d_Re_takeRule_23 rfl fl_Re_83 rfl ⟨by decide, by decide⟩ (fun v17 => ?_)
    refine sm_putI (pc' := 29) d_Re_takeRule_26 rfl fl_Re_55 (Or.inl rfl) rfl (sm_goto (tgt := 134) d_Re_takeRule_29 rfl (sm_iload_n (i := 2) (j := 0) (pc' := 135) d_Re_takeRule_134 rfl rfl rfl ?_))
    exact sm_zretC d_Re_takeRule_135 rfl rfl
