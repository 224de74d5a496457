/-! 20.cls7, laid by wip/whole/gen.py -/
theorem d_Ga_ownOf_0 : m_D k_Ga_ownOf 0 (.aload_n 0) 1 := (by decide +kernel : decode prog_4_method_4_code 0 = .ok (.aload_n 0, 1))
theorem d_Ga_ownOf_1 : m_D k_Ga_ownOf 1 (.getfield 11) 3 := (by decide +kernel : decode prog_4_method_4_code 1 = .ok (.getfield 11, 3))
theorem d_Ga_ownOf_4 : m_D k_Ga_ownOf 4 (.iconst 2) 1 := (by decide +kernel : decode prog_4_method_4_code 4 = .ok (.iconst 2, 1))
theorem d_Ga_ownOf_5 : m_D k_Ga_ownOf 5 (.iload_n 2) 1 := (by decide +kernel : decode prog_4_method_4_code 5 = .ok (.iload_n 2, 1))
theorem d_Ga_ownOf_6 : m_D k_Ga_ownOf 6 (.imul) 1 := (by decide +kernel : decode prog_4_method_4_code 6 = .ok (.imul, 1))
theorem d_Ga_ownOf_7 : m_D k_Ga_ownOf 7 (.iload_n 1) 1 := (by decide +kernel : decode prog_4_method_4_code 7 = .ok (.iload_n 1, 1))
theorem d_Ga_ownOf_8 : m_D k_Ga_ownOf 8 (.iconst 2) 1 := (by decide +kernel : decode prog_4_method_4_code 8 = .ok (.iconst 2, 1))
theorem d_Ga_ownOf_9 : m_D k_Ga_ownOf 9 (.irem) 1 := (by decide +kernel : decode prog_4_method_4_code 9 = .ok (.irem, 1))
theorem d_Ga_ownOf_10 : m_D k_Ga_ownOf 10 (.iadd) 1 := (by decide +kernel : decode prog_4_method_4_code 10 = .ok (.iadd, 1))
theorem d_Ga_ownOf_11 : m_D k_Ga_ownOf 11 (.aaload) 1 := (by decide +kernel : decode prog_4_method_4_code 11 = .ok (.aaload, 1))
theorem d_Ga_ownOf_12 : m_D k_Ga_ownOf 12 (.areturn) 1 := (by decide +kernel : decode prog_4_method_4_code 12 = .ok (.areturn, 1))
def fn_Ga_ownOf (x0 : Option mA) (x1 : Int32) (x2 : Int32) : mP (Option mA) :=
  m_th 10 x0 <|
  m_bd (m_gR 10 1 x0) fun v1 =>
  m_bd (m_aR 7 v1 ((2 * x2) + (iR x1 2))) fun v2 =>
  m_rt v2
set_option maxHeartbeats 4000000 in
set_option maxRecDepth 100000 in
theorem sd_Ga_ownOf (x0 : Option mA) (x1 : Int32) (x2 : Int32) : m_Sm k_Ga_ownOf 1 0 0 [.inr (.inr x0), .inl x1, .inl x2] (fn_Ga_ownOf x0 x1 x2) (fun b => some (.inr (.inr b))) := by
  refine ⟨Nat.le_of_ble_eq_true rfl, ?_⟩
  refine sm_th ?_
  refine sm_aload_n (i := 0) (j := 0) (pc' := 1) d_Ga_ownOf_0 rfl rfl rfl ?_
  refine sm_getR (pc' := 4) d_Ga_ownOf_1 rfl fl_Ga_11 rfl rfl (fun v1 => ?_)
  refine sm_iconst (pc' := 5) d_Ga_ownOf_4 rfl ic_2 (sm_iload_n (i := 2) (j := 2) (pc' := 6) d_Ga_ownOf_5 rfl rfl rfl (sm_imul (pc' := 7) d_Ga_ownOf_6 rfl (sm_iload_n (i := 1) (j := 1) (pc' := 8) d_Ga_ownOf_7 rfl rfl rfl (sm_iconst (pc' := 9) d_Ga_ownOf_8 rfl ic_2 (sm_irem (pc' := 10) d_Ga_ownOf_9 rfl (by decide) (sm_iadd (pc' := 11) d_Ga_ownOf_10 rfl ?_))))))
  refine sm_aald (t := 7) ⟨by decide, by decide⟩ rfl (pc' := 12) d_Ga_ownOf_11 rfl (fun v2 => ?_)
  exact sm_areturn d_Ga_ownOf_12 rfl rfl
theorem d_Ga_canMove_0 : m_D k_Ga_canMove 0 (.iload_n 2) 1 := (by decide +kernel : decode prog_4_method_6_code 0 = .ok (.iload_n 2, 1))
theorem d_Ga_canMove_1 : m_D k_Ga_canMove 1 (.ifCond .ne 23) 3 := (by decide +kernel : decode prog_4_method_6_code 1 = .ok (.ifCond .ne 23, 3))
theorem d_Ga_canMove_4 : m_D k_Ga_canMove 4 (.aload_n 0) 1 := (by decide +kernel : decode prog_4_method_6_code 4 = .ok (.aload_n 0, 1))
theorem d_Ga_canMove_5 : m_D k_Ga_canMove 5 (.iload_n 1) 1 := (by decide +kernel : decode prog_4_method_6_code 5 = .ok (.iload_n 1, 1))
theorem d_Ga_canMove_6 : m_D k_Ga_canMove 6 (.iload_n 1) 1 := (by decide +kernel : decode prog_4_method_6_code 6 = .ok (.iload_n 1, 1))
theorem d_Ga_canMove_7 : m_D k_Ga_canMove 7 (.invokevirtual 52) 3 := (by decide +kernel : decode prog_4_method_6_code 7 = .ok (.invokevirtual 52, 3))
theorem d_Ga_canMove_10 : m_D k_Ga_canMove 10 (.invokevirtual 56) 3 := (by decide +kernel : decode prog_4_method_6_code 10 = .ok (.invokevirtual 56, 3))
theorem d_Ga_canMove_13 : m_D k_Ga_canMove 13 (.ifCond .ne 7) 3 := (by decide +kernel : decode prog_4_method_6_code 13 = .ok (.ifCond .ne 7, 3))
theorem d_Ga_canMove_16 : m_D k_Ga_canMove 16 (.iconst 1) 1 := (by decide +kernel : decode prog_4_method_6_code 16 = .ok (.iconst 1, 1))
theorem d_Ga_canMove_17 : m_D k_Ga_canMove 17 (.goto 29) 3 := (by decide +kernel : decode prog_4_method_6_code 17 = .ok (.goto 29, 3))
theorem d_Ga_canMove_20 : m_D k_Ga_canMove 20 (.iconst 0) 1 := (by decide +kernel : decode prog_4_method_6_code 20 = .ok (.iconst 0, 1))
theorem d_Ga_canMove_21 : m_D k_Ga_canMove 21 (.goto 25) 3 := (by decide +kernel : decode prog_4_method_6_code 21 = .ok (.goto 25, 3))
theorem d_Ga_canMove_24 : m_D k_Ga_canMove 24 (.iload_n 2) 1 := (by decide +kernel : decode prog_4_method_6_code 24 = .ok (.iload_n 2, 1))
theorem d_Ga_canMove_25 : m_D k_Ga_canMove 25 (.iconst 1) 1 := (by decide +kernel : decode prog_4_method_6_code 25 = .ok (.iconst 1, 1))
theorem d_Ga_canMove_26 : m_D k_Ga_canMove 26 (.if_icmp .ne 15) 3 := (by decide +kernel : decode prog_4_method_6_code 26 = .ok (.if_icmp .ne 15, 3))
theorem d_Ga_canMove_29 : m_D k_Ga_canMove 29 (.aload_n 0) 1 := (by decide +kernel : decode prog_4_method_6_code 29 = .ok (.aload_n 0, 1))
theorem d_Ga_canMove_30 : m_D k_Ga_canMove 30 (.iload_n 1) 1 := (by decide +kernel : decode prog_4_method_6_code 30 = .ok (.iload_n 1, 1))
theorem d_Ga_canMove_31 : m_D k_Ga_canMove 31 (.iload_n 1) 1 := (by decide +kernel : decode prog_4_method_6_code 31 = .ok (.iload_n 1, 1))
theorem d_Ga_canMove_32 : m_D k_Ga_canMove 32 (.invokevirtual 60) 3 := (by decide +kernel : decode prog_4_method_6_code 32 = .ok (.invokevirtual 60, 3))
theorem d_Ga_canMove_35 : m_D k_Ga_canMove 35 (.invokevirtual 56) 3 := (by decide +kernel : decode prog_4_method_6_code 35 = .ok (.invokevirtual 56, 3))
theorem d_Ga_canMove_38 : m_D k_Ga_canMove 38 (.ifCond .ne 7) 3 := (by decide +kernel : decode prog_4_method_6_code 38 = .ok (.ifCond .ne 7, 3))
theorem d_Ga_canMove_41 : m_D k_Ga_canMove 41 (.iconst 1) 1 := (by decide +kernel : decode prog_4_method_6_code 41 = .ok (.iconst 1, 1))
theorem d_Ga_canMove_42 : m_D k_Ga_canMove 42 (.goto 4) 3 := (by decide +kernel : decode prog_4_method_6_code 42 = .ok (.goto 4, 3))
theorem d_Ga_canMove_45 : m_D k_Ga_canMove 45 (.iconst 0) 1 := (by decide +kernel : decode prog_4_method_6_code 45 = .ok (.iconst 0, 1))
theorem d_Ga_canMove_46 : m_D k_Ga_canMove 46 (.ireturn) 1 := (by decide +kernel : decode prog_4_method_6_code 46 = .ok (.ireturn, 1))
def fn_Ga_canMove (x0 : Option mA) (x1 : Int32) (x2 : Int32) : mP Int32 :=
  m_th 10 x0 <|
  if x2 = 0 then
    m_bd (fn_Ga_otherOf x0 x1 x1) fun v3 =>
    m_bd (fn_Th_isThrough v3) fun v4 =>
    if v4 = 0 then
      m_rt 1
    else
      m_rt 0
  else
    if x2 = 1 then
      m_bd (fn_Ga_ownOf x0 x1 x1) fun v1 =>
      m_bd (fn_Th_isThrough v1) fun v2 =>
      if v2 = 0 then
        m_rt 1
      else
        m_rt 0
    else
      m_rt 1
set_option maxHeartbeats 4000000 in
set_option maxRecDepth 100000 in
theorem sd_Ga_canMove (x0 : Option mA) (x1 : Int32) (x2 : Int32) : m_Sm k_Ga_canMove 2 0 0 [.inr (.inr x0), .inl x1, .inl x2] (fn_Ga_canMove x0 x1 x2) (fun b => some (.inl b)) := by
  refine ⟨Nat.le_of_ble_eq_true rfl, ?_⟩
  refine sm_th ?_
  refine sm_iload_n (i := 2) (j := 2) (pc' := 1) d_Ga_canMove_0 rfl rfl rfl ?_
  refine sm_if_ne (tgt := 24) (pc' := 4) d_Ga_canMove_1 rfl rfl ?_ ?_
  · refine sm_iload_n (i := 2) (j := 2) (pc' := 25) d_Ga_canMove_24 rfl rfl rfl (sm_iconst (pc' := 26) d_Ga_canMove_25 rfl ic_1 ?_)
    refine sm_icmp_ne (tgt := 41) (pc' := 29) d_Ga_canMove_26 rfl rfl ?_ ?_
    · refine sm_iconst (pc' := 42) d_Ga_canMove_41 rfl ic_1 (sm_goto (tgt := 46) d_Ga_canMove_42 rfl ?_)
      exact sm_zreturn d_Ga_canMove_46 rfl (by decide) rfl
    · refine sm_aload_n (i := 0) (j := 0) (pc' := 30) d_Ga_canMove_29 rfl rfl rfl (sm_iload_n (i := 1) (j := 1) (pc' := 31) d_Ga_canMove_30 rfl rfl rfl (sm_iload_n (i := 1) (j := 1) (pc' := 32) d_Ga_canMove_31 rfl rfl rfl ?_))
      refine sm_callVr (ci := 10) (x := x0) (av := [.inl x1, .inl x1]) (st := []) (mc := 0) (ms := 0) (pc' := 35) d_Ga_canMove_32 rfl (sd_Ga_ownOf x0 x1 x1) m_lv rfl cv_Ga_ownOf w_ml_Ga_60 rfl rfl (by decide) (Nat.le_of_ble_eq_true rfl) rfl rfl (fun v1 => ?_)
      refine sm_callVi (ci := 5) (x := v1) (av := []) (st := []) (mc := 0) (ms := 0) (pc' := 38) d_Ga_canMove_35 rfl (sd_Th_isThrough v1) m_lv rfl cv_Th_isThrough w_ml_Ga_56 rfl rfl (by decide) (Nat.le_of_ble_eq_true rfl) rfl rfl (fun v2 => ?_)
      refine sm_if_ne (tgt := 45) (pc' := 41) d_Ga_canMove_38 rfl rfl ?_ ?_
      · refine sm_iconst (pc' := 46) d_Ga_canMove_45 rfl ic_0 ?_
        exact sm_zreturn d_Ga_canMove_46 rfl (by decide) rfl
      · refine sm_iconst (pc' := 42) d_Ga_canMove_41 rfl ic_1 (sm_goto (tgt := 46) d_Ga_canMove_42 rfl ?_)
        exact sm_zreturn d_Ga_canMove_46 rfl (by decide) rfl
  · refine sm_aload_n (i := 0) (j := 0) (pc' := 5) d_Ga_canMove_4 rfl rfl rfl (sm_iload_n (i := 1) (j := 1) (pc' := 6) d_Ga_canMove_5 rfl rfl rfl (sm_iload_n (i := 1) (j := 1) (pc' := 7) d_Ga_canMove_6 rfl rfl rfl ?_))
    refine sm_callVr (ci := 10) (x := x0) (av := [.inl x1, .inl x1]) (st := []) (mc := 0) (ms := 0) (pc' := 10) d_Ga_canMove_7 rfl (sd_Ga_otherOf x0 x1 x1) m_lv rfl cv_Ga_otherOf w_ml_Ga_52 rfl rfl (by decide) (Nat.le_of_ble_eq_true rfl) rfl rfl (fun v3 => ?_)
    refine sm_callVi (ci := 5) (x := v3) (av := []) (st := []) (mc := 0) (ms := 0) (pc' := 13) d_Ga_canMove_10 rfl (sd_Th_isThrough v3) m_lv rfl cv_Th_isThrough w_ml_Ga_56 rfl rfl (by decide) (Nat.le_of_ble_eq_true rfl) rfl rfl (fun v4 => ?_)
    refine sm_if_ne (tgt := 20) (pc' := 16) d_Ga_canMove_13 rfl rfl ?_ ?_
    · refine sm_iconst (pc' := 21) d_Ga_canMove_20 rfl ic_0 (sm_goto (tgt := 46) d_Ga_canMove_21 rfl ?_)
      exact sm_zreturn d_Ga_canMove_46 rfl (by decide) rfl
    · refine sm_iconst (pc' := 17) d_Ga_canMove_16 rfl ic_1 (sm_goto (tgt := 46) d_Ga_canMove_17 rfl ?_)
      exact sm_zreturn d_Ga_canMove_46 rfl (by decide) rfl
theorem d_Ga_makeMove_0 : m_D k_Ga_makeMove 0 (.iload_n 2) 1 := (by decide +kernel : decode prog_4_method_7_code 0 = .ok (.iload_n 2, 1))
theorem d_Ga_makeMove_1 : m_D k_Ga_makeMove 1 (.iconst 1) 1 := (by decide +kernel : decode prog_4_method_7_code 1 = .ok (.iconst 1, 1))
theorem d_Ga_makeMove_2 : m_D k_Ga_makeMove 2 (.iadd) 1 := (by decide +kernel : decode prog_4_method_7_code 2 = .ok (.iadd, 1))
theorem d_Ga_makeMove_3 : m_D k_Ga_makeMove 3 (.istore 4) 2 := (by decide +kernel : decode prog_4_method_7_code 3 = .ok (.istore 4, 2))
theorem d_Ga_makeMove_5 : m_D k_Ga_makeMove 5 (.iconst 0) 1 := (by decide +kernel : decode prog_4_method_7_code 5 = .ok (.iconst 0, 1))
theorem d_Ga_makeMove_6 : m_D k_Ga_makeMove 6 (.istore 5) 2 := (by decide +kernel : decode prog_4_method_7_code 6 = .ok (.istore 5, 2))
theorem d_Ga_makeMove_8 : m_D k_Ga_makeMove 8 (.iload 5) 2 := (by decide +kernel : decode prog_4_method_7_code 8 = .ok (.iload 5, 2))
theorem d_Ga_makeMove_10 : m_D k_Ga_makeMove 10 (.iconst 2) 1 := (by decide +kernel : decode prog_4_method_7_code 10 = .ok (.iconst 2, 1))
theorem d_Ga_makeMove_11 : m_D k_Ga_makeMove 11 (.if_icmp .ge 35) 3 := (by decide +kernel : decode prog_4_method_7_code 11 = .ok (.if_icmp .ge 35, 3))
theorem d_Ga_makeMove_14 : m_D k_Ga_makeMove 14 (.aload_n 0) 1 := (by decide +kernel : decode prog_4_method_7_code 14 = .ok (.aload_n 0, 1))
theorem d_Ga_makeMove_15 : m_D k_Ga_makeMove 15 (.getfield 11) 3 := (by decide +kernel : decode prog_4_method_7_code 15 = .ok (.getfield 11, 3))
theorem d_Ga_makeMove_18 : m_D k_Ga_makeMove 18 (.iconst 2) 1 := (by decide +kernel : decode prog_4_method_7_code 18 = .ok (.iconst 2, 1))
theorem d_Ga_makeMove_19 : m_D k_Ga_makeMove 19 (.iload 4) 2 := (by decide +kernel : decode prog_4_method_7_code 19 = .ok (.iload 4, 2))
theorem d_Ga_makeMove_21 : m_D k_Ga_makeMove 21 (.imul) 1 := (by decide +kernel : decode prog_4_method_7_code 21 = .ok (.imul, 1))
theorem d_Ga_makeMove_22 : m_D k_Ga_makeMove 22 (.iload 5) 2 := (by decide +kernel : decode prog_4_method_7_code 22 = .ok (.iload 5, 2))
theorem d_Ga_makeMove_24 : m_D k_Ga_makeMove 24 (.iadd) 1 := (by decide +kernel : decode prog_4_method_7_code 24 = .ok (.iadd, 1))
theorem d_Ga_makeMove_25 : m_D k_Ga_makeMove 25 (.aaload) 1 := (by decide +kernel : decode prog_4_method_7_code 25 = .ok (.aaload, 1))
theorem d_Ga_makeMove_26 : m_D k_Ga_makeMove 26 (.aload_n 0) 1 := (by decide +kernel : decode prog_4_method_7_code 26 = .ok (.aload_n 0, 1))
theorem d_Ga_makeMove_27 : m_D k_Ga_makeMove 27 (.getfield 11) 3 := (by decide +kernel : decode prog_4_method_7_code 27 = .ok (.getfield 11, 3))
theorem d_Ga_makeMove_30 : m_D k_Ga_makeMove 30 (.iconst 2) 1 := (by decide +kernel : decode prog_4_method_7_code 30 = .ok (.iconst 2, 1))
theorem d_Ga_makeMove_31 : m_D k_Ga_makeMove 31 (.iload_n 2) 1 := (by decide +kernel : decode prog_4_method_7_code 31 = .ok (.iload_n 2, 1))
theorem d_Ga_makeMove_32 : m_D k_Ga_makeMove 32 (.imul) 1 := (by decide +kernel : decode prog_4_method_7_code 32 = .ok (.imul, 1))
theorem d_Ga_makeMove_33 : m_D k_Ga_makeMove 33 (.iload 5) 2 := (by decide +kernel : decode prog_4_method_7_code 33 = .ok (.iload 5, 2))
theorem d_Ga_makeMove_35 : m_D k_Ga_makeMove 35 (.iadd) 1 := (by decide +kernel : decode prog_4_method_7_code 35 = .ok (.iadd, 1))
theorem d_Ga_makeMove_36 : m_D k_Ga_makeMove 36 (.aaload) 1 := (by decide +kernel : decode prog_4_method_7_code 36 = .ok (.aaload, 1))
theorem d_Ga_makeMove_37 : m_D k_Ga_makeMove 37 (.invokevirtual 25) 3 := (by decide +kernel : decode prog_4_method_7_code 37 = .ok (.invokevirtual 25, 3))
theorem d_Ga_makeMove_40 : m_D k_Ga_makeMove 40 (.iinc 5 1) 3 := (by decide +kernel : decode prog_4_method_7_code 40 = .ok (.iinc 5 1, 3))
theorem d_Ga_makeMove_43 : m_D k_Ga_makeMove 43 (.goto (-35)) 3 := (by decide +kernel : decode prog_4_method_7_code 43 = .ok (.goto (-35), 3))
theorem d_Ga_makeMove_46 : m_D k_Ga_makeMove 46 (.iload_n 3) 1 := (by decide +kernel : decode prog_4_method_7_code 46 = .ok (.iload_n 3, 1))
theorem d_Ga_makeMove_47 : m_D k_Ga_makeMove 47 (.ifCond .ne 20) 3 := (by decide +kernel : decode prog_4_method_7_code 47 = .ok (.ifCond .ne 20, 3))
theorem d_Ga_makeMove_50 : m_D k_Ga_makeMove 50 (.aload_n 0) 1 := (by decide +kernel : decode prog_4_method_7_code 50 = .ok (.aload_n 0, 1))
theorem d_Ga_makeMove_51 : m_D k_Ga_makeMove 51 (.iload_n 2) 1 := (by decide +kernel : decode prog_4_method_7_code 51 = .ok (.iload_n 2, 1))
theorem d_Ga_makeMove_52 : m_D k_Ga_makeMove 52 (.iload 4) 2 := (by decide +kernel : decode prog_4_method_7_code 52 = .ok (.iload 4, 2))
theorem d_Ga_makeMove_54 : m_D k_Ga_makeMove 54 (.invokevirtual 52) 3 := (by decide +kernel : decode prog_4_method_7_code 54 = .ok (.invokevirtual 52, 3))
theorem d_Ga_makeMove_57 : m_D k_Ga_makeMove 57 (.aload_n 1) 1 := (by decide +kernel : decode prog_4_method_7_code 57 = .ok (.aload_n 1, 1))
theorem d_Ga_makeMove_58 : m_D k_Ga_makeMove 58 (.getfield 63) 3 := (by decide +kernel : decode prog_4_method_7_code 58 = .ok (.getfield 63, 3))
theorem d_Ga_makeMove_61 : m_D k_Ga_makeMove 61 (.invokevirtual 66) 3 := (by decide +kernel : decode prog_4_method_7_code 61 = .ok (.invokevirtual 66, 3))
theorem d_Ga_makeMove_64 : m_D k_Ga_makeMove 64 (.goto 18) 3 := (by decide +kernel : decode prog_4_method_7_code 64 = .ok (.goto 18, 3))
theorem d_Ga_makeMove_67 : m_D k_Ga_makeMove 67 (.iload_n 3) 1 := (by decide +kernel : decode prog_4_method_7_code 67 = .ok (.iload_n 3, 1))
theorem d_Ga_makeMove_68 : m_D k_Ga_makeMove 68 (.iconst 1) 1 := (by decide +kernel : decode prog_4_method_7_code 68 = .ok (.iconst 1, 1))
theorem d_Ga_makeMove_69 : m_D k_Ga_makeMove 69 (.if_icmp .ne 13) 3 := (by decide +kernel : decode prog_4_method_7_code 69 = .ok (.if_icmp .ne 13, 3))
theorem d_Ga_makeMove_72 : m_D k_Ga_makeMove 72 (.aload_n 0) 1 := (by decide +kernel : decode prog_4_method_7_code 72 = .ok (.aload_n 0, 1))
theorem d_Ga_makeMove_73 : m_D k_Ga_makeMove 73 (.iload_n 2) 1 := (by decide +kernel : decode prog_4_method_7_code 73 = .ok (.iload_n 2, 1))
theorem d_Ga_makeMove_74 : m_D k_Ga_makeMove 74 (.iload 4) 2 := (by decide +kernel : decode prog_4_method_7_code 74 = .ok (.iload 4, 2))
theorem d_Ga_makeMove_76 : m_D k_Ga_makeMove 76 (.invokevirtual 60) 3 := (by decide +kernel : decode prog_4_method_7_code 76 = .ok (.invokevirtual 60, 3))
theorem d_Ga_makeMove_79 : m_D k_Ga_makeMove 79 (.invokevirtual 70) 3 := (by decide +kernel : decode prog_4_method_7_code 79 = .ok (.invokevirtual 70, 3))
theorem d_Ga_makeMove_82 : m_D k_Ga_makeMove 82 (.iconst 0) 1 := (by decide +kernel : decode prog_4_method_7_code 82 = .ok (.iconst 0, 1))
theorem d_Ga_makeMove_83 : m_D k_Ga_makeMove 83 (.istore 5) 2 := (by decide +kernel : decode prog_4_method_7_code 83 = .ok (.istore 5, 2))
theorem d_Ga_makeMove_85 : m_D k_Ga_makeMove 85 (.iload 5) 2 := (by decide +kernel : decode prog_4_method_7_code 85 = .ok (.iload 5, 2))
theorem d_Ga_makeMove_87 : m_D k_Ga_makeMove 87 (.iconst 2) 1 := (by decide +kernel : decode prog_4_method_7_code 87 = .ok (.iconst 2, 1))
theorem d_Ga_makeMove_88 : m_D k_Ga_makeMove 88 (.if_icmp .ge 40) 3 := (by decide +kernel : decode prog_4_method_7_code 88 = .ok (.if_icmp .ge 40, 3))
theorem d_Ga_makeMove_91 : m_D k_Ga_makeMove 91 (.aload_n 0) 1 := (by decide +kernel : decode prog_4_method_7_code 91 = .ok (.aload_n 0, 1))
theorem d_Ga_makeMove_92 : m_D k_Ga_makeMove 92 (.getfield 11) 3 := (by decide +kernel : decode prog_4_method_7_code 92 = .ok (.getfield 11, 3))
theorem d_Ga_makeMove_95 : m_D k_Ga_makeMove 95 (.iconst 2) 1 := (by decide +kernel : decode prog_4_method_7_code 95 = .ok (.iconst 2, 1))
theorem d_Ga_makeMove_96 : m_D k_Ga_makeMove 96 (.iload 4) 2 := (by decide +kernel : decode prog_4_method_7_code 96 = .ok (.iload 4, 2))
theorem d_Ga_makeMove_98 : m_D k_Ga_makeMove 98 (.imul) 1 := (by decide +kernel : decode prog_4_method_7_code 98 = .ok (.imul, 1))
theorem d_Ga_makeMove_99 : m_D k_Ga_makeMove 99 (.iload 5) 2 := (by decide +kernel : decode prog_4_method_7_code 99 = .ok (.iload 5, 2))
theorem d_Ga_makeMove_101 : m_D k_Ga_makeMove 101 (.iadd) 1 := (by decide +kernel : decode prog_4_method_7_code 101 = .ok (.iadd, 1))
theorem d_Ga_makeMove_102 : m_D k_Ga_makeMove 102 (.aaload) 1 := (by decide +kernel : decode prog_4_method_7_code 102 = .ok (.aaload, 1))
theorem d_Ga_makeMove_103 : m_D k_Ga_makeMove 103 (.aload_n 0) 1 := (by decide +kernel : decode prog_4_method_7_code 103 = .ok (.aload_n 0, 1))
theorem d_Ga_makeMove_104 : m_D k_Ga_makeMove 104 (.getfield 16) 3 := (by decide +kernel : decode prog_4_method_7_code 104 = .ok (.getfield 16, 3))
theorem d_Ga_makeMove_107 : m_D k_Ga_makeMove 107 (.iconst 2) 1 := (by decide +kernel : decode prog_4_method_7_code 107 = .ok (.iconst 2, 1))
theorem d_Ga_makeMove_108 : m_D k_Ga_makeMove 108 (.iload 4) 2 := (by decide +kernel : decode prog_4_method_7_code 108 = .ok (.iload 4, 2))
theorem d_Ga_makeMove_110 : m_D k_Ga_makeMove 110 (.imul) 1 := (by decide +kernel : decode prog_4_method_7_code 110 = .ok (.imul, 1))
theorem d_Ga_makeMove_111 : m_D k_Ga_makeMove 111 (.iload 5) 2 := (by decide +kernel : decode prog_4_method_7_code 111 = .ok (.iload 5, 2))
theorem d_Ga_makeMove_113 : m_D k_Ga_makeMove 113 (.iadd) 1 := (by decide +kernel : decode prog_4_method_7_code 113 = .ok (.iadd, 1))
theorem d_Ga_makeMove_114 : m_D k_Ga_makeMove 114 (.iaload) 1 := (by decide +kernel : decode prog_4_method_7_code 114 = .ok (.iaload, 1))
theorem d_Ga_makeMove_115 : m_D k_Ga_makeMove 115 (.aload_n 1) 1 := (by decide +kernel : decode prog_4_method_7_code 115 = .ok (.aload_n 1, 1))
theorem d_Ga_makeMove_116 : m_D k_Ga_makeMove 116 (.getfield 73) 3 := (by decide +kernel : decode prog_4_method_7_code 116 = .ok (.getfield 73, 3))
theorem d_Ga_makeMove_119 : m_D k_Ga_makeMove 119 (.invokevirtual 76) 3 := (by decide +kernel : decode prog_4_method_7_code 119 = .ok (.invokevirtual 76, 3))
theorem d_Ga_makeMove_122 : m_D k_Ga_makeMove 122 (.iinc 5 1) 3 := (by decide +kernel : decode prog_4_method_7_code 122 = .ok (.iinc 5 1, 3))
theorem d_Ga_makeMove_125 : m_D k_Ga_makeMove 125 (.goto (-40)) 3 := (by decide +kernel : decode prog_4_method_7_code 125 = .ok (.goto (-40), 3))
theorem d_Ga_makeMove_128 : m_D k_Ga_makeMove 128 (.return_) 1 := (by decide +kernel : decode prog_4_method_7_code 128 = .ok (.return_, 1))
def fn_Ga_makeMove_l8 (x0 : Option mA) (x2 : Int32) (t1 : Int32) : mP ((Int32) ⊕ (Unit)) :=
  if 2 ≤ t1 then
    m_rt (.inr ())
  else
    m_bd (m_gR 10 1 x0) fun v2 =>
    m_bd (m_aR 7 v2 ((2 * (x2 + 1)) + t1)) fun v3 =>
    m_bd (m_gR 10 1 x0) fun v4 =>
    m_bd (m_aR 7 v4 ((2 * x2) + t1)) fun v5 =>
    m_bd (fn_Th_copyFrom v3 v5) fun _ =>
    m_rt (.inl (t1 + 1))
def fn_Ga_makeMove_l85 (x0 : Option mA) (x1 : Option mA) (x2 : Int32) (t11 : Int32) : mP ((Int32) ⊕ (Unit)) :=
  if 2 ≤ t11 then
    m_rt (.inr ())
  else
    m_bd (m_gR 10 1 x0) fun v12 =>
    m_bd (m_aR 7 v12 ((2 * (x2 + 1)) + t11)) fun v13 =>
    m_bd (m_gR 10 2 x0) fun v14 =>
    m_bd (m_aI 0 v14 ((2 * (x2 + 1)) + t11)) fun v15 =>
    m_bd (m_gI 3 4 x1) fun v16 =>
    m_bd (fn_Th_passYear v13 v15 v16) fun _ =>
    m_rt (.inl (t11 + 1))
def fn_Ga_makeMove (x0 : Option mA) (x1 : Option mA) (x2 : Int32) (x3 : Int32) : mP Unit :=
  m_th 10 x0 <|
  m_bd (m_lp (fn_Ga_makeMove_l8 x0 x2) m_F 0) fun (t6 : Unit) =>
  m_bd (α := Unit) (
    if x3 = 0 then
      m_bd (fn_Ga_otherOf x0 x2 (x2 + 1)) fun v8 =>
      m_bd (m_gI 3 5 x1) fun v9 =>
      m_bd (fn_Th_takeBreath v8 v9) fun _ =>
      m_rt ()
    else
      if x3 = 1 then
        m_bd (fn_Ga_ownOf x0 x2 (x2 + 1)) fun v7 =>
        m_bd (fn_Th_putOil v7) fun _ =>
        m_rt ()
      else
        m_rt ()
    ) fun (t10 : Unit) =>
  m_bd (m_lp (fn_Ga_makeMove_l85 x0 x1 x2) m_F 0) fun (t17 : Unit) =>
  m_rt ()
set_option maxHeartbeats 4000000 in
set_option maxRecDepth 100000 in
theorem sd_Ga_makeMove (x0 : Option mA) (x1 : Option mA) (x2 : Int32) (x3 : Int32) : m_Sm k_Ga_makeMove 4 0 0 [.inr (.inr x0), .inr (.inr x1), .inl x2, .inl x3] (fn_Ga_makeMove x0 x1 x2 x3) (fun _ => none) := by
  refine ⟨Nat.le_of_ble_eq_true rfl, ?_⟩
  refine sm_th ?_
  refine sm_iload_n (i := 2) (j := 2) (pc' := 1) d_Ga_makeMove_0 rfl rfl rfl (sm_iconst (pc' := 2) d_Ga_makeMove_1 rfl ic_1 (sm_iadd (pc' := 3) d_Ga_makeMove_2 rfl (sm_istore (L' := [(4, .inl (x2 + 1)), (0, .inr (.inr x0)), (1, .inr (.inr x1)), (2, .inl x2), (3, .inl x3)]) (pc' := 5) d_Ga_makeMove_3 rfl (Nat.le_of_ble_eq_true rfl) rfl (sm_iconst (pc' := 6) d_Ga_makeMove_5 rfl ic_0 (sm_istore (L' := [(5, .inl 0), (4, .inl (x2 + 1)), (0, .inr (.inr x0)), (1, .inr (.inr x1)), (2, .inl x2), (3, .inl x3)]) (pc' := 8) d_Ga_makeMove_6 rfl (Nat.le_of_ble_eq_true rfl) rfl ?_)))))
  refine sm_sub [0, 2, 3, 4, 5, 1] rfl ?_
  refine sm_bd (mid := fun (t6 : Unit) => .inl (46, [(0, .inr (.inr x0)), (1, .inr (.inr x1)), (2, .inl x2), (3, .inl x3), (4, .inl (x2 + 1))], [])) (sm_lp (hd := fun (t1 : Int32) => (.inl (8, [(5, .inl t1), (0, .inr (.inr x0)), (1, .inr (.inr x1)), (2, .inl x2), (3, .inl x3), (4, .inl (x2 + 1))], []) : mC)) (fun t1 => ?_) m_F 0) (fun t6 => ?_)
  · refine sm_iload (j := 0) (pc' := 10) d_Ga_makeMove_8 rfl rfl (sm_iconst (pc' := 11) d_Ga_makeMove_10 rfl ic_2 ?_)
    refine sm_icmp_ge (tgt := 46) (pc' := 14) d_Ga_makeMove_11 rfl rfl ?_ ?_
    · refine sm_sub [1, 2, 3, 4, 5] rfl ?_
      exact sm_rt rfl
    · refine sm_aload_n (i := 0) (j := 1) (pc' := 15) d_Ga_makeMove_14 rfl rfl rfl ?_
      refine sm_getR (pc' := 18) d_Ga_makeMove_15 rfl fl_Ga_11 rfl rfl (fun v2 => ?_)
      refine sm_iconst (pc' := 19) d_Ga_makeMove_18 rfl ic_2 (sm_iload (j := 5) (pc' := 21) d_Ga_makeMove_19 rfl rfl (sm_imul (pc' := 22) d_Ga_makeMove_21 rfl (sm_iload (j := 0) (pc' := 24) d_Ga_makeMove_22 rfl rfl (sm_iadd (pc' := 25) d_Ga_makeMove_24 rfl ?_))))
      refine sm_aald (t := 7) ⟨by decide, by decide⟩ rfl (pc' := 26) d_Ga_makeMove_25 rfl (fun v3 => ?_)
      refine sm_aload_n (i := 0) (j := 1) (pc' := 27) d_Ga_makeMove_26 rfl rfl rfl ?_
      refine sm_getR (pc' := 30) d_Ga_makeMove_27 rfl fl_Ga_11 rfl rfl (fun v4 => ?_)
      refine sm_iconst (pc' := 31) d_Ga_makeMove_30 rfl ic_2 (sm_iload_n (i := 2) (j := 3) (pc' := 32) d_Ga_makeMove_31 rfl rfl rfl (sm_imul (pc' := 33) d_Ga_makeMove_32 rfl (sm_iload (j := 0) (pc' := 35) d_Ga_makeMove_33 rfl rfl (sm_iadd (pc' := 36) d_Ga_makeMove_35 rfl ?_))))
      refine sm_aald (t := 7) ⟨by decide, by decide⟩ rfl (pc' := 37) d_Ga_makeMove_36 rfl (fun v5 => ?_)
      refine sm_callVv (ci := 5) (x := v3) (av := [.inr (.inr v5)]) (st := []) (mc := 0) (ms := 0) (pc' := 40) d_Ga_makeMove_37 rfl (sd_Th_copyFrom v3 v5) m_lv rfl cv_Th_copyFrom w_ml_Ga_25 rfl rfl (by decide) (Nat.le_of_ble_eq_true rfl) rfl rfl ?_
      refine sm_iinc (j := 0) (L' := [(5, .inl (t1 + 1)), (0, .inr (.inr x0)), (1, .inr (.inr x1)), (2, .inl x2), (3, .inl x3), (4, .inl (x2 + 1))]) (pc' := 43) d_Ga_makeMove_40 rfl (v := (t1 + 1)) rfl (ix_1 _) (Nat.le_of_ble_eq_true rfl) rfl (sm_goto (tgt := 8) d_Ga_makeMove_43 rfl (sm_sub [0, 1, 2, 3, 4, 5] rfl ?_))
      exact sm_rt rfl
  · refine sm_iload_n (i := 3) (j := 3) (pc' := 47) d_Ga_makeMove_46 rfl rfl rfl ?_
    refine sm_bd (mid := fun (t10 : Unit) => .inl (82, [(0, .inr (.inr x0)), (1, .inr (.inr x1)), (4, .inl (x2 + 1))], [])) ?_ (fun t10 => ?_)
    · refine sm_if_ne (tgt := 67) (pc' := 50) d_Ga_makeMove_47 rfl rfl ?_ ?_
      · refine sm_iload_n (i := 3) (j := 3) (pc' := 68) d_Ga_makeMove_67 rfl rfl rfl (sm_iconst (pc' := 69) d_Ga_makeMove_68 rfl ic_1 ?_)
        refine sm_icmp_ne (tgt := 82) (pc' := 72) d_Ga_makeMove_69 rfl rfl ?_ ?_
        · refine sm_sub [0, 1, 4] rfl ?_
          exact sm_rt rfl
        · refine sm_aload_n (i := 0) (j := 0) (pc' := 73) d_Ga_makeMove_72 rfl rfl rfl (sm_iload_n (i := 2) (j := 2) (pc' := 74) d_Ga_makeMove_73 rfl rfl rfl (sm_iload (j := 4) (pc' := 76) d_Ga_makeMove_74 rfl rfl ?_))
          refine sm_callVr (ci := 10) (x := x0) (av := [.inl x2, .inl (x2 + 1)]) (st := []) (mc := 0) (ms := 0) (pc' := 79) d_Ga_makeMove_76 rfl (sd_Ga_ownOf x0 x2 (x2 + 1)) m_lv rfl cv_Ga_ownOf w_ml_Ga_60 rfl rfl (by decide) (Nat.le_of_ble_eq_true rfl) rfl rfl (fun v7 => ?_)
          refine sm_callVv (ci := 5) (x := v7) (av := []) (st := []) (mc := 0) (ms := 0) (pc' := 82) d_Ga_makeMove_79 rfl (sd_Th_putOil v7) m_lv rfl cv_Th_putOil w_ml_Ga_70 rfl rfl (by decide) (Nat.le_of_ble_eq_true rfl) rfl rfl ?_
          refine sm_sub [0, 1, 4] rfl ?_
          exact sm_rt rfl
      · refine sm_aload_n (i := 0) (j := 0) (pc' := 51) d_Ga_makeMove_50 rfl rfl rfl (sm_iload_n (i := 2) (j := 2) (pc' := 52) d_Ga_makeMove_51 rfl rfl rfl (sm_iload (j := 4) (pc' := 54) d_Ga_makeMove_52 rfl rfl ?_))
        refine sm_callVr (ci := 10) (x := x0) (av := [.inl x2, .inl (x2 + 1)]) (st := []) (mc := 0) (ms := 0) (pc' := 57) d_Ga_makeMove_54 rfl (sd_Ga_otherOf x0 x2 (x2 + 1)) m_lv rfl cv_Ga_otherOf w_ml_Ga_52 rfl rfl (by decide) (Nat.le_of_ble_eq_true rfl) rfl rfl (fun v8 => ?_)
        refine sm_aload_n (i := 1) (j := 1) (pc' := 58) d_Ga_makeMove_57 rfl rfl rfl ?_
        refine sm_getI (pc' := 61) d_Ga_makeMove_58 rfl fl_Ga_63 rfl ⟨by decide, by decide⟩ (fun v9 => ?_)
        refine sm_callVv (ci := 5) (x := v8) (av := [.inl v9]) (st := []) (mc := 0) (ms := 0) (pc' := 64) d_Ga_makeMove_61 rfl (sd_Th_takeBreath v8 v9) m_lv rfl cv_Th_takeBreath w_ml_Ga_66 rfl rfl (by decide) (Nat.le_of_ble_eq_true rfl) rfl rfl ?_
        refine sm_goto (tgt := 82) d_Ga_makeMove_64 rfl (sm_sub [0, 1, 4] rfl ?_)
        exact sm_rt rfl
    · refine sm_iconst (pc' := 83) d_Ga_makeMove_82 rfl ic_0 (sm_istore (L' := [(5, .inl 0), (0, .inr (.inr x0)), (1, .inr (.inr x1)), (4, .inl (x2 + 1))]) (pc' := 85) d_Ga_makeMove_83 rfl (Nat.le_of_ble_eq_true rfl) rfl ?_)
      refine sm_sub [0, 1, 2, 3] rfl ?_
      refine sm_bd (mid := fun (t17 : Unit) => .inl (128, [], [])) (sm_lp (hd := fun (t11 : Int32) => (.inl (85, [(5, .inl t11), (0, .inr (.inr x0)), (1, .inr (.inr x1)), (4, .inl (x2 + 1))], []) : mC)) (fun t11 => ?_) m_F 0) (fun t17 => ?_)
      · refine sm_iload (j := 0) (pc' := 87) d_Ga_makeMove_85 rfl rfl (sm_iconst (pc' := 88) d_Ga_makeMove_87 rfl ic_2 ?_)
        refine sm_icmp_ge (tgt := 128) (pc' := 91) d_Ga_makeMove_88 rfl rfl ?_ ?_
        · refine sm_sub [] rfl ?_
          exact sm_rt rfl
        · refine sm_aload_n (i := 0) (j := 1) (pc' := 92) d_Ga_makeMove_91 rfl rfl rfl ?_
          refine sm_getR (pc' := 95) d_Ga_makeMove_92 rfl fl_Ga_11 rfl rfl (fun v12 => ?_)
          refine sm_iconst (pc' := 96) d_Ga_makeMove_95 rfl ic_2 (sm_iload (j := 3) (pc' := 98) d_Ga_makeMove_96 rfl rfl (sm_imul (pc' := 99) d_Ga_makeMove_98 rfl (sm_iload (j := 0) (pc' := 101) d_Ga_makeMove_99 rfl rfl (sm_iadd (pc' := 102) d_Ga_makeMove_101 rfl ?_))))
          refine sm_aald (t := 7) ⟨by decide, by decide⟩ rfl (pc' := 103) d_Ga_makeMove_102 rfl (fun v13 => ?_)
          refine sm_aload_n (i := 0) (j := 1) (pc' := 104) d_Ga_makeMove_103 rfl rfl rfl ?_
          refine sm_getR (pc' := 107) d_Ga_makeMove_104 rfl fl_Ga_16 rfl rfl (fun v14 => ?_)
          refine sm_iconst (pc' := 108) d_Ga_makeMove_107 rfl ic_2 (sm_iload (j := 3) (pc' := 110) d_Ga_makeMove_108 rfl rfl (sm_imul (pc' := 111) d_Ga_makeMove_110 rfl (sm_iload (j := 0) (pc' := 113) d_Ga_makeMove_111 rfl rfl (sm_iadd (pc' := 114) d_Ga_makeMove_113 rfl ?_))))
          refine sm_iald (pc' := 115) d_Ga_makeMove_114 rfl (fun v15 => ?_)
          refine sm_aload_n (i := 1) (j := 2) (pc' := 116) d_Ga_makeMove_115 rfl rfl rfl ?_
          refine sm_getI (pc' := 119) d_Ga_makeMove_116 rfl fl_Ga_73 rfl ⟨by decide, by decide⟩ (fun v16 => ?_)
          refine sm_callVv (ci := 5) (x := v13) (av := [.inl v15, .inl v16]) (st := []) (mc := 0) (ms := 0) (pc' := 122) d_Ga_makeMove_119 rfl (sd_Th_passYear v13 v15 v16) m_lv rfl cv_Th_passYear w_ml_Ga_76 rfl rfl (by decide) (Nat.le_of_ble_eq_true rfl) rfl rfl ?_
          refine sm_iinc (j := 0) (L' := [(5, .inl (t11 + 1)), (0, .inr (.inr x0)), (1, .inr (.inr x1)), (4, .inl (x2 + 1))]) (pc' := 125) d_Ga_makeMove_122 rfl (v := (t11 + 1)) rfl (ix_1 _) (Nat.le_of_ble_eq_true rfl) rfl (sm_goto (tgt := 85) d_Ga_makeMove_125 rfl (sm_sub [0, 1, 2, 3] rfl ?_))
          exact sm_rt rfl
      · exact sm_return d_Ga_makeMove_128 rfl rfl
theorem d_Ga_bestFrom_0 : m_D k_Ga_bestFrom 0 (.iload_n 2) 1 := (by decide +kernel : decode prog_4_method_3_code 0 = .ok (.iload_n 2, 1))
theorem d_Ga_bestFrom_1 : m_D k_Ga_bestFrom 1 (.iload_n 3) 1 := (by decide +kernel : decode prog_4_method_3_code 1 = .ok (.iload_n 3, 1))
theorem d_Ga_bestFrom_2 : m_D k_Ga_bestFrom 2 (.if_icmp .ge 8) 3 := (by decide +kernel : decode prog_4_method_3_code 2 = .ok (.if_icmp .ge 8, 3))
theorem d_Ga_bestFrom_5 : m_D k_Ga_bestFrom 5 (.iload_n 2) 1 := (by decide +kernel : decode prog_4_method_3_code 5 = .ok (.iload_n 2, 1))
theorem d_Ga_bestFrom_6 : m_D k_Ga_bestFrom 6 (.iconst 4) 1 := (by decide +kernel : decode prog_4_method_3_code 6 = .ok (.iconst 4, 1))
theorem d_Ga_bestFrom_7 : m_D k_Ga_bestFrom 7 (.if_icmp .lt 29) 3 := (by decide +kernel : decode prog_4_method_3_code 7 = .ok (.if_icmp .lt 29, 3))
theorem d_Ga_bestFrom_10 : m_D k_Ga_bestFrom 10 (.aload_n 0) 1 := (by decide +kernel : decode prog_4_method_3_code 10 = .ok (.aload_n 0, 1))
theorem d_Ga_bestFrom_11 : m_D k_Ga_bestFrom 11 (.getfield 11) 3 := (by decide +kernel : decode prog_4_method_3_code 11 = .ok (.getfield 11, 3))
theorem d_Ga_bestFrom_14 : m_D k_Ga_bestFrom 14 (.iconst 2) 1 := (by decide +kernel : decode prog_4_method_3_code 14 = .ok (.iconst 2, 1))
theorem d_Ga_bestFrom_15 : m_D k_Ga_bestFrom 15 (.iload_n 2) 1 := (by decide +kernel : decode prog_4_method_3_code 15 = .ok (.iload_n 2, 1))
theorem d_Ga_bestFrom_16 : m_D k_Ga_bestFrom 16 (.imul) 1 := (by decide +kernel : decode prog_4_method_3_code 16 = .ok (.imul, 1))
theorem d_Ga_bestFrom_17 : m_D k_Ga_bestFrom 17 (.iconst 1) 1 := (by decide +kernel : decode prog_4_method_3_code 17 = .ok (.iconst 1, 1))
theorem d_Ga_bestFrom_18 : m_D k_Ga_bestFrom 18 (.iadd) 1 := (by decide +kernel : decode prog_4_method_3_code 18 = .ok (.iadd, 1))
theorem d_Ga_bestFrom_19 : m_D k_Ga_bestFrom 19 (.aaload) 1 := (by decide +kernel : decode prog_4_method_3_code 19 = .ok (.aaload, 1))
theorem d_Ga_bestFrom_20 : m_D k_Ga_bestFrom 20 (.getfield 37) 3 := (by decide +kernel : decode prog_4_method_3_code 20 = .ok (.getfield 37, 3))
theorem d_Ga_bestFrom_23 : m_D k_Ga_bestFrom 23 (.aload_n 0) 1 := (by decide +kernel : decode prog_4_method_3_code 23 = .ok (.aload_n 0, 1))
theorem d_Ga_bestFrom_24 : m_D k_Ga_bestFrom 24 (.getfield 11) 3 := (by decide +kernel : decode prog_4_method_3_code 24 = .ok (.getfield 11, 3))
theorem d_Ga_bestFrom_27 : m_D k_Ga_bestFrom 27 (.iconst 2) 1 := (by decide +kernel : decode prog_4_method_3_code 27 = .ok (.iconst 2, 1))
theorem d_Ga_bestFrom_28 : m_D k_Ga_bestFrom 28 (.iload_n 2) 1 := (by decide +kernel : decode prog_4_method_3_code 28 = .ok (.iload_n 2, 1))
theorem d_Ga_bestFrom_29 : m_D k_Ga_bestFrom 29 (.imul) 1 := (by decide +kernel : decode prog_4_method_3_code 29 = .ok (.imul, 1))
theorem d_Ga_bestFrom_30 : m_D k_Ga_bestFrom 30 (.aaload) 1 := (by decide +kernel : decode prog_4_method_3_code 30 = .ok (.aaload, 1))
theorem d_Ga_bestFrom_31 : m_D k_Ga_bestFrom 31 (.getfield 37) 3 := (by decide +kernel : decode prog_4_method_3_code 31 = .ok (.getfield 37, 3))
theorem d_Ga_bestFrom_34 : m_D k_Ga_bestFrom 34 (.isub) 1 := (by decide +kernel : decode prog_4_method_3_code 34 = .ok (.isub, 1))
theorem d_Ga_bestFrom_35 : m_D k_Ga_bestFrom 35 (.ireturn) 1 := (by decide +kernel : decode prog_4_method_3_code 35 = .ok (.ireturn, 1))
theorem d_Ga_bestFrom_36 : m_D k_Ga_bestFrom 36 (.iconst 0) 1 := (by decide +kernel : decode prog_4_method_3_code 36 = .ok (.iconst 0, 1))
theorem d_Ga_bestFrom_37 : m_D k_Ga_bestFrom 37 (.istore 4) 2 := (by decide +kernel : decode prog_4_method_3_code 37 = .ok (.istore 4, 2))
theorem d_Ga_bestFrom_39 : m_D k_Ga_bestFrom 39 (.iconst 0) 1 := (by decide +kernel : decode prog_4_method_3_code 39 = .ok (.iconst 0, 1))
theorem d_Ga_bestFrom_40 : m_D k_Ga_bestFrom 40 (.istore 5) 2 := (by decide +kernel : decode prog_4_method_3_code 40 = .ok (.istore 5, 2))
theorem d_Ga_bestFrom_42 : m_D k_Ga_bestFrom 42 (.iconst 0) 1 := (by decide +kernel : decode prog_4_method_3_code 42 = .ok (.iconst 0, 1))
theorem d_Ga_bestFrom_43 : m_D k_Ga_bestFrom 43 (.istore 6) 2 := (by decide +kernel : decode prog_4_method_3_code 43 = .ok (.istore 6, 2))
theorem d_Ga_bestFrom_45 : m_D k_Ga_bestFrom 45 (.iload 6) 2 := (by decide +kernel : decode prog_4_method_3_code 45 = .ok (.iload 6, 2))
theorem d_Ga_bestFrom_47 : m_D k_Ga_bestFrom 47 (.iconst 3) 1 := (by decide +kernel : decode prog_4_method_3_code 47 = .ok (.iconst 3, 1))
theorem d_Ga_bestFrom_48 : m_D k_Ga_bestFrom 48 (.if_icmp .ge 90) 3 := (by decide +kernel : decode prog_4_method_3_code 48 = .ok (.if_icmp .ge 90, 3))
theorem d_Ga_bestFrom_51 : m_D k_Ga_bestFrom 51 (.aload_n 0) 1 := (by decide +kernel : decode prog_4_method_3_code 51 = .ok (.aload_n 0, 1))
theorem d_Ga_bestFrom_52 : m_D k_Ga_bestFrom 52 (.iload_n 2) 1 := (by decide +kernel : decode prog_4_method_3_code 52 = .ok (.iload_n 2, 1))
theorem d_Ga_bestFrom_53 : m_D k_Ga_bestFrom 53 (.iload 6) 2 := (by decide +kernel : decode prog_4_method_3_code 53 = .ok (.iload 6, 2))
theorem d_Ga_bestFrom_55 : m_D k_Ga_bestFrom 55 (.invokevirtual 41) 3 := (by decide +kernel : decode prog_4_method_3_code 55 = .ok (.invokevirtual 41, 3))
theorem d_Ga_bestFrom_58 : m_D k_Ga_bestFrom 58 (.ifCond .eq 74) 3 := (by decide +kernel : decode prog_4_method_3_code 58 = .ok (.ifCond .eq 74, 3))
theorem d_Ga_bestFrom_61 : m_D k_Ga_bestFrom 61 (.aload_n 0) 1 := (by decide +kernel : decode prog_4_method_3_code 61 = .ok (.aload_n 0, 1))
theorem d_Ga_bestFrom_62 : m_D k_Ga_bestFrom 62 (.aload_n 1) 1 := (by decide +kernel : decode prog_4_method_3_code 62 = .ok (.aload_n 1, 1))
theorem d_Ga_bestFrom_63 : m_D k_Ga_bestFrom 63 (.iload_n 2) 1 := (by decide +kernel : decode prog_4_method_3_code 63 = .ok (.iload_n 2, 1))
theorem d_Ga_bestFrom_64 : m_D k_Ga_bestFrom 64 (.iload 6) 2 := (by decide +kernel : decode prog_4_method_3_code 64 = .ok (.iload 6, 2))
theorem d_Ga_bestFrom_66 : m_D k_Ga_bestFrom 66 (.invokevirtual 45) 3 := (by decide +kernel : decode prog_4_method_3_code 66 = .ok (.invokevirtual 45, 3))
theorem d_Ga_bestFrom_69 : m_D k_Ga_bestFrom 69 (.aload_n 0) 1 := (by decide +kernel : decode prog_4_method_3_code 69 = .ok (.aload_n 0, 1))
theorem d_Ga_bestFrom_70 : m_D k_Ga_bestFrom 70 (.aload_n 1) 1 := (by decide +kernel : decode prog_4_method_3_code 70 = .ok (.aload_n 1, 1))
theorem d_Ga_bestFrom_71 : m_D k_Ga_bestFrom 71 (.iload_n 2) 1 := (by decide +kernel : decode prog_4_method_3_code 71 = .ok (.iload_n 2, 1))
theorem d_Ga_bestFrom_72 : m_D k_Ga_bestFrom 72 (.iconst 1) 1 := (by decide +kernel : decode prog_4_method_3_code 72 = .ok (.iconst 1, 1))
theorem d_Ga_bestFrom_73 : m_D k_Ga_bestFrom 73 (.iadd) 1 := (by decide +kernel : decode prog_4_method_3_code 73 = .ok (.iadd, 1))
theorem d_Ga_bestFrom_74 : m_D k_Ga_bestFrom 74 (.iload_n 3) 1 := (by decide +kernel : decode prog_4_method_3_code 74 = .ok (.iload_n 3, 1))
theorem d_Ga_bestFrom_75 : m_D k_Ga_bestFrom 75 (.invokevirtual 33) 3 := (by decide +kernel : decode prog_4_method_3_code 75 = .ok (.invokevirtual 33, 3))
theorem d_Ga_bestFrom_78 : m_D k_Ga_bestFrom 78 (.istore 7) 2 := (by decide +kernel : decode prog_4_method_3_code 78 = .ok (.istore 7, 2))
theorem d_Ga_bestFrom_80 : m_D k_Ga_bestFrom 80 (.iload 5) 2 := (by decide +kernel : decode prog_4_method_3_code 80 = .ok (.iload 5, 2))
theorem d_Ga_bestFrom_82 : m_D k_Ga_bestFrom 82 (.ifCond .eq 26) 3 := (by decide +kernel : decode prog_4_method_3_code 82 = .ok (.ifCond .eq 26, 3))
theorem d_Ga_bestFrom_85 : m_D k_Ga_bestFrom 85 (.iload_n 2) 1 := (by decide +kernel : decode prog_4_method_3_code 85 = .ok (.iload_n 2, 1))
theorem d_Ga_bestFrom_86 : m_D k_Ga_bestFrom 86 (.iconst 2) 1 := (by decide +kernel : decode prog_4_method_3_code 86 = .ok (.iconst 2, 1))
theorem d_Ga_bestFrom_87 : m_D k_Ga_bestFrom 87 (.irem) 1 := (by decide +kernel : decode prog_4_method_3_code 87 = .ok (.irem, 1))
theorem d_Ga_bestFrom_88 : m_D k_Ga_bestFrom 88 (.ifCond .ne 13) 3 := (by decide +kernel : decode prog_4_method_3_code 88 = .ok (.ifCond .ne 13, 3))
theorem d_Ga_bestFrom_91 : m_D k_Ga_bestFrom 91 (.iload 7) 2 := (by decide +kernel : decode prog_4_method_3_code 91 = .ok (.iload 7, 2))
theorem d_Ga_bestFrom_93 : m_D k_Ga_bestFrom 93 (.iload 4) 2 := (by decide +kernel : decode prog_4_method_3_code 93 = .ok (.iload 4, 2))
theorem d_Ga_bestFrom_95 : m_D k_Ga_bestFrom 95 (.if_icmp .le 37) 3 := (by decide +kernel : decode prog_4_method_3_code 95 = .ok (.if_icmp .le 37, 3))
theorem d_Ga_bestFrom_98 : m_D k_Ga_bestFrom 98 (.goto 10) 3 := (by decide +kernel : decode prog_4_method_3_code 98 = .ok (.goto 10, 3))
theorem d_Ga_bestFrom_101 : m_D k_Ga_bestFrom 101 (.iload 7) 2 := (by decide +kernel : decode prog_4_method_3_code 101 = .ok (.iload 7, 2))
theorem d_Ga_bestFrom_103 : m_D k_Ga_bestFrom 103 (.iload 4) 2 := (by decide +kernel : decode prog_4_method_3_code 103 = .ok (.iload 4, 2))
theorem d_Ga_bestFrom_105 : m_D k_Ga_bestFrom 105 (.if_icmp .ge 27) 3 := (by decide +kernel : decode prog_4_method_3_code 105 = .ok (.if_icmp .ge 27, 3))
theorem d_Ga_bestFrom_108 : m_D k_Ga_bestFrom 108 (.iconst 1) 1 := (by decide +kernel : decode prog_4_method_3_code 108 = .ok (.iconst 1, 1))
theorem d_Ga_bestFrom_109 : m_D k_Ga_bestFrom 109 (.istore 5) 2 := (by decide +kernel : decode prog_4_method_3_code 109 = .ok (.istore 5, 2))
theorem d_Ga_bestFrom_111 : m_D k_Ga_bestFrom 111 (.iload 7) 2 := (by decide +kernel : decode prog_4_method_3_code 111 = .ok (.iload 7, 2))
theorem d_Ga_bestFrom_113 : m_D k_Ga_bestFrom 113 (.istore 4) 2 := (by decide +kernel : decode prog_4_method_3_code 113 = .ok (.istore 4, 2))
theorem d_Ga_bestFrom_115 : m_D k_Ga_bestFrom 115 (.aload_n 0) 1 := (by decide +kernel : decode prog_4_method_3_code 115 = .ok (.aload_n 0, 1))
theorem d_Ga_bestFrom_116 : m_D k_Ga_bestFrom 116 (.iload_n 2) 1 := (by decide +kernel : decode prog_4_method_3_code 116 = .ok (.iload_n 2, 1))
theorem d_Ga_bestFrom_117 : m_D k_Ga_bestFrom 117 (.ifCond .ne 8) 3 := (by decide +kernel : decode prog_4_method_3_code 117 = .ok (.ifCond .ne 8, 3))
theorem d_Ga_bestFrom_120 : m_D k_Ga_bestFrom 120 (.iload 6) 2 := (by decide +kernel : decode prog_4_method_3_code 120 = .ok (.iload 6, 2))
theorem d_Ga_bestFrom_122 : m_D k_Ga_bestFrom 122 (.goto 7) 3 := (by decide +kernel : decode prog_4_method_3_code 122 = .ok (.goto 7, 3))
theorem d_Ga_bestFrom_125 : m_D k_Ga_bestFrom 125 (.aload_n 0) 1 := (by decide +kernel : decode prog_4_method_3_code 125 = .ok (.aload_n 0, 1))
theorem d_Ga_bestFrom_126 : m_D k_Ga_bestFrom 126 (.getfield 49) 3 := (by decide +kernel : decode prog_4_method_3_code 126 = .ok (.getfield 49, 3))
theorem d_Ga_bestFrom_129 : m_D k_Ga_bestFrom 129 (.putfield 49) 3 := (by decide +kernel : decode prog_4_method_3_code 129 = .ok (.putfield 49, 3))
theorem d_Ga_bestFrom_132 : m_D k_Ga_bestFrom 132 (.iinc 6 1) 3 := (by decide +kernel : decode prog_4_method_3_code 132 = .ok (.iinc 6 1, 3))
theorem d_Ga_bestFrom_135 : m_D k_Ga_bestFrom 135 (.goto (-90)) 3 := (by decide +kernel : decode prog_4_method_3_code 135 = .ok (.goto (-90), 3))
theorem d_Ga_bestFrom_138 : m_D k_Ga_bestFrom 138 (.iload 4) 2 := (by decide +kernel : decode prog_4_method_3_code 138 = .ok (.iload 4, 2))
theorem d_Ga_bestFrom_140 : m_D k_Ga_bestFrom 140 (.ireturn) 1 := (by decide +kernel : decode prog_4_method_3_code 140 = .ok (.ireturn, 1))
def fn_Ga_bestFrom_l45 (r : Option mA → Option mA → Int32 → Int32 → mP Int32) (x0 : Option mA) (x1 : Option mA) (x2 : Int32) (x3 : Int32) (t7 : Int32 × Int32 × Int32) : mP ((Int32 × Int32 × Int32) ⊕ (Int32)) :=
  if 3 ≤ t7.2.2 then
    m_rt (.inr t7.1)
  else
    m_bd (fn_Ga_canMove x0 x2 t7.2.2) fun v8 =>
    m_bd (α := Int32 × Int32) (
      if v8 = 0 then
        m_rt (t7.1, t7.2.1)
      else
        m_bd (fn_Ga_makeMove x0 x1 x2 t7.2.2) fun _ =>
        m_bd (r x0 x1 (x2 + 1) x3) fun v9 =>
        if t7.2.1 = 0 then
          m_bd (α := Int32) (
            if x2 = 0 then
              m_rt t7.2.2
            else
              m_bd (m_gI 10 0 x0) fun v10 =>
              m_rt v10
            ) fun (t11 : Int32) =>
          m_bd (m_pI 10 0 x0 t11) fun _ =>
          m_rt (v9, 1)
        else
          if (iR x2 2) = 0 then
            if v9 ≤ t7.1 then
              m_rt (t7.1, t7.2.1)
            else
              m_bd (α := Int32) (
                if x2 = 0 then
                  m_rt t7.2.2
                else
                  m_bd (m_gI 10 0 x0) fun v14 =>
                  m_rt v14
                ) fun (t15 : Int32) =>
              m_bd (m_pI 10 0 x0 t15) fun _ =>
              m_rt (v9, 1)
          else
            if t7.1 ≤ v9 then
              m_rt (t7.1, t7.2.1)
            else
              m_bd (α := Int32) (
                if x2 = 0 then
                  m_rt t7.2.2
                else
                  m_bd (m_gI 10 0 x0) fun v12 =>
                  m_rt v12
                ) fun (t13 : Int32) =>
              m_bd (m_pI 10 0 x0 t13) fun _ =>
              m_rt (v9, 1)
      ) fun (t16 : Int32 × Int32) =>
    m_rt (.inl (t16.1, t16.2, (t7.2.2 + 1)))
def fn_Ga_bestFrom_r (r : Option mA → Option mA → Int32 → Int32 → mP Int32) (x0 : Option mA) (x1 : Option mA) (x2 : Int32) (x3 : Int32) : mP Int32 :=
  m_th 10 x0 <|
  if x3 ≤ x2 then
    m_bd (m_gR 10 1 x0) fun v1 =>
    m_bd (m_aR 7 v1 ((2 * x2) + 1)) fun v2 =>
    m_bd (m_gI 5 3 v2) fun v3 =>
    m_bd (m_gR 10 1 x0) fun v4 =>
    m_bd (m_aR 7 v4 (2 * x2)) fun v5 =>
    m_bd (m_gI 5 3 v5) fun v6 =>
    m_rt (v3 - v6)
  else
    if x2 < 4 then
      m_bd (m_lp (fn_Ga_bestFrom_l45 r x0 x1 x2 x3) m_F (0, 0, 0)) fun (t17 : Int32) =>
      m_rt t17
    else
      m_bd (m_gR 10 1 x0) fun v18 =>
      m_bd (m_aR 7 v18 ((2 * x2) + 1)) fun v19 =>
      m_bd (m_gI 5 3 v19) fun v20 =>
      m_bd (m_gR 10 1 x0) fun v21 =>
      m_bd (m_aR 7 v21 (2 * x2)) fun v22 =>
      m_bd (m_gI 5 3 v22) fun v23 =>
      m_rt (v20 - v23)
set_option maxHeartbeats 4000000 in
set_option maxRecDepth 100000 in
theorem sd_Ga_bestFrom_r (r : Option mA → Option mA → Int32 → Int32 → mP Int32) (dr : Nat) (hr : ∀ (y0 : Option mA) (y1 : Option mA) (y2 : Int32) (y3 : Int32), m_Sm k_Ga_bestFrom dr 0 0 [.inr (.inr y0), .inr (.inr y1), .inl y2, .inl y3] (r y0 y1 y2 y3) (fun b => some (.inl b))) (hv : ∀ (y0 : Option mA) (y1 : Option mA) (y2 : Int32) (y3 : Int32), m_Lv 10 y0 (r y0 y1 y2 y3)) (x0 : Option mA) (x1 : Option mA) (x2 : Int32) (x3 : Int32) : m_Sm k_Ga_bestFrom ((max 5 (dr + 1))) 0 0 [.inr (.inr x0), .inr (.inr x1), .inl x2, .inl x3] (fn_Ga_bestFrom_r r x0 x1 x2 x3) (fun b => some (.inl b)) := by
  refine ⟨Nat.le_of_ble_eq_true rfl, ?_⟩
  refine sm_th ?_
  refine sm_iload_n (i := 2) (j := 2) (pc' := 1) d_Ga_bestFrom_0 rfl rfl rfl (sm_iload_n (i := 3) (j := 3) (pc' := 2) d_Ga_bestFrom_1 rfl rfl rfl ?_)
  refine sm_icmp_ge (tgt := 10) (pc' := 5) d_Ga_bestFrom_2 rfl rfl ?_ ?_
  · refine sm_aload_n (i := 0) (j := 0) (pc' := 11) d_Ga_bestFrom_10 rfl rfl rfl ?_
    refine sm_getR (pc' := 14) d_Ga_bestFrom_11 rfl fl_Ga_11 rfl rfl (fun v1 => ?_)
    refine sm_iconst (pc' := 15) d_Ga_bestFrom_14 rfl ic_2 (sm_iload_n (i := 2) (j := 2) (pc' := 16) d_Ga_bestFrom_15 rfl rfl rfl (sm_imul (pc' := 17) d_Ga_bestFrom_16 rfl (sm_iconst (pc' := 18) d_Ga_bestFrom_17 rfl ic_1 (sm_iadd (pc' := 19) d_Ga_bestFrom_18 rfl ?_))))
    refine sm_aald (t := 7) ⟨by decide, by decide⟩ rfl (pc' := 20) d_Ga_bestFrom_19 rfl (fun v2 => ?_)
    refine sm_getI (pc' := 23) d_Ga_bestFrom_20 rfl fl_Ga_37 rfl ⟨by decide, by decide⟩ (fun v3 => ?_)
    refine sm_aload_n (i := 0) (j := 0) (pc' := 24) d_Ga_bestFrom_23 rfl rfl rfl ?_
    refine sm_getR (pc' := 27) d_Ga_bestFrom_24 rfl fl_Ga_11 rfl rfl (fun v4 => ?_)
    refine sm_iconst (pc' := 28) d_Ga_bestFrom_27 rfl ic_2 (sm_iload_n (i := 2) (j := 2) (pc' := 29) d_Ga_bestFrom_28 rfl rfl rfl (sm_imul (pc' := 30) d_Ga_bestFrom_29 rfl ?_))
    refine sm_aald (t := 7) ⟨by decide, by decide⟩ rfl (pc' := 31) d_Ga_bestFrom_30 rfl (fun v5 => ?_)
    refine sm_getI (pc' := 34) d_Ga_bestFrom_31 rfl fl_Ga_37 rfl ⟨by decide, by decide⟩ (fun v6 => ?_)
    refine sm_isub (pc' := 35) d_Ga_bestFrom_34 rfl ?_
    exact sm_ireturn d_Ga_bestFrom_35 rfl rfl
  · refine sm_iload_n (i := 2) (j := 2) (pc' := 6) d_Ga_bestFrom_5 rfl rfl rfl (sm_iconst (pc' := 7) d_Ga_bestFrom_6 rfl ic_4 ?_)
    refine sm_icmp_lt (tgt := 36) (pc' := 10) d_Ga_bestFrom_7 rfl rfl ?_ ?_
    · refine sm_iconst (pc' := 37) d_Ga_bestFrom_36 rfl ic_0 (sm_istore (L' := [(4, .inl 0), (0, .inr (.inr x0)), (1, .inr (.inr x1)), (2, .inl x2), (3, .inl x3)]) (pc' := 39) d_Ga_bestFrom_37 rfl (Nat.le_of_ble_eq_true rfl) rfl (sm_iconst (pc' := 40) d_Ga_bestFrom_39 rfl ic_0 (sm_istore (L' := [(5, .inl 0), (4, .inl 0), (0, .inr (.inr x0)), (1, .inr (.inr x1)), (2, .inl x2), (3, .inl x3)]) (pc' := 42) d_Ga_bestFrom_40 rfl (Nat.le_of_ble_eq_true rfl) rfl (sm_iconst (pc' := 43) d_Ga_bestFrom_42 rfl ic_0 (sm_istore (L' := [(6, .inl 0), (5, .inl 0), (4, .inl 0), (0, .inr (.inr x0)), (1, .inr (.inr x1)), (2, .inl x2), (3, .inl x3)]) (pc' := 45) d_Ga_bestFrom_43 rfl (Nat.le_of_ble_eq_true rfl) rfl ?_)))))
      refine sm_sub [2, 1, 0, 3, 4, 5, 6] rfl ?_
      refine sm_bd (mid := fun (t17 : Int32) => .inl (138, [(4, .inl t17)], [])) (sm_lp (hd := fun (t7 : Int32 × Int32 × Int32) => (.inl (45, [(4, .inl t7.1), (5, .inl t7.2.1), (6, .inl t7.2.2), (0, .inr (.inr x0)), (1, .inr (.inr x1)), (2, .inl x2), (3, .inl x3)], []) : mC)) (fun t7 => ?_) m_F (0, 0, 0)) (fun t17 => ?_)
      · refine sm_iload (j := 2) (pc' := 47) d_Ga_bestFrom_45 rfl rfl (sm_iconst (pc' := 48) d_Ga_bestFrom_47 rfl ic_3 ?_)
        refine sm_icmp_ge (tgt := 138) (pc' := 51) d_Ga_bestFrom_48 rfl rfl ?_ ?_
        · refine sm_sub [0] rfl ?_
          exact sm_rt rfl
        · refine sm_aload_n (i := 0) (j := 3) (pc' := 52) d_Ga_bestFrom_51 rfl rfl rfl (sm_iload_n (i := 2) (j := 5) (pc' := 53) d_Ga_bestFrom_52 rfl rfl rfl (sm_iload (j := 2) (pc' := 55) d_Ga_bestFrom_53 rfl rfl ?_))
          refine sm_callVi (ci := 10) (x := x0) (av := [.inl x2, .inl t7.2.2]) (st := []) (mc := 0) (ms := 0) (pc' := 58) d_Ga_bestFrom_55 rfl (sd_Ga_canMove x0 x2 t7.2.2) m_lv rfl cv_Ga_canMove w_ml_Ga_41 rfl rfl (by omega) (Nat.le_of_ble_eq_true rfl) rfl rfl (fun v8 => ?_)
          refine sm_bd (mid := fun (t16 : Int32 × Int32) => .inl (132, [(0, .inr (.inr x0)), (1, .inr (.inr x1)), (2, .inl x2), (3, .inl x3), (4, .inl t16.1), (5, .inl t16.2), (6, .inl t7.2.2)], [])) ?_ (fun t16 => ?_)
          · refine sm_if_eq (tgt := 132) (pc' := 61) d_Ga_bestFrom_58 rfl rfl ?_ ?_
            · refine sm_sub [3, 4, 5, 6, 0, 1, 2] rfl ?_
              exact sm_rt rfl
            · refine sm_aload_n (i := 0) (j := 3) (pc' := 62) d_Ga_bestFrom_61 rfl rfl rfl (sm_aload_n (i := 1) (j := 4) (pc' := 63) d_Ga_bestFrom_62 rfl rfl rfl (sm_iload_n (i := 2) (j := 5) (pc' := 64) d_Ga_bestFrom_63 rfl rfl rfl (sm_iload (j := 2) (pc' := 66) d_Ga_bestFrom_64 rfl rfl ?_)))
              refine sm_callVv (ci := 10) (x := x0) (av := [.inr (.inr x1), .inl x2, .inl t7.2.2]) (st := []) (mc := 0) (ms := 0) (pc' := 69) d_Ga_bestFrom_66 rfl (sd_Ga_makeMove x0 x1 x2 t7.2.2) m_lv rfl cv_Ga_makeMove w_ml_Ga_45 rfl rfl (by omega) (Nat.le_of_ble_eq_true rfl) rfl rfl ?_
              refine sm_aload_n (i := 0) (j := 3) (pc' := 70) d_Ga_bestFrom_69 rfl rfl rfl (sm_aload_n (i := 1) (j := 4) (pc' := 71) d_Ga_bestFrom_70 rfl rfl rfl (sm_iload_n (i := 2) (j := 5) (pc' := 72) d_Ga_bestFrom_71 rfl rfl rfl (sm_iconst (pc' := 73) d_Ga_bestFrom_72 rfl ic_1 (sm_iadd (pc' := 74) d_Ga_bestFrom_73 rfl (sm_iload_n (i := 3) (j := 6) (pc' := 75) d_Ga_bestFrom_74 rfl rfl rfl ?_)))))
              refine sm_callVi (ci := 10) (x := x0) (av := [.inr (.inr x1), .inl (x2 + 1), .inl x3]) (st := []) (mc := 0) (ms := 0) (pc' := 78) d_Ga_bestFrom_75 rfl (hr x0 x1 (x2 + 1) x3) (hv x0 x1 (x2 + 1) x3) rfl cv_Ga_bestFrom w_ml_Ga_33 rfl rfl (by omega) (Nat.le_of_ble_eq_true rfl) rfl rfl (fun v9 => ?_)
              refine sm_istore (L' := [(7, .inl v9), (4, .inl t7.1), (5, .inl t7.2.1), (6, .inl t7.2.2), (0, .inr (.inr x0)), (1, .inr (.inr x1)), (2, .inl x2), (3, .inl x3)]) (pc' := 80) d_Ga_bestFrom_78 rfl (Nat.le_of_ble_eq_true rfl) rfl (sm_iload (j := 2) (pc' := 82) d_Ga_bestFrom_80 rfl rfl ?_)
              refine sm_if_eq (tgt := 108) (pc' := 85) d_Ga_bestFrom_82 rfl rfl ?_ ?_
              · refine sm_iconst (pc' := 109) d_Ga_bestFrom_108 rfl ic_1 (sm_istore (L' := [(5, .inl 1), (7, .inl v9), (4, .inl t7.1), (6, .inl t7.2.2), (0, .inr (.inr x0)), (1, .inr (.inr x1)), (2, .inl x2), (3, .inl x3)]) (pc' := 111) d_Ga_bestFrom_109 rfl (Nat.le_of_ble_eq_true rfl) rfl (sm_iload (j := 1) (pc' := 113) d_Ga_bestFrom_111 rfl rfl (sm_istore (L' := [(4, .inl v9), (5, .inl 1), (7, .inl v9), (6, .inl t7.2.2), (0, .inr (.inr x0)), (1, .inr (.inr x1)), (2, .inl x2), (3, .inl x3)]) (pc' := 115) d_Ga_bestFrom_113 rfl (Nat.le_of_ble_eq_true rfl) rfl (sm_aload_n (i := 0) (j := 4) (pc' := 116) d_Ga_bestFrom_115 rfl rfl rfl (sm_iload_n (i := 2) (j := 6) (pc' := 117) d_Ga_bestFrom_116 rfl rfl rfl ?_)))))
                refine sm_bd (mid := fun (t11 : Int32) => .inl (129, [(0, .inr (.inr x0)), (1, .inr (.inr x1)), (2, .inl x2), (3, .inl x3), (4, .inl v9), (5, .inl 1), (6, .inl t7.2.2)], [.inl t11, .inr (.inr x0)])) ?_ (fun t11 => ?_)
                · refine sm_if_ne (tgt := 125) (pc' := 120) d_Ga_bestFrom_117 rfl rfl ?_ ?_
                  · refine sm_aload_n (i := 0) (j := 4) (pc' := 126) d_Ga_bestFrom_125 rfl rfl rfl ?_
                    refine sm_getI (pc' := 129) d_Ga_bestFrom_126 rfl fl_Ga_49 rfl ⟨by decide, by decide⟩ (fun v10 => ?_)
                    refine sm_sub [4, 5, 6, 7, 0, 1, 3] rfl ?_
                    exact sm_rt rfl
                  · refine sm_iload (j := 3) (pc' := 122) d_Ga_bestFrom_120 rfl rfl (sm_goto (tgt := 129) d_Ga_bestFrom_122 rfl (sm_sub [4, 5, 6, 7, 0, 1, 3] rfl ?_))
                    exact sm_rt rfl
                · refine sm_putI (pc' := 132) d_Ga_bestFrom_129 rfl fl_Ga_49 (Or.inl rfl) rfl (sm_sub [0, 1, 2, 3, 4, 5, 6] rfl ?_)
                  exact sm_rt rfl
              · refine sm_iload_n (i := 2) (j := 6) (pc' := 86) d_Ga_bestFrom_85 rfl rfl rfl (sm_iconst (pc' := 87) d_Ga_bestFrom_86 rfl ic_2 (sm_irem (pc' := 88) d_Ga_bestFrom_87 rfl (by decide) ?_))
                refine sm_if_ne (tgt := 101) (pc' := 91) d_Ga_bestFrom_88 rfl rfl ?_ ?_
                · refine sm_iload (j := 0) (pc' := 103) d_Ga_bestFrom_101 rfl rfl (sm_iload (j := 1) (pc' := 105) d_Ga_bestFrom_103 rfl rfl ?_)
                  refine sm_icmp_ge (tgt := 132) (pc' := 108) d_Ga_bestFrom_105 rfl rfl ?_ ?_
                  · refine sm_sub [4, 5, 6, 7, 1, 2, 3] rfl ?_
                    exact sm_rt rfl
                  · refine sm_iconst (pc' := 109) d_Ga_bestFrom_108 rfl ic_1 (sm_istore (L' := [(5, .inl 1), (7, .inl v9), (4, .inl t7.1), (6, .inl t7.2.2), (0, .inr (.inr x0)), (1, .inr (.inr x1)), (2, .inl x2), (3, .inl x3)]) (pc' := 111) d_Ga_bestFrom_109 rfl (Nat.le_of_ble_eq_true rfl) rfl (sm_iload (j := 1) (pc' := 113) d_Ga_bestFrom_111 rfl rfl (sm_istore (L' := [(4, .inl v9), (5, .inl 1), (7, .inl v9), (6, .inl t7.2.2), (0, .inr (.inr x0)), (1, .inr (.inr x1)), (2, .inl x2), (3, .inl x3)]) (pc' := 115) d_Ga_bestFrom_113 rfl (Nat.le_of_ble_eq_true rfl) rfl (sm_aload_n (i := 0) (j := 4) (pc' := 116) d_Ga_bestFrom_115 rfl rfl rfl (sm_iload_n (i := 2) (j := 6) (pc' := 117) d_Ga_bestFrom_116 rfl rfl rfl ?_)))))
                    refine sm_bd (mid := fun (t13 : Int32) => .inl (129, [(0, .inr (.inr x0)), (1, .inr (.inr x1)), (2, .inl x2), (3, .inl x3), (4, .inl v9), (5, .inl 1), (6, .inl t7.2.2)], [.inl t13, .inr (.inr x0)])) ?_ (fun t13 => ?_)
                    · refine sm_if_ne (tgt := 125) (pc' := 120) d_Ga_bestFrom_117 rfl rfl ?_ ?_
                      · refine sm_aload_n (i := 0) (j := 4) (pc' := 126) d_Ga_bestFrom_125 rfl rfl rfl ?_
                        refine sm_getI (pc' := 129) d_Ga_bestFrom_126 rfl fl_Ga_49 rfl ⟨by decide, by decide⟩ (fun v12 => ?_)
                        refine sm_sub [4, 5, 6, 7, 0, 1, 3] rfl ?_
                        exact sm_rt rfl
                      · refine sm_iload (j := 3) (pc' := 122) d_Ga_bestFrom_120 rfl rfl (sm_goto (tgt := 129) d_Ga_bestFrom_122 rfl (sm_sub [4, 5, 6, 7, 0, 1, 3] rfl ?_))
                        exact sm_rt rfl
                    · refine sm_putI (pc' := 132) d_Ga_bestFrom_129 rfl fl_Ga_49 (Or.inl rfl) rfl (sm_sub [0, 1, 2, 3, 4, 5, 6] rfl ?_)
                      exact sm_rt rfl
                · refine sm_iload (j := 0) (pc' := 93) d_Ga_bestFrom_91 rfl rfl (sm_iload (j := 1) (pc' := 95) d_Ga_bestFrom_93 rfl rfl ?_)
                  refine sm_icmp_le (tgt := 132) (pc' := 98) d_Ga_bestFrom_95 rfl rfl ?_ ?_
                  · refine sm_sub [4, 5, 6, 7, 1, 2, 3] rfl ?_
                    exact sm_rt rfl
                  · refine sm_goto (tgt := 108) d_Ga_bestFrom_98 rfl (sm_iconst (pc' := 109) d_Ga_bestFrom_108 rfl ic_1 (sm_istore (L' := [(5, .inl 1), (7, .inl v9), (4, .inl t7.1), (6, .inl t7.2.2), (0, .inr (.inr x0)), (1, .inr (.inr x1)), (2, .inl x2), (3, .inl x3)]) (pc' := 111) d_Ga_bestFrom_109 rfl (Nat.le_of_ble_eq_true rfl) rfl (sm_iload (j := 1) (pc' := 113) d_Ga_bestFrom_111 rfl rfl (sm_istore (L' := [(4, .inl v9), (5, .inl 1), (7, .inl v9), (6, .inl t7.2.2), (0, .inr (.inr x0)), (1, .inr (.inr x1)), (2, .inl x2), (3, .inl x3)]) (pc' := 115) d_Ga_bestFrom_113 rfl (Nat.le_of_ble_eq_true rfl) rfl (sm_aload_n (i := 0) (j := 4) (pc' := 116) d_Ga_bestFrom_115 rfl rfl rfl (sm_iload_n (i := 2) (j := 6) (pc' := 117) d_Ga_bestFrom_116 rfl rfl rfl ?_))))))
                    refine sm_bd (mid := fun (t15 : Int32) => .inl (129, [(0, .inr (.inr x0)), (1, .inr (.inr x1)), (2, .inl x2), (3, .inl x3), (4, .inl v9), (5, .inl 1), (6, .inl t7.2.2)], [.inl t15, .inr (.inr x0)])) ?_ (fun t15 => ?_)
                    · refine sm_if_ne (tgt := 125) (pc' := 120) d_Ga_bestFrom_117 rfl rfl ?_ ?_
                      · refine sm_aload_n (i := 0) (j := 4) (pc' := 126) d_Ga_bestFrom_125 rfl rfl rfl ?_
                        refine sm_getI (pc' := 129) d_Ga_bestFrom_126 rfl fl_Ga_49 rfl ⟨by decide, by decide⟩ (fun v14 => ?_)
                        refine sm_sub [4, 5, 6, 7, 0, 1, 3] rfl ?_
                        exact sm_rt rfl
                      · refine sm_iload (j := 3) (pc' := 122) d_Ga_bestFrom_120 rfl rfl (sm_goto (tgt := 129) d_Ga_bestFrom_122 rfl (sm_sub [4, 5, 6, 7, 0, 1, 3] rfl ?_))
                        exact sm_rt rfl
                    · refine sm_putI (pc' := 132) d_Ga_bestFrom_129 rfl fl_Ga_49 (Or.inl rfl) rfl (sm_sub [0, 1, 2, 3, 4, 5, 6] rfl ?_)
                      exact sm_rt rfl
          · refine sm_iinc (j := 6) (L' := [(6, .inl (t7.2.2 + 1)), (0, .inr (.inr x0)), (1, .inr (.inr x1)), (2, .inl x2), (3, .inl x3), (4, .inl t16.1), (5, .inl t16.2)]) (pc' := 135) d_Ga_bestFrom_132 rfl (v := (t7.2.2 + 1)) rfl (ix_1 _) (Nat.le_of_ble_eq_true rfl) rfl (sm_goto (tgt := 45) d_Ga_bestFrom_135 rfl (sm_sub [5, 6, 0, 1, 2, 3, 4] rfl ?_))
            exact sm_rt rfl
      · refine sm_iload (j := 0) (pc' := 140) d_Ga_bestFrom_138 rfl rfl ?_
        exact sm_ireturn d_Ga_bestFrom_140 rfl rfl
    · refine sm_aload_n (i := 0) (j := 0) (pc' := 11) d_Ga_bestFrom_10 rfl rfl rfl ?_
      refine sm_getR (pc' := 14) d_Ga_bestFrom_11 rfl fl_Ga_11 rfl rfl (fun v18 => ?_)
      refine sm_iconst (pc' := 15) d_Ga_bestFrom_14 rfl ic_2 (sm_iload_n (i := 2) (j := 2) (pc' := 16) d_Ga_bestFrom_15 rfl rfl rfl (sm_imul (pc' := 17) d_Ga_bestFrom_16 rfl (sm_iconst (pc' := 18) d_Ga_bestFrom_17 rfl ic_1 (sm_iadd (pc' := 19) d_Ga_bestFrom_18 rfl ?_))))
      refine sm_aald (t := 7) ⟨by decide, by decide⟩ rfl (pc' := 20) d_Ga_bestFrom_19 rfl (fun v19 => ?_)
      refine sm_getI (pc' := 23) d_Ga_bestFrom_20 rfl fl_Ga_37 rfl ⟨by decide, by decide⟩ (fun v20 => ?_)
      refine sm_aload_n (i := 0) (j := 0) (pc' := 24) d_Ga_bestFrom_23 rfl rfl rfl ?_
      refine sm_getR (pc' := 27) d_Ga_bestFrom_24 rfl fl_Ga_11 rfl rfl (fun v21 => ?_)
      refine sm_iconst (pc' := 28) d_Ga_bestFrom_27 rfl ic_2 (sm_iload_n (i := 2) (j := 2) (pc' := 29) d_Ga_bestFrom_28 rfl rfl rfl (sm_imul (pc' := 30) d_Ga_bestFrom_29 rfl ?_))
      refine sm_aald (t := 7) ⟨by decide, by decide⟩ rfl (pc' := 31) d_Ga_bestFrom_30 rfl (fun v22 => ?_)
      refine sm_getI (pc' := 34) d_Ga_bestFrom_31 rfl fl_Ga_37 rfl ⟨by decide, by decide⟩ (fun v23 => ?_)
      refine sm_isub (pc' := 35) d_Ga_bestFrom_34 rfl ?_
      exact sm_ireturn d_Ga_bestFrom_35 rfl rfl
def fn_Ga_bestFrom : Nat → Option mA → Option mA → Int32 → Int32 → mP Int32
  | 0, _, _, _, _ => m_fl
  | n + 1, x0, x1, x2, x3 => fn_Ga_bestFrom_r (fn_Ga_bestFrom n) x0 x1 x2 x3
theorem lv_Ga_bestFrom : ∀ (n : Nat) (x0 : Option mA) (x1 : Option mA) (x2 : Int32) (x3 : Int32), m_Lv 10 x0 (fn_Ga_bestFrom n x0 x1 x2 x3)
  | 0, _, _, _, _ => m_lv0
  | n + 1, _, _, _, _ => m_lv
theorem sd_Ga_bestFrom : ∀ (n : Nat) (x0 : Option mA) (x1 : Option mA) (x2 : Int32) (x3 : Int32), m_Sm k_Ga_bestFrom (5 + n * 1) 0 0 [.inr (.inr x0), .inr (.inr x1), .inl x2, .inl x3] (fn_Ga_bestFrom n x0 x1 x2 x3) (fun b => some (.inl b))
  | 0, x0, x1, x2, x3 => ⟨Nat.le_of_ble_eq_true rfl, sm_fl⟩
  | n + 1, x0, x1, x2, x3 => m_Sm_mono (by omega) (sd_Ga_bestFrom_r (fn_Ga_bestFrom n) (5 + n * 1) (sd_Ga_bestFrom n) (lv_Ga_bestFrom n) x0 x1 x2 x3)
theorem d_Ga_play_0 : m_D k_Ga_play 0 (.aload_n 0) 1 := (by decide +kernel : decode prog_4_method_2_code 0 = .ok (.aload_n 0, 1))
theorem d_Ga_play_1 : m_D k_Ga_play 1 (.getfield 11) 3 := (by decide +kernel : decode prog_4_method_2_code 1 = .ok (.getfield 11, 3))
theorem d_Ga_play_4 : m_D k_Ga_play 4 (.iconst 0) 1 := (by decide +kernel : decode prog_4_method_2_code 4 = .ok (.iconst 0, 1))
theorem d_Ga_play_5 : m_D k_Ga_play 5 (.aaload) 1 := (by decide +kernel : decode prog_4_method_2_code 5 = .ok (.aaload, 1))
theorem d_Ga_play_6 : m_D k_Ga_play 6 (.aload_n 1) 1 := (by decide +kernel : decode prog_4_method_2_code 6 = .ok (.aload_n 1, 1))
theorem d_Ga_play_7 : m_D k_Ga_play 7 (.getfield 20) 3 := (by decide +kernel : decode prog_4_method_2_code 7 = .ok (.getfield 20, 3))
theorem d_Ga_play_10 : m_D k_Ga_play 10 (.iload_n 2) 1 := (by decide +kernel : decode prog_4_method_2_code 10 = .ok (.iload_n 2, 1))
theorem d_Ga_play_11 : m_D k_Ga_play 11 (.aaload) 1 := (by decide +kernel : decode prog_4_method_2_code 11 = .ok (.aaload, 1))
theorem d_Ga_play_12 : m_D k_Ga_play 12 (.invokevirtual 25) 3 := (by decide +kernel : decode prog_4_method_2_code 12 = .ok (.invokevirtual 25, 3))
theorem d_Ga_play_15 : m_D k_Ga_play 15 (.aload_n 0) 1 := (by decide +kernel : decode prog_4_method_2_code 15 = .ok (.aload_n 0, 1))
theorem d_Ga_play_16 : m_D k_Ga_play 16 (.getfield 11) 3 := (by decide +kernel : decode prog_4_method_2_code 16 = .ok (.getfield 11, 3))
theorem d_Ga_play_19 : m_D k_Ga_play 19 (.iconst 1) 1 := (by decide +kernel : decode prog_4_method_2_code 19 = .ok (.iconst 1, 1))
theorem d_Ga_play_20 : m_D k_Ga_play 20 (.aaload) 1 := (by decide +kernel : decode prog_4_method_2_code 20 = .ok (.aaload, 1))
theorem d_Ga_play_21 : m_D k_Ga_play 21 (.aload_n 1) 1 := (by decide +kernel : decode prog_4_method_2_code 21 = .ok (.aload_n 1, 1))
theorem d_Ga_play_22 : m_D k_Ga_play 22 (.getfield 20) 3 := (by decide +kernel : decode prog_4_method_2_code 22 = .ok (.getfield 20, 3))
theorem d_Ga_play_25 : m_D k_Ga_play 25 (.iload_n 3) 1 := (by decide +kernel : decode prog_4_method_2_code 25 = .ok (.iload_n 3, 1))
theorem d_Ga_play_26 : m_D k_Ga_play 26 (.aaload) 1 := (by decide +kernel : decode prog_4_method_2_code 26 = .ok (.aaload, 1))
theorem d_Ga_play_27 : m_D k_Ga_play 27 (.invokevirtual 25) 3 := (by decide +kernel : decode prog_4_method_2_code 27 = .ok (.invokevirtual 25, 3))
theorem d_Ga_play_30 : m_D k_Ga_play 30 (.iconst 1) 1 := (by decide +kernel : decode prog_4_method_2_code 30 = .ok (.iconst 1, 1))
theorem d_Ga_play_31 : m_D k_Ga_play 31 (.istore 5) 2 := (by decide +kernel : decode prog_4_method_2_code 31 = .ok (.istore 5, 2))
theorem d_Ga_play_33 : m_D k_Ga_play 33 (.iload 5) 2 := (by decide +kernel : decode prog_4_method_2_code 33 = .ok (.iload 5, 2))
theorem d_Ga_play_35 : m_D k_Ga_play 35 (.iload 4) 2 := (by decide +kernel : decode prog_4_method_2_code 35 = .ok (.iload 4, 2))
theorem d_Ga_play_37 : m_D k_Ga_play 37 (.if_icmp .gt 43) 3 := (by decide +kernel : decode prog_4_method_2_code 37 = .ok (.if_icmp .gt 43, 3))
theorem d_Ga_play_40 : m_D k_Ga_play 40 (.aload_n 0) 1 := (by decide +kernel : decode prog_4_method_2_code 40 = .ok (.aload_n 0, 1))
theorem d_Ga_play_41 : m_D k_Ga_play 41 (.getfield 16) 3 := (by decide +kernel : decode prog_4_method_2_code 41 = .ok (.getfield 16, 3))
theorem d_Ga_play_44 : m_D k_Ga_play 44 (.iconst 2) 1 := (by decide +kernel : decode prog_4_method_2_code 44 = .ok (.iconst 2, 1))
theorem d_Ga_play_45 : m_D k_Ga_play 45 (.iload 5) 2 := (by decide +kernel : decode prog_4_method_2_code 45 = .ok (.iload 5, 2))
theorem d_Ga_play_47 : m_D k_Ga_play 47 (.imul) 1 := (by decide +kernel : decode prog_4_method_2_code 47 = .ok (.imul, 1))
theorem d_Ga_play_48 : m_D k_Ga_play 48 (.aload_n 1) 1 := (by decide +kernel : decode prog_4_method_2_code 48 = .ok (.aload_n 1, 1))
theorem d_Ga_play_49 : m_D k_Ga_play 49 (.iload_n 2) 1 := (by decide +kernel : decode prog_4_method_2_code 49 = .ok (.iload_n 2, 1))
theorem d_Ga_play_50 : m_D k_Ga_play 50 (.iload 5) 2 := (by decide +kernel : decode prog_4_method_2_code 50 = .ok (.iload 5, 2))
theorem d_Ga_play_52 : m_D k_Ga_play 52 (.invokevirtual 29) 3 := (by decide +kernel : decode prog_4_method_2_code 52 = .ok (.invokevirtual 29, 3))
theorem d_Ga_play_55 : m_D k_Ga_play 55 (.iastore) 1 := (by decide +kernel : decode prog_4_method_2_code 55 = .ok (.iastore, 1))
theorem d_Ga_play_56 : m_D k_Ga_play 56 (.aload_n 0) 1 := (by decide +kernel : decode prog_4_method_2_code 56 = .ok (.aload_n 0, 1))
theorem d_Ga_play_57 : m_D k_Ga_play 57 (.getfield 16) 3 := (by decide +kernel : decode prog_4_method_2_code 57 = .ok (.getfield 16, 3))
theorem d_Ga_play_60 : m_D k_Ga_play 60 (.iconst 2) 1 := (by decide +kernel : decode prog_4_method_2_code 60 = .ok (.iconst 2, 1))
theorem d_Ga_play_61 : m_D k_Ga_play 61 (.iload 5) 2 := (by decide +kernel : decode prog_4_method_2_code 61 = .ok (.iload 5, 2))
theorem d_Ga_play_63 : m_D k_Ga_play 63 (.imul) 1 := (by decide +kernel : decode prog_4_method_2_code 63 = .ok (.imul, 1))
theorem d_Ga_play_64 : m_D k_Ga_play 64 (.iconst 1) 1 := (by decide +kernel : decode prog_4_method_2_code 64 = .ok (.iconst 1, 1))
theorem d_Ga_play_65 : m_D k_Ga_play 65 (.iadd) 1 := (by decide +kernel : decode prog_4_method_2_code 65 = .ok (.iadd, 1))
theorem d_Ga_play_66 : m_D k_Ga_play 66 (.aload_n 1) 1 := (by decide +kernel : decode prog_4_method_2_code 66 = .ok (.aload_n 1, 1))
theorem d_Ga_play_67 : m_D k_Ga_play 67 (.iload_n 3) 1 := (by decide +kernel : decode prog_4_method_2_code 67 = .ok (.iload_n 3, 1))
theorem d_Ga_play_68 : m_D k_Ga_play 68 (.iload 5) 2 := (by decide +kernel : decode prog_4_method_2_code 68 = .ok (.iload 5, 2))
theorem d_Ga_play_70 : m_D k_Ga_play 70 (.invokevirtual 29) 3 := (by decide +kernel : decode prog_4_method_2_code 70 = .ok (.invokevirtual 29, 3))
theorem d_Ga_play_73 : m_D k_Ga_play 73 (.iastore) 1 := (by decide +kernel : decode prog_4_method_2_code 73 = .ok (.iastore, 1))
theorem d_Ga_play_74 : m_D k_Ga_play 74 (.iinc 5 1) 3 := (by decide +kernel : decode prog_4_method_2_code 74 = .ok (.iinc 5 1, 3))
theorem d_Ga_play_77 : m_D k_Ga_play 77 (.goto (-44)) 3 := (by decide +kernel : decode prog_4_method_2_code 77 = .ok (.goto (-44), 3))
theorem d_Ga_play_80 : m_D k_Ga_play 80 (.aload_n 0) 1 := (by decide +kernel : decode prog_4_method_2_code 80 = .ok (.aload_n 0, 1))
theorem d_Ga_play_81 : m_D k_Ga_play 81 (.aload_n 1) 1 := (by decide +kernel : decode prog_4_method_2_code 81 = .ok (.aload_n 1, 1))
theorem d_Ga_play_82 : m_D k_Ga_play 82 (.iconst 0) 1 := (by decide +kernel : decode prog_4_method_2_code 82 = .ok (.iconst 0, 1))
theorem d_Ga_play_83 : m_D k_Ga_play 83 (.iload 4) 2 := (by decide +kernel : decode prog_4_method_2_code 83 = .ok (.iload 4, 2))
theorem d_Ga_play_85 : m_D k_Ga_play 85 (.invokevirtual 33) 3 := (by decide +kernel : decode prog_4_method_2_code 85 = .ok (.invokevirtual 33, 3))
theorem d_Ga_play_88 : m_D k_Ga_play 88 (.ireturn) 1 := (by decide +kernel : decode prog_4_method_2_code 88 = .ok (.ireturn, 1))
def fn_Ga_play_l33 (x0 : Option mA) (x1 : Option mA) (x2 : Int32) (x3 : Int32) (x4 : Int32) (t9 : Int32) : mP ((Int32) ⊕ (Unit)) :=
  if x4 < t9 then
    m_rt (.inr ())
  else
    m_bd (m_gR 10 2 x0) fun v10 =>
    m_bd (fn_Fa_lovedAhead x1 x2 t9) fun v11 =>
    m_bd (m_tI 0 v10 (2 * t9) v11) fun _ =>
    m_bd (m_gR 10 2 x0) fun v12 =>
    m_bd (fn_Fa_lovedAhead x1 x3 t9) fun v13 =>
    m_bd (m_tI 0 v12 ((2 * t9) + 1) v13) fun _ =>
    m_rt (.inl (t9 + 1))
def fn_Ga_play (x0 : Option mA) (x1 : Option mA) (x2 : Int32) (x3 : Int32) (x4 : Int32) : mP Int32 :=
  m_th 10 x0 <|
  m_bd (m_gR 10 1 x0) fun v1 =>
  m_bd (m_aR 7 v1 0) fun v2 =>
  m_bd (m_gR 3 8 x1) fun v3 =>
  m_bd (m_aR 7 v3 x2) fun v4 =>
  m_bd (fn_Th_copyFrom v2 v4) fun _ =>
  m_bd (m_gR 10 1 x0) fun v5 =>
  m_bd (m_aR 7 v5 1) fun v6 =>
  m_bd (m_gR 3 8 x1) fun v7 =>
  m_bd (m_aR 7 v7 x3) fun v8 =>
  m_bd (fn_Th_copyFrom v6 v8) fun _ =>
  m_bd (m_lp (fn_Ga_play_l33 x0 x1 x2 x3 x4) m_F 1) fun (t14 : Unit) =>
  m_bd (fn_Ga_bestFrom 8 x0 x1 0 x4) fun v15 =>
  m_rt v15
set_option maxHeartbeats 4000000 in
set_option maxRecDepth 100000 in
theorem sd_Ga_play (x0 : Option mA) (x1 : Option mA) (x2 : Int32) (x3 : Int32) (x4 : Int32) : m_Sm k_Ga_play 14 0 0 [.inr (.inr x0), .inr (.inr x1), .inl x2, .inl x3, .inl x4] (fn_Ga_play x0 x1 x2 x3 x4) (fun b => some (.inl b)) := by
  refine ⟨Nat.le_of_ble_eq_true rfl, ?_⟩
  refine sm_th ?_
  refine sm_aload_n (i := 0) (j := 0) (pc' := 1) d_Ga_play_0 rfl rfl rfl ?_
  refine sm_getR (pc' := 4) d_Ga_play_1 rfl fl_Ga_11 rfl rfl (fun v1 => ?_)
  refine sm_iconst (pc' := 5) d_Ga_play_4 rfl ic_0 ?_
  refine sm_aald (t := 7) ⟨by decide, by decide⟩ rfl (pc' := 6) d_Ga_play_5 rfl (fun v2 => ?_)
  refine sm_aload_n (i := 1) (j := 1) (pc' := 7) d_Ga_play_6 rfl rfl rfl ?_
  refine sm_getR (pc' := 10) d_Ga_play_7 rfl fl_Ga_20 rfl rfl (fun v3 => ?_)
  refine sm_iload_n (i := 2) (j := 2) (pc' := 11) d_Ga_play_10 rfl rfl rfl ?_
  refine sm_aald (t := 7) ⟨by decide, by decide⟩ rfl (pc' := 12) d_Ga_play_11 rfl (fun v4 => ?_)
  refine sm_callVv (ci := 5) (x := v2) (av := [.inr (.inr v4)]) (st := []) (mc := 0) (ms := 0) (pc' := 15) d_Ga_play_12 rfl (sd_Th_copyFrom v2 v4) m_lv rfl cv_Th_copyFrom w_ml_Ga_25 rfl rfl (by decide) (Nat.le_of_ble_eq_true rfl) rfl rfl ?_
  refine sm_aload_n (i := 0) (j := 0) (pc' := 16) d_Ga_play_15 rfl rfl rfl ?_
  refine sm_getR (pc' := 19) d_Ga_play_16 rfl fl_Ga_11 rfl rfl (fun v5 => ?_)
  refine sm_iconst (pc' := 20) d_Ga_play_19 rfl ic_1 ?_
  refine sm_aald (t := 7) ⟨by decide, by decide⟩ rfl (pc' := 21) d_Ga_play_20 rfl (fun v6 => ?_)
  refine sm_aload_n (i := 1) (j := 1) (pc' := 22) d_Ga_play_21 rfl rfl rfl ?_
  refine sm_getR (pc' := 25) d_Ga_play_22 rfl fl_Ga_20 rfl rfl (fun v7 => ?_)
  refine sm_iload_n (i := 3) (j := 3) (pc' := 26) d_Ga_play_25 rfl rfl rfl ?_
  refine sm_aald (t := 7) ⟨by decide, by decide⟩ rfl (pc' := 27) d_Ga_play_26 rfl (fun v8 => ?_)
  refine sm_callVv (ci := 5) (x := v6) (av := [.inr (.inr v8)]) (st := []) (mc := 0) (ms := 0) (pc' := 30) d_Ga_play_27 rfl (sd_Th_copyFrom v6 v8) m_lv rfl cv_Th_copyFrom w_ml_Ga_25 rfl rfl (by decide) (Nat.le_of_ble_eq_true rfl) rfl rfl ?_
  refine sm_iconst (pc' := 31) d_Ga_play_30 rfl ic_1 (sm_istore (L' := [(5, .inl 1), (0, .inr (.inr x0)), (1, .inr (.inr x1)), (2, .inl x2), (3, .inl x3), (4, .inl x4)]) (pc' := 33) d_Ga_play_31 rfl (Nat.le_of_ble_eq_true rfl) rfl ?_)
  refine sm_sub [0, 1, 2, 3, 4, 5] rfl ?_
  refine sm_bd (mid := fun (t14 : Unit) => .inl (80, [(0, .inr (.inr x0)), (1, .inr (.inr x1)), (4, .inl x4)], [])) (sm_lp (hd := fun (t9 : Int32) => (.inl (33, [(5, .inl t9), (0, .inr (.inr x0)), (1, .inr (.inr x1)), (2, .inl x2), (3, .inl x3), (4, .inl x4)], []) : mC)) (fun t9 => ?_) m_F 1) (fun t14 => ?_)
  · refine sm_iload (j := 0) (pc' := 35) d_Ga_play_33 rfl rfl (sm_iload (j := 5) (pc' := 37) d_Ga_play_35 rfl rfl ?_)
    refine sm_icmp_gt (tgt := 80) (pc' := 40) d_Ga_play_37 rfl rfl ?_ ?_
    · refine sm_sub [1, 2, 5] rfl ?_
      exact sm_rt rfl
    · refine sm_aload_n (i := 0) (j := 1) (pc' := 41) d_Ga_play_40 rfl rfl rfl ?_
      refine sm_getR (pc' := 44) d_Ga_play_41 rfl fl_Ga_16 rfl rfl (fun v10 => ?_)
      refine sm_iconst (pc' := 45) d_Ga_play_44 rfl ic_2 (sm_iload (j := 0) (pc' := 47) d_Ga_play_45 rfl rfl (sm_imul (pc' := 48) d_Ga_play_47 rfl (sm_aload_n (i := 1) (j := 2) (pc' := 49) d_Ga_play_48 rfl rfl rfl (sm_iload_n (i := 2) (j := 3) (pc' := 50) d_Ga_play_49 rfl rfl rfl (sm_iload (j := 0) (pc' := 52) d_Ga_play_50 rfl rfl ?_)))))
      refine sm_callVi (ci := 3) (x := x1) (av := [.inl x2, .inl t9]) (st := [.inl (2 * t9), .inr (.inr v10)]) (mc := 0) (ms := 0) (pc' := 55) d_Ga_play_52 rfl (sd_Fa_lovedAhead x1 x2 t9) m_lv rfl cv_Fa_lovedAhead w_ml_Ga_29 rfl rfl (by decide) (Nat.le_of_ble_eq_true rfl) rfl rfl (fun v11 => ?_)
      refine sm_iast (pc' := 56) d_Ga_play_55 rfl (sm_aload_n (i := 0) (j := 1) (pc' := 57) d_Ga_play_56 rfl rfl rfl ?_)
      refine sm_getR (pc' := 60) d_Ga_play_57 rfl fl_Ga_16 rfl rfl (fun v12 => ?_)
      refine sm_iconst (pc' := 61) d_Ga_play_60 rfl ic_2 (sm_iload (j := 0) (pc' := 63) d_Ga_play_61 rfl rfl (sm_imul (pc' := 64) d_Ga_play_63 rfl (sm_iconst (pc' := 65) d_Ga_play_64 rfl ic_1 (sm_iadd (pc' := 66) d_Ga_play_65 rfl (sm_aload_n (i := 1) (j := 2) (pc' := 67) d_Ga_play_66 rfl rfl rfl (sm_iload_n (i := 3) (j := 4) (pc' := 68) d_Ga_play_67 rfl rfl rfl (sm_iload (j := 0) (pc' := 70) d_Ga_play_68 rfl rfl ?_)))))))
      refine sm_callVi (ci := 3) (x := x1) (av := [.inl x3, .inl t9]) (st := [.inl ((2 * t9) + 1), .inr (.inr v12)]) (mc := 0) (ms := 0) (pc' := 73) d_Ga_play_70 rfl (sd_Fa_lovedAhead x1 x3 t9) m_lv rfl cv_Fa_lovedAhead w_ml_Ga_29 rfl rfl (by decide) (Nat.le_of_ble_eq_true rfl) rfl rfl (fun v13 => ?_)
      refine sm_iast (pc' := 74) d_Ga_play_73 rfl (sm_iinc (j := 0) (L' := [(5, .inl (t9 + 1)), (0, .inr (.inr x0)), (1, .inr (.inr x1)), (2, .inl x2), (3, .inl x3), (4, .inl x4)]) (pc' := 77) d_Ga_play_74 rfl (v := (t9 + 1)) rfl (ix_1 _) (Nat.le_of_ble_eq_true rfl) rfl (sm_goto (tgt := 33) d_Ga_play_77 rfl (sm_sub [0, 1, 2, 3, 4, 5] rfl ?_)))
      exact sm_rt rfl
  · refine sm_aload_n (i := 0) (j := 0) (pc' := 81) d_Ga_play_80 rfl rfl rfl (sm_aload_n (i := 1) (j := 1) (pc' := 82) d_Ga_play_81 rfl rfl rfl (sm_iconst (pc' := 83) d_Ga_play_82 rfl ic_0 (sm_iload (j := 2) (pc' := 85) d_Ga_play_83 rfl rfl ?_)))
    refine sm_callVi (ci := 10) (x := x0) (av := [.inr (.inr x1), .inl 0, .inl x4]) (st := []) (mc := 0) (ms := 0) (pc' := 88) d_Ga_play_85 rfl (sd_Ga_bestFrom 8 x0 x1 0 x4) (lv_Ga_bestFrom 8 x0 x1 0 x4) rfl cv_Ga_bestFrom w_ml_Ga_33 rfl rfl (by decide) (Nat.le_of_ble_eq_true rfl) rfl rfl (fun v15 => ?_)
    exact sm_ireturn d_Ga_play_88 rfl rfl
theorem d_C_game_0 : m_D k_C_game 0 (.aload_n 0) 1 := (by decide +kernel : decode prog_1_method_60_code 0 = .ok (.aload_n 0, 1))
theorem d_C_game_1 : m_D k_C_game 1 (.aload_n 0) 1 := (by decide +kernel : decode prog_1_method_60_code 1 = .ok (.aload_n 0, 1))
theorem d_C_game_2 : m_D k_C_game 2 (.iload_n 1) 1 := (by decide +kernel : decode prog_1_method_60_code 2 = .ok (.iload_n 1, 1))
theorem d_C_game_3 : m_D k_C_game 3 (.iload_n 2) 1 := (by decide +kernel : decode prog_1_method_60_code 3 = .ok (.iload_n 2, 1))
theorem d_C_game_4 : m_D k_C_game 4 (.iload_n 3) 1 := (by decide +kernel : decode prog_1_method_60_code 4 = .ok (.iload_n 3, 1))
theorem d_C_game_5 : m_D k_C_game 5 (.iconst 0) 1 := (by decide +kernel : decode prog_1_method_60_code 5 = .ok (.iconst 0, 1))
theorem d_C_game_6 : m_D k_C_game 6 (.invokevirtual 382) 3 := (by decide +kernel : decode prog_1_method_60_code 6 = .ok (.invokevirtual 382, 3))
theorem d_C_game_9 : m_D k_C_game 9 (.putfield 9) 3 := (by decide +kernel : decode prog_1_method_60_code 9 = .ok (.putfield 9, 3))
theorem d_C_game_12 : m_D k_C_game 12 (.aload_n 0) 1 := (by decide +kernel : decode prog_1_method_60_code 12 = .ok (.aload_n 0, 1))
theorem d_C_game_13 : m_D k_C_game 13 (.getfield 9) 3 := (by decide +kernel : decode prog_1_method_60_code 13 = .ok (.getfield 9, 3))
theorem d_C_game_16 : m_D k_C_game 16 (.ifCond .eq 5) 3 := (by decide +kernel : decode prog_1_method_60_code 16 = .ok (.ifCond .eq 5, 3))
theorem d_C_game_19 : m_D k_C_game 19 (.iconst (-1)) 1 := (by decide +kernel : decode prog_1_method_60_code 19 = .ok (.iconst (-1), 1))
theorem d_C_game_20 : m_D k_C_game 20 (.ireturn) 1 := (by decide +kernel : decode prog_1_method_60_code 20 = .ok (.ireturn, 1))
theorem d_C_game_21 : m_D k_C_game 21 (.aload_n 0) 1 := (by decide +kernel : decode prog_1_method_60_code 21 = .ok (.aload_n 0, 1))
theorem d_C_game_22 : m_D k_C_game 22 (.getfield 82) 3 := (by decide +kernel : decode prog_1_method_60_code 22 = .ok (.getfield 82, 3))
theorem d_C_game_25 : m_D k_C_game 25 (.aload_n 0) 1 := (by decide +kernel : decode prog_1_method_60_code 25 = .ok (.aload_n 0, 1))
theorem d_C_game_26 : m_D k_C_game 26 (.getfield 37) 3 := (by decide +kernel : decode prog_1_method_60_code 26 = .ok (.getfield 37, 3))
theorem d_C_game_29 : m_D k_C_game 29 (.iload_n 1) 1 := (by decide +kernel : decode prog_1_method_60_code 29 = .ok (.iload_n 1, 1))
theorem d_C_game_30 : m_D k_C_game 30 (.iload_n 2) 1 := (by decide +kernel : decode prog_1_method_60_code 30 = .ok (.iload_n 2, 1))
theorem d_C_game_31 : m_D k_C_game 31 (.iload_n 3) 1 := (by decide +kernel : decode prog_1_method_60_code 31 = .ok (.iload_n 3, 1))
theorem d_C_game_32 : m_D k_C_game 32 (.invokevirtual 386) 3 := (by decide +kernel : decode prog_1_method_60_code 32 = .ok (.invokevirtual 386, 3))
theorem d_C_game_35 : m_D k_C_game 35 (.ireturn) 1 := (by decide +kernel : decode prog_1_method_60_code 35 = .ok (.ireturn, 1))
def fn_C_game (x0 : Option mA) (x1 : Int32) (x2 : Int32) (x3 : Int32) : mP Int32 :=
  m_th 0 x0 <|
  m_bd (fn_C_gameStatus x0 x1 x2 x3 0) fun v1 =>
  m_bd (m_pI 0 0 x0 v1) fun _ =>
  m_bd (m_gI 0 0 x0) fun v2 =>
  if v2 = 0 then
    m_bd (m_gR 0 13 x0) fun v3 =>
    m_bd (m_gR 0 5 x0) fun v4 =>
    m_bd (fn_Ga_play v3 v4 x1 x2 x3) fun v5 =>
    m_rt v5
  else
    m_rt (-1)
set_option maxHeartbeats 4000000 in
set_option maxRecDepth 100000 in
theorem sd_C_game (x0 : Option mA) (x1 : Int32) (x2 : Int32) (x3 : Int32) : m_Sm k_C_game 15 0 0 [.inr (.inr x0), .inl x1, .inl x2, .inl x3] (fn_C_game x0 x1 x2 x3) (fun b => some (.inl b)) := by
  refine ⟨Nat.le_of_ble_eq_true rfl, ?_⟩
  refine sm_th ?_
  refine sm_aload_n (i := 0) (j := 0) (pc' := 1) d_C_game_0 rfl rfl rfl (sm_aload_n (i := 0) (j := 0) (pc' := 2) d_C_game_1 rfl rfl rfl (sm_iload_n (i := 1) (j := 1) (pc' := 3) d_C_game_2 rfl rfl rfl (sm_iload_n (i := 2) (j := 2) (pc' := 4) d_C_game_3 rfl rfl rfl (sm_iload_n (i := 3) (j := 3) (pc' := 5) d_C_game_4 rfl rfl rfl (sm_iconst (pc' := 6) d_C_game_5 rfl ic_0 ?_)))))
  refine sm_callVi (ci := 0) (x := x0) (av := [.inl x1, .inl x2, .inl x3, .inl 0]) (st := [.inr (.inr x0)]) (mc := 0) (ms := 0) (pc' := 9) d_C_game_6 rfl (sd_C_gameStatus x0 x1 x2 x3 0) m_lv rfl cv_C_gameStatus w_ml_C_382 rfl rfl (by decide) (Nat.le_of_ble_eq_true rfl) rfl rfl (fun v1 => ?_)
  refine sm_putI (pc' := 12) d_C_game_9 rfl fl_C_9 (Or.inl rfl) rfl (sm_aload_n (i := 0) (j := 0) (pc' := 13) d_C_game_12 rfl rfl rfl ?_)
  refine sm_getI (pc' := 16) d_C_game_13 rfl fl_C_9 rfl ⟨by decide, by decide⟩ (fun v2 => ?_)
  refine sm_if_eq (tgt := 21) (pc' := 19) d_C_game_16 rfl rfl ?_ ?_
  · refine sm_aload_n (i := 0) (j := 0) (pc' := 22) d_C_game_21 rfl rfl rfl ?_
    refine sm_getR (pc' := 25) d_C_game_22 rfl fl_C_82 rfl rfl (fun v3 => ?_)
    refine sm_aload_n (i := 0) (j := 0) (pc' := 26) d_C_game_25 rfl rfl rfl ?_
    refine sm_getR (pc' := 29) d_C_game_26 rfl fl_C_37 rfl rfl (fun v4 => ?_)
    refine sm_iload_n (i := 1) (j := 1) (pc' := 30) d_C_game_29 rfl rfl rfl (sm_iload_n (i := 2) (j := 2) (pc' := 31) d_C_game_30 rfl rfl rfl (sm_iload_n (i := 3) (j := 3) (pc' := 32) d_C_game_31 rfl rfl rfl ?_))
    refine sm_callVi (ci := 10) (x := v3) (av := [.inr (.inr v4), .inl x1, .inl x2, .inl x3]) (st := []) (mc := 0) (ms := 0) (pc' := 35) d_C_game_32 rfl (sd_Ga_play v3 v4 x1 x2 x3) m_lv rfl cv_Ga_play w_ml_C_386 rfl rfl (by decide) (Nat.le_of_ble_eq_true rfl) rfl rfl (fun v5 => ?_)
    exact sm_ireturn d_C_game_35 rfl rfl
  · refine sm_iconst (pc' := 20) d_C_game_19 rfl ic_m1 ?_
    exact sm_ireturn d_C_game_20 rfl rfl
theorem d_C_moveOf_0 : m_D k_C_moveOf 0 (.aload_n 0) 1 := (by decide +kernel : decode prog_1_method_61_code 0 = .ok (.aload_n 0, 1))
theorem d_C_moveOf_1 : m_D k_C_moveOf 1 (.aload_n 0) 1 := (by decide +kernel : decode prog_1_method_61_code 1 = .ok (.aload_n 0, 1))
theorem d_C_moveOf_2 : m_D k_C_moveOf 2 (.iload_n 1) 1 := (by decide +kernel : decode prog_1_method_61_code 2 = .ok (.iload_n 1, 1))
theorem d_C_moveOf_3 : m_D k_C_moveOf 3 (.iload_n 2) 1 := (by decide +kernel : decode prog_1_method_61_code 3 = .ok (.iload_n 2, 1))
theorem d_C_moveOf_4 : m_D k_C_moveOf 4 (.iload_n 3) 1 := (by decide +kernel : decode prog_1_method_61_code 4 = .ok (.iload_n 3, 1))
theorem d_C_moveOf_5 : m_D k_C_moveOf 5 (.iconst 1) 1 := (by decide +kernel : decode prog_1_method_61_code 5 = .ok (.iconst 1, 1))
theorem d_C_moveOf_6 : m_D k_C_moveOf 6 (.invokevirtual 382) 3 := (by decide +kernel : decode prog_1_method_61_code 6 = .ok (.invokevirtual 382, 3))
theorem d_C_moveOf_9 : m_D k_C_moveOf 9 (.putfield 9) 3 := (by decide +kernel : decode prog_1_method_61_code 9 = .ok (.putfield 9, 3))
theorem d_C_moveOf_12 : m_D k_C_moveOf 12 (.aload_n 0) 1 := (by decide +kernel : decode prog_1_method_61_code 12 = .ok (.aload_n 0, 1))
theorem d_C_moveOf_13 : m_D k_C_moveOf 13 (.getfield 9) 3 := (by decide +kernel : decode prog_1_method_61_code 13 = .ok (.getfield 9, 3))
theorem d_C_moveOf_16 : m_D k_C_moveOf 16 (.ifCond .eq 5) 3 := (by decide +kernel : decode prog_1_method_61_code 16 = .ok (.ifCond .eq 5, 3))
theorem d_C_moveOf_19 : m_D k_C_moveOf 19 (.iconst (-1)) 1 := (by decide +kernel : decode prog_1_method_61_code 19 = .ok (.iconst (-1), 1))
theorem d_C_moveOf_20 : m_D k_C_moveOf 20 (.ireturn) 1 := (by decide +kernel : decode prog_1_method_61_code 20 = .ok (.ireturn, 1))
theorem d_C_moveOf_21 : m_D k_C_moveOf 21 (.aload_n 0) 1 := (by decide +kernel : decode prog_1_method_61_code 21 = .ok (.aload_n 0, 1))
theorem d_C_moveOf_22 : m_D k_C_moveOf 22 (.getfield 82) 3 := (by decide +kernel : decode prog_1_method_61_code 22 = .ok (.getfield 82, 3))
theorem d_C_moveOf_25 : m_D k_C_moveOf 25 (.aload_n 0) 1 := (by decide +kernel : decode prog_1_method_61_code 25 = .ok (.aload_n 0, 1))
theorem d_C_moveOf_26 : m_D k_C_moveOf 26 (.getfield 37) 3 := (by decide +kernel : decode prog_1_method_61_code 26 = .ok (.getfield 37, 3))
theorem d_C_moveOf_29 : m_D k_C_moveOf 29 (.iload_n 1) 1 := (by decide +kernel : decode prog_1_method_61_code 29 = .ok (.iload_n 1, 1))
theorem d_C_moveOf_30 : m_D k_C_moveOf 30 (.iload_n 2) 1 := (by decide +kernel : decode prog_1_method_61_code 30 = .ok (.iload_n 2, 1))
theorem d_C_moveOf_31 : m_D k_C_moveOf 31 (.iload_n 3) 1 := (by decide +kernel : decode prog_1_method_61_code 31 = .ok (.iload_n 3, 1))
theorem d_C_moveOf_32 : m_D k_C_moveOf 32 (.invokevirtual 386) 3 := (by decide +kernel : decode prog_1_method_61_code 32 = .ok (.invokevirtual 386, 3))
theorem d_C_moveOf_35 : m_D k_C_moveOf 35 (.pop) 1 := (by decide +kernel : decode prog_1_method_61_code 35 = .ok (.pop, 1))
theorem d_C_moveOf_36 : m_D k_C_moveOf 36 (.aload_n 0) 1 := (by decide +kernel : decode prog_1_method_61_code 36 = .ok (.aload_n 0, 1))
theorem d_C_moveOf_37 : m_D k_C_moveOf 37 (.getfield 82) 3 := (by decide +kernel : decode prog_1_method_61_code 37 = .ok (.getfield 82, 3))
theorem d_C_moveOf_40 : m_D k_C_moveOf 40 (.getfield 390) 3 := (by decide +kernel : decode prog_1_method_61_code 40 = .ok (.getfield 390, 3))
theorem d_C_moveOf_43 : m_D k_C_moveOf 43 (.ireturn) 1 := (by decide +kernel : decode prog_1_method_61_code 43 = .ok (.ireturn, 1))
def fn_C_moveOf (x0 : Option mA) (x1 : Int32) (x2 : Int32) (x3 : Int32) : mP Int32 :=
  m_th 0 x0 <|
  m_bd (fn_C_gameStatus x0 x1 x2 x3 1) fun v1 =>
  m_bd (m_pI 0 0 x0 v1) fun _ =>
  m_bd (m_gI 0 0 x0) fun v2 =>
  if v2 = 0 then
    m_bd (m_gR 0 13 x0) fun v3 =>
    m_bd (m_gR 0 5 x0) fun v4 =>
    m_bd (fn_Ga_play v3 v4 x1 x2 x3) fun v5 =>
    m_bd (m_gR 0 13 x0) fun v6 =>
    m_bd (m_gI 10 0 v6) fun v7 =>
    m_rt v7
  else
    m_rt (-1)
set_option maxHeartbeats 4000000 in
set_option maxRecDepth 100000 in
theorem sd_C_moveOf (x0 : Option mA) (x1 : Int32) (x2 : Int32) (x3 : Int32) : m_Sm k_C_moveOf 15 0 0 [.inr (.inr x0), .inl x1, .inl x2, .inl x3] (fn_C_moveOf x0 x1 x2 x3) (fun b => some (.inl b)) := by
  refine ⟨Nat.le_of_ble_eq_true rfl, ?_⟩
  refine sm_th ?_
  refine sm_aload_n (i := 0) (j := 0) (pc' := 1) d_C_moveOf_0 rfl rfl rfl (sm_aload_n (i := 0) (j := 0) (pc' := 2) d_C_moveOf_1 rfl rfl rfl (sm_iload_n (i := 1) (j := 1) (pc' := 3) d_C_moveOf_2 rfl rfl rfl (sm_iload_n (i := 2) (j := 2) (pc' := 4) d_C_moveOf_3 rfl rfl rfl (sm_iload_n (i := 3) (j := 3) (pc' := 5) d_C_moveOf_4 rfl rfl rfl (sm_iconst (pc' := 6) d_C_moveOf_5 rfl ic_1 ?_)))))
  refine sm_callVi (ci := 0) (x := x0) (av := [.inl x1, .inl x2, .inl x3, .inl 1]) (st := [.inr (.inr x0)]) (mc := 0) (ms := 0) (pc' := 9) d_C_moveOf_6 rfl (sd_C_gameStatus x0 x1 x2 x3 1) m_lv rfl cv_C_gameStatus w_ml_C_382 rfl rfl (by decide) (Nat.le_of_ble_eq_true rfl) rfl rfl (fun v1 => ?_)
  refine sm_putI (pc' := 12) d_C_moveOf_9 rfl fl_C_9 (Or.inl rfl) rfl (sm_aload_n (i := 0) (j := 0) (pc' := 13) d_C_moveOf_12 rfl rfl rfl ?_)
  refine sm_getI (pc' := 16) d_C_moveOf_13 rfl fl_C_9 rfl ⟨by decide, by decide⟩ (fun v2 => ?_)
  refine sm_if_eq (tgt := 21) (pc' := 19) d_C_moveOf_16 rfl rfl ?_ ?_
  · refine sm_aload_n (i := 0) (j := 0) (pc' := 22) d_C_moveOf_21 rfl rfl rfl ?_
    refine sm_getR (pc' := 25) d_C_moveOf_22 rfl fl_C_82 rfl rfl (fun v3 => ?_)
    refine sm_aload_n (i := 0) (j := 0) (pc' := 26) d_C_moveOf_25 rfl rfl rfl ?_
    refine sm_getR (pc' := 29) d_C_moveOf_26 rfl fl_C_37 rfl rfl (fun v4 => ?_)
    refine sm_iload_n (i := 1) (j := 1) (pc' := 30) d_C_moveOf_29 rfl rfl rfl (sm_iload_n (i := 2) (j := 2) (pc' := 31) d_C_moveOf_30 rfl rfl rfl (sm_iload_n (i := 3) (j := 3) (pc' := 32) d_C_moveOf_31 rfl rfl rfl ?_))
    refine sm_callVi (ci := 10) (x := v3) (av := [.inr (.inr v4), .inl x1, .inl x2, .inl x3]) (st := []) (mc := 0) (ms := 0) (pc' := 35) d_C_moveOf_32 rfl (sd_Ga_play v3 v4 x1 x2 x3) m_lv rfl cv_Ga_play w_ml_C_386 rfl rfl (by decide) (Nat.le_of_ble_eq_true rfl) rfl rfl (fun v5 => ?_)
    refine sm_pop (pc' := 36) d_C_moveOf_35 rfl rfl (sm_aload_n (i := 0) (j := 0) (pc' := 37) d_C_moveOf_36 rfl rfl rfl ?_)
    refine sm_getR (pc' := 40) d_C_moveOf_37 rfl fl_C_82 rfl rfl (fun v6 => ?_)
    refine sm_getI (pc' := 43) d_C_moveOf_40 rfl fl_C_390 rfl ⟨by decide, by decide⟩ (fun v7 => ?_)
    exact sm_ireturn d_C_moveOf_43 rfl rfl
  · refine sm_iconst (pc' := 20) d_C_moveOf_19 rfl ic_m1 ?_
    exact sm_ireturn d_C_moveOf_20 rfl rfl
theorem d_C_oddsStatus_0 : m_D k_C_oddsStatus 0 (.aload_n 0) 1 := (by decide +kernel : decode prog_1_method_66_code 0 = .ok (.aload_n 0, 1))
theorem d_C_oddsStatus_1 : m_D k_C_oddsStatus 1 (.iload_n 1) 1 := (by decide +kernel : decode prog_1_method_66_code 1 = .ok (.iload_n 1, 1))
theorem d_C_oddsStatus_2 : m_D k_C_oddsStatus 2 (.invokevirtual 233) 3 := (by decide +kernel : decode prog_1_method_66_code 2 = .ok (.invokevirtual 233, 3))
theorem d_C_oddsStatus_5 : m_D k_C_oddsStatus 5 (.ifCond .ne 7) 3 := (by decide +kernel : decode prog_1_method_66_code 5 = .ok (.ifCond .ne 7, 3))
theorem d_C_oddsStatus_8 : m_D k_C_oddsStatus 8 (.iconst 2) 1 := (by decide +kernel : decode prog_1_method_66_code 8 = .ok (.iconst 2, 1))
theorem d_C_oddsStatus_9 : m_D k_C_oddsStatus 9 (.goto 18) 3 := (by decide +kernel : decode prog_1_method_66_code 9 = .ok (.goto 18, 3))
theorem d_C_oddsStatus_12 : m_D k_C_oddsStatus 12 (.iload_n 2) 1 := (by decide +kernel : decode prog_1_method_66_code 12 = .ok (.iload_n 2, 1))
theorem d_C_oddsStatus_13 : m_D k_C_oddsStatus 13 (.iconst 0) 1 := (by decide +kernel : decode prog_1_method_66_code 13 = .ok (.iconst 0, 1))
theorem d_C_oddsStatus_14 : m_D k_C_oddsStatus 14 (.bipush 6) 2 := (by decide +kernel : decode prog_1_method_66_code 14 = .ok (.bipush 6, 2))
theorem d_C_oddsStatus_16 : m_D k_C_oddsStatus 16 (.invokestatic 269) 3 := (by decide +kernel : decode prog_1_method_66_code 16 = .ok (.invokestatic 269, 3))
theorem d_C_oddsStatus_19 : m_D k_C_oddsStatus 19 (.ifCond .ne 7) 3 := (by decide +kernel : decode prog_1_method_66_code 19 = .ok (.ifCond .ne 7, 3))
theorem d_C_oddsStatus_22 : m_D k_C_oddsStatus 22 (.iconst 5) 1 := (by decide +kernel : decode prog_1_method_66_code 22 = .ok (.iconst 5, 1))
theorem d_C_oddsStatus_23 : m_D k_C_oddsStatus 23 (.goto 4) 3 := (by decide +kernel : decode prog_1_method_66_code 23 = .ok (.goto 4, 3))
theorem d_C_oddsStatus_26 : m_D k_C_oddsStatus 26 (.iconst 0) 1 := (by decide +kernel : decode prog_1_method_66_code 26 = .ok (.iconst 0, 1))
theorem d_C_oddsStatus_27 : m_D k_C_oddsStatus 27 (.ireturn) 1 := (by decide +kernel : decode prog_1_method_66_code 27 = .ok (.ireturn, 1))
def fn_C_oddsStatus (x0 : Option mA) (x1 : Int32) (x2 : Int32) : mP Int32 :=
  m_th 0 x0 <|
  m_bd (fn_C_isThing x0 x1) fun v1 =>
  if v1 = 0 then
    m_rt 2
  else
    m_bd (fn_C_isWithin x2 0 6) fun v2 =>
    if v2 = 0 then
      m_rt 5
    else
      m_rt 0
set_option maxHeartbeats 4000000 in
set_option maxRecDepth 100000 in
theorem sd_C_oddsStatus (x0 : Option mA) (x1 : Int32) (x2 : Int32) : m_Sm k_C_oddsStatus 2 0 0 [.inr (.inr x0), .inl x1, .inl x2] (fn_C_oddsStatus x0 x1 x2) (fun b => some (.inl b)) := by
  refine ⟨Nat.le_of_ble_eq_true rfl, ?_⟩
  refine sm_th ?_
  refine sm_aload_n (i := 0) (j := 0) (pc' := 1) d_C_oddsStatus_0 rfl rfl rfl (sm_iload_n (i := 1) (j := 1) (pc' := 2) d_C_oddsStatus_1 rfl rfl rfl ?_)
  refine sm_callVi (ci := 0) (x := x0) (av := [.inl x1]) (st := []) (mc := 0) (ms := 0) (pc' := 5) d_C_oddsStatus_2 rfl (sd_C_isThing x0 x1) m_lv rfl cv_C_isThing w_ml_C_233 rfl rfl (by decide) (Nat.le_of_ble_eq_true rfl) rfl rfl (fun v1 => ?_)
  refine sm_if_ne (tgt := 12) (pc' := 8) d_C_oddsStatus_5 rfl rfl ?_ ?_
  · refine sm_iload_n (i := 2) (j := 2) (pc' := 13) d_C_oddsStatus_12 rfl rfl rfl (sm_iconst (pc' := 14) d_C_oddsStatus_13 rfl ic_0 (sm_bipush (pc' := 16) d_C_oddsStatus_14 rfl ib_6 ?_))
    refine sm_callSi (av := [.inl x2, .inl 0, .inl 6]) (st := []) (mc := 0) (ms := 0) (pc' := 19) d_C_oddsStatus_16 rfl (sd_C_isWithin x2 0 6) cs_C_isWithin w_ml_C_269 rfl rfl (by decide) (Nat.le_of_ble_eq_true rfl) rfl rfl (fun v2 => ?_)
    refine sm_if_ne (tgt := 26) (pc' := 22) d_C_oddsStatus_19 rfl rfl ?_ ?_
    · refine sm_iconst (pc' := 27) d_C_oddsStatus_26 rfl ic_0 ?_
      exact sm_ireturn d_C_oddsStatus_27 rfl rfl
    · refine sm_iconst (pc' := 23) d_C_oddsStatus_22 rfl ic_5 (sm_goto (tgt := 27) d_C_oddsStatus_23 rfl ?_)
      exact sm_ireturn d_C_oddsStatus_27 rfl rfl
  · refine sm_iconst (pc' := 9) d_C_oddsStatus_8 rfl ic_2 (sm_goto (tgt := 27) d_C_oddsStatus_9 rfl ?_)
    exact sm_ireturn d_C_oddsStatus_27 rfl rfl
theorem d_C_commonDivisor_0 : m_D k_C_commonDivisor 0 (.lload_n 0) 1 := (by decide +kernel : decode prog_1_method_68_code 0 = .ok (.lload_n 0, 1))
theorem d_C_commonDivisor_1 : m_D k_C_commonDivisor 1 (.lstore 4) 2 := (by decide +kernel : decode prog_1_method_68_code 1 = .ok (.lstore 4, 2))
theorem d_C_commonDivisor_3 : m_D k_C_commonDivisor 3 (.lload_n 2) 1 := (by decide +kernel : decode prog_1_method_68_code 3 = .ok (.lload_n 2, 1))
theorem d_C_commonDivisor_4 : m_D k_C_commonDivisor 4 (.lstore 6) 2 := (by decide +kernel : decode prog_1_method_68_code 4 = .ok (.lstore 6, 2))
theorem d_C_commonDivisor_6 : m_D k_C_commonDivisor 6 (.iconst 0) 1 := (by decide +kernel : decode prog_1_method_68_code 6 = .ok (.iconst 0, 1))
theorem d_C_commonDivisor_7 : m_D k_C_commonDivisor 7 (.istore 8) 2 := (by decide +kernel : decode prog_1_method_68_code 7 = .ok (.istore 8, 2))
theorem d_C_commonDivisor_9 : m_D k_C_commonDivisor 9 (.iload 8) 2 := (by decide +kernel : decode prog_1_method_68_code 9 = .ok (.iload 8, 2))
theorem d_C_commonDivisor_11 : m_D k_C_commonDivisor 11 (.bipush 100) 2 := (by decide +kernel : decode prog_1_method_68_code 11 = .ok (.bipush 100, 2))
theorem d_C_commonDivisor_13 : m_D k_C_commonDivisor 13 (.if_icmp .ge 31) 3 := (by decide +kernel : decode prog_1_method_68_code 13 = .ok (.if_icmp .ge 31, 3))
theorem d_C_commonDivisor_16 : m_D k_C_commonDivisor 16 (.lload 6) 2 := (by decide +kernel : decode prog_1_method_68_code 16 = .ok (.lload 6, 2))
theorem d_C_commonDivisor_18 : m_D k_C_commonDivisor 18 (.lconst 0) 1 := (by decide +kernel : decode prog_1_method_68_code 18 = .ok (.lconst 0, 1))
theorem d_C_commonDivisor_19 : m_D k_C_commonDivisor 19 (.lcmp) 1 := (by decide +kernel : decode prog_1_method_68_code 19 = .ok (.lcmp, 1))
theorem d_C_commonDivisor_20 : m_D k_C_commonDivisor 20 (.ifCond .eq 24) 3 := (by decide +kernel : decode prog_1_method_68_code 20 = .ok (.ifCond .eq 24, 3))
theorem d_C_commonDivisor_23 : m_D k_C_commonDivisor 23 (.lload 4) 2 := (by decide +kernel : decode prog_1_method_68_code 23 = .ok (.lload 4, 2))
theorem d_C_commonDivisor_25 : m_D k_C_commonDivisor 25 (.lload 6) 2 := (by decide +kernel : decode prog_1_method_68_code 25 = .ok (.lload 6, 2))
theorem d_C_commonDivisor_27 : m_D k_C_commonDivisor 27 (.lrem) 1 := (by decide +kernel : decode prog_1_method_68_code 27 = .ok (.lrem, 1))
theorem d_C_commonDivisor_28 : m_D k_C_commonDivisor 28 (.lstore 9) 2 := (by decide +kernel : decode prog_1_method_68_code 28 = .ok (.lstore 9, 2))
theorem d_C_commonDivisor_30 : m_D k_C_commonDivisor 30 (.lload 6) 2 := (by decide +kernel : decode prog_1_method_68_code 30 = .ok (.lload 6, 2))
theorem d_C_commonDivisor_32 : m_D k_C_commonDivisor 32 (.lstore 4) 2 := (by decide +kernel : decode prog_1_method_68_code 32 = .ok (.lstore 4, 2))
theorem d_C_commonDivisor_34 : m_D k_C_commonDivisor 34 (.lload 9) 2 := (by decide +kernel : decode prog_1_method_68_code 34 = .ok (.lload 9, 2))
theorem d_C_commonDivisor_36 : m_D k_C_commonDivisor 36 (.lstore 6) 2 := (by decide +kernel : decode prog_1_method_68_code 36 = .ok (.lstore 6, 2))
theorem d_C_commonDivisor_38 : m_D k_C_commonDivisor 38 (.iinc 8 1) 3 := (by decide +kernel : decode prog_1_method_68_code 38 = .ok (.iinc 8 1, 3))
theorem d_C_commonDivisor_41 : m_D k_C_commonDivisor 41 (.goto (-32)) 3 := (by decide +kernel : decode prog_1_method_68_code 41 = .ok (.goto (-32), 3))
theorem d_C_commonDivisor_44 : m_D k_C_commonDivisor 44 (.lconst 1) 1 := (by decide +kernel : decode prog_1_method_68_code 44 = .ok (.lconst 1, 1))
theorem d_C_commonDivisor_45 : m_D k_C_commonDivisor 45 (.lload 4) 2 := (by decide +kernel : decode prog_1_method_68_code 45 = .ok (.lload 4, 2))
theorem d_C_commonDivisor_47 : m_D k_C_commonDivisor 47 (.invokestatic 417) 3 := (by decide +kernel : decode prog_1_method_68_code 47 = .ok (.invokestatic 417, 3))
theorem d_C_commonDivisor_50 : m_D k_C_commonDivisor 50 (.lreturn) 1 := (by decide +kernel : decode prog_1_method_68_code 50 = .ok (.lreturn, 1))
def fn_C_commonDivisor_l9 (t1 : Int64 × Int64 × Int32) : mP ((Int64 × Int64 × Int32) ⊕ (Int64)) :=
  if 100 ≤ t1.2.2 then
    m_rt (.inr t1.1)
  else
    if (lg_cmp t1.2.1 0) = 0 then
      m_rt (.inr t1.1)
    else
      m_bd (m_nzJ t1.2.1) fun _ =>
      m_rt (.inl (t1.2.1, (jR t1.1 t1.2.1), (t1.2.2 + 1)))
def fn_C_commonDivisor (x0 : Int64) (x2 : Int64) : mP Int64 :=
  m_bd (m_lp fn_C_commonDivisor_l9 m_F (x0, x2, 0)) fun (t2 : Int64) =>
  m_rt (jMax 1 t2)
set_option maxHeartbeats 4000000 in
set_option maxRecDepth 100000 in
theorem sd_C_commonDivisor (x0 : Int64) (x2 : Int64) : m_Sm k_C_commonDivisor 1 0 0 [.inr (.inl x0), .inr (.inl x2)] (fn_C_commonDivisor x0 x2) (fun b => some (.inr (.inl b))) := by
  refine ⟨Nat.le_of_ble_eq_true rfl, ?_⟩
  refine sm_lload_n (i := 0) (j := 0) (pc' := 1) d_C_commonDivisor_0 rfl rfl rfl (sm_lstore (L' := [(4, .inr (.inl x0)), (0, .inr (.inl x0)), (2, .inr (.inl x2))]) (pc' := 3) d_C_commonDivisor_1 rfl (Nat.le_of_ble_eq_true rfl) rfl (sm_lload_n (i := 2) (j := 2) (pc' := 4) d_C_commonDivisor_3 rfl rfl rfl (sm_lstore (L' := [(6, .inr (.inl x2)), (4, .inr (.inl x0)), (0, .inr (.inl x0)), (2, .inr (.inl x2))]) (pc' := 6) d_C_commonDivisor_4 rfl (Nat.le_of_ble_eq_true rfl) rfl (sm_iconst (pc' := 7) d_C_commonDivisor_6 rfl ic_0 (sm_istore (L' := [(8, .inl 0), (6, .inr (.inl x2)), (4, .inr (.inl x0)), (0, .inr (.inl x0)), (2, .inr (.inl x2))]) (pc' := 9) d_C_commonDivisor_7 rfl (Nat.le_of_ble_eq_true rfl) rfl ?_)))))
  refine sm_sub [2, 1, 0] rfl ?_
  refine sm_bd (mid := fun (t2 : Int64) => .inl (44, [(4, .inr (.inl t2))], [])) (sm_lp (hd := fun (t1 : Int64 × Int64 × Int32) => (.inl (9, [(4, .inr (.inl t1.1)), (6, .inr (.inl t1.2.1)), (8, .inl t1.2.2)], []) : mC)) (fun t1 => ?_) m_F (x0, x2, 0)) (fun t2 => ?_)
  · refine sm_iload (j := 2) (pc' := 11) d_C_commonDivisor_9 rfl rfl (sm_bipush (pc' := 13) d_C_commonDivisor_11 rfl ib_100 ?_)
    refine sm_icmp_ge (tgt := 44) (pc' := 16) d_C_commonDivisor_13 rfl rfl ?_ ?_
    · refine sm_sub [0] rfl ?_
      exact sm_rt rfl
    · refine sm_lload (j := 1) (pc' := 18) d_C_commonDivisor_16 rfl rfl (sm_lconst (pc' := 19) (v := 0) d_C_commonDivisor_18 rfl rfl (sm_lcmp (pc' := 20) d_C_commonDivisor_19 rfl ?_))
      refine sm_if_eq (tgt := 44) (pc' := 23) d_C_commonDivisor_20 rfl rfl ?_ ?_
      · refine sm_sub [0] rfl ?_
        exact sm_rt rfl
      · refine sm_lload (j := 0) (pc' := 25) d_C_commonDivisor_23 rfl rfl (sm_lload (j := 1) (pc' := 27) d_C_commonDivisor_25 rfl rfl (sm_lrem_v (pc' := 28) d_C_commonDivisor_27 rfl (sm_lstore (L' := [(9, .inr (.inl (jR t1.1 t1.2.1))), (4, .inr (.inl t1.1)), (6, .inr (.inl t1.2.1)), (8, .inl t1.2.2)]) (pc' := 30) d_C_commonDivisor_28 rfl (Nat.le_of_ble_eq_true rfl) rfl (sm_lload (j := 2) (pc' := 32) d_C_commonDivisor_30 rfl rfl (sm_lstore (L' := [(4, .inr (.inl t1.2.1)), (9, .inr (.inl (jR t1.1 t1.2.1))), (6, .inr (.inl t1.2.1)), (8, .inl t1.2.2)]) (pc' := 34) d_C_commonDivisor_32 rfl (Nat.le_of_ble_eq_true rfl) rfl (sm_lload (j := 1) (pc' := 36) d_C_commonDivisor_34 rfl rfl (sm_lstore (L' := [(6, .inr (.inl (jR t1.1 t1.2.1))), (4, .inr (.inl t1.2.1)), (9, .inr (.inl (jR t1.1 t1.2.1))), (8, .inl t1.2.2)]) (pc' := 38) d_C_commonDivisor_36 rfl (Nat.le_of_ble_eq_true rfl) rfl (sm_iinc (j := 3) (L' := [(8, .inl (t1.2.2 + 1)), (6, .inr (.inl (jR t1.1 t1.2.1))), (4, .inr (.inl t1.2.1)), (9, .inr (.inl (jR t1.1 t1.2.1)))]) (pc' := 41) d_C_commonDivisor_38 rfl (v := (t1.2.2 + 1)) rfl (ix_1 _) (Nat.le_of_ble_eq_true rfl) rfl (sm_goto (tgt := 9) d_C_commonDivisor_41 rfl ?_)))))))))
        refine sm_sub [2, 1, 0] rfl ?_
        exact sm_rt rfl
  · refine sm_lconst (pc' := 45) (v := 1) d_C_commonDivisor_44 rfl rfl (sm_lload (j := 0) (pc' := 47) d_C_commonDivisor_45 rfl rfl (sm_mmaxJ (pc' := 50) d_C_commonDivisor_47 rfl w_ml_C_417 (by decide) (Nat.le_of_ble_eq_true rfl) ?_))
    exact sm_lreturn d_C_commonDivisor_50 rfl rfl
theorem d_C_tell_0 : m_D k_C_tell 0 (.lload_n 1) 1 := (by decide +kernel : decode prog_1_method_67_code 0 = .ok (.lload_n 1, 1))
theorem d_C_tell_1 : m_D k_C_tell 1 (.lload_n 3) 1 := (by decide +kernel : decode prog_1_method_67_code 1 = .ok (.lload_n 3, 1))
theorem d_C_tell_2 : m_D k_C_tell 2 (.invokestatic 413) 3 := (by decide +kernel : decode prog_1_method_67_code 2 = .ok (.invokestatic 413, 3))
theorem d_C_tell_5 : m_D k_C_tell 5 (.lstore 5) 2 := (by decide +kernel : decode prog_1_method_67_code 5 = .ok (.lstore 5, 2))
theorem d_C_tell_7 : m_D k_C_tell 7 (.aload_n 0) 1 := (by decide +kernel : decode prog_1_method_67_code 7 = .ok (.aload_n 0, 1))
theorem d_C_tell_8 : m_D k_C_tell 8 (.lload_n 1) 1 := (by decide +kernel : decode prog_1_method_67_code 8 = .ok (.lload_n 1, 1))
theorem d_C_tell_9 : m_D k_C_tell 9 (.lload 5) 2 := (by decide +kernel : decode prog_1_method_67_code 9 = .ok (.lload 5, 2))
theorem d_C_tell_11 : m_D k_C_tell 11 (.ldiv) 1 := (by decide +kernel : decode prog_1_method_67_code 11 = .ok (.ldiv, 1))
theorem d_C_tell_12 : m_D k_C_tell 12 (.putfield 13) 3 := (by decide +kernel : decode prog_1_method_67_code 12 = .ok (.putfield 13, 3))
theorem d_C_tell_15 : m_D k_C_tell 15 (.aload_n 0) 1 := (by decide +kernel : decode prog_1_method_67_code 15 = .ok (.aload_n 0, 1))
theorem d_C_tell_16 : m_D k_C_tell 16 (.lload_n 3) 1 := (by decide +kernel : decode prog_1_method_67_code 16 = .ok (.lload_n 3, 1))
theorem d_C_tell_17 : m_D k_C_tell 17 (.lload 5) 2 := (by decide +kernel : decode prog_1_method_67_code 17 = .ok (.lload 5, 2))
theorem d_C_tell_19 : m_D k_C_tell 19 (.ldiv) 1 := (by decide +kernel : decode prog_1_method_67_code 19 = .ok (.ldiv, 1))
theorem d_C_tell_20 : m_D k_C_tell 20 (.putfield 17) 3 := (by decide +kernel : decode prog_1_method_67_code 20 = .ok (.putfield 17, 3))
theorem d_C_tell_23 : m_D k_C_tell 23 (.return_) 1 := (by decide +kernel : decode prog_1_method_67_code 23 = .ok (.return_, 1))
def fn_C_tell (x0 : Option mA) (x1 : Int64) (x3 : Int64) : mP Unit :=
  m_th 0 x0 <|
  m_bd (fn_C_commonDivisor x1 x3) fun v1 =>
  m_bd (m_nzJ v1) fun _ =>
  m_bd (m_pJ 0 1 x0 (x1 / v1)) fun _ =>
  m_bd (m_nzJ v1) fun _ =>
  m_bd (m_pJ 0 2 x0 (x3 / v1)) fun _ =>
  m_rt ()
set_option maxHeartbeats 4000000 in
set_option maxRecDepth 100000 in
theorem sd_C_tell (x0 : Option mA) (x1 : Int64) (x3 : Int64) : m_Sm k_C_tell 2 0 0 [.inr (.inr x0), .inr (.inl x1), .inr (.inl x3)] (fn_C_tell x0 x1 x3) (fun _ => none) := by
  refine ⟨Nat.le_of_ble_eq_true rfl, ?_⟩
  refine sm_th ?_
  refine sm_lload_n (i := 1) (j := 1) (pc' := 1) d_C_tell_0 rfl rfl rfl (sm_lload_n (i := 3) (j := 2) (pc' := 2) d_C_tell_1 rfl rfl rfl ?_)
  refine sm_callSj (av := [.inr (.inl x1), .inr (.inl x3)]) (st := []) (mc := 0) (ms := 0) (pc' := 5) d_C_tell_2 rfl (sd_C_commonDivisor x1 x3) cs_C_commonDivisor w_ml_C_413 rfl rfl (by decide) (Nat.le_of_ble_eq_true rfl) rfl rfl (fun v1 => ?_)
  refine sm_lstore (L' := [(5, .inr (.inl v1)), (0, .inr (.inr x0)), (1, .inr (.inl x1)), (3, .inr (.inl x3))]) (pc' := 7) d_C_tell_5 rfl (Nat.le_of_ble_eq_true rfl) rfl (sm_aload_n (i := 0) (j := 1) (pc' := 8) d_C_tell_7 rfl rfl rfl (sm_lload_n (i := 1) (j := 2) (pc' := 9) d_C_tell_8 rfl rfl rfl (sm_lload (j := 0) (pc' := 11) d_C_tell_9 rfl rfl (sm_ldiv_v (pc' := 12) d_C_tell_11 rfl (sm_putJ (pc' := 15) d_C_tell_12 rfl fl_C_13 (Or.inl rfl) rfl (sm_aload_n (i := 0) (j := 1) (pc' := 16) d_C_tell_15 rfl rfl rfl (sm_lload_n (i := 3) (j := 3) (pc' := 17) d_C_tell_16 rfl rfl rfl (sm_lload (j := 0) (pc' := 19) d_C_tell_17 rfl rfl (sm_ldiv_v (pc' := 20) d_C_tell_19 rfl ?_)))))))))
  refine sm_putJ (pc' := 23) d_C_tell_20 rfl fl_C_17 (Or.inl rfl) rfl ?_
  exact sm_return d_C_tell_23 rfl rfl
theorem d_Ah_spreadYear_0 : m_D k_Ah_spreadYear 0 (.aload_n 0) 1 := (by decide +kernel : decode prog_2_method_8_code 0 = .ok (.aload_n 0, 1))
theorem d_Ah_spreadYear_1 : m_D k_Ah_spreadYear 1 (.getfield 96) 3 := (by decide +kernel : decode prog_2_method_8_code 1 = .ok (.getfield 96, 3))
theorem d_Ah_spreadYear_4 : m_D k_Ah_spreadYear 4 (.istore_n 3) 1 := (by decide +kernel : decode prog_2_method_8_code 4 = .ok (.istore_n 3, 1))
theorem d_Ah_spreadYear_5 : m_D k_Ah_spreadYear 5 (.aload_n 0) 1 := (by decide +kernel : decode prog_2_method_8_code 5 = .ok (.aload_n 0, 1))
theorem d_Ah_spreadYear_6 : m_D k_Ah_spreadYear 6 (.dup) 1 := (by decide +kernel : decode prog_2_method_8_code 6 = .ok (.dup, 1))
theorem d_Ah_spreadYear_7 : m_D k_Ah_spreadYear 7 (.getfield 96) 3 := (by decide +kernel : decode prog_2_method_8_code 7 = .ok (.getfield 96, 3))
theorem d_Ah_spreadYear_10 : m_D k_Ah_spreadYear 10 (.iload_n 1) 1 := (by decide +kernel : decode prog_2_method_8_code 10 = .ok (.iload_n 1, 1))
theorem d_Ah_spreadYear_11 : m_D k_Ah_spreadYear 11 (.bipush 9) 2 := (by decide +kernel : decode prog_2_method_8_code 11 = .ok (.bipush 9, 2))
theorem d_Ah_spreadYear_13 : m_D k_Ah_spreadYear 13 (.iload_n 2) 1 := (by decide +kernel : decode prog_2_method_8_code 13 = .ok (.iload_n 2, 1))
theorem d_Ah_spreadYear_14 : m_D k_Ah_spreadYear 14 (.invokestatic 86) 3 := (by decide +kernel : decode prog_2_method_8_code 14 = .ok (.invokestatic 86, 3))
theorem d_Ah_spreadYear_17 : m_D k_Ah_spreadYear 17 (.iadd) 1 := (by decide +kernel : decode prog_2_method_8_code 17 = .ok (.iadd, 1))
theorem d_Ah_spreadYear_18 : m_D k_Ah_spreadYear 18 (.putfield 96) 3 := (by decide +kernel : decode prog_2_method_8_code 18 = .ok (.putfield 96, 3))
theorem d_Ah_spreadYear_21 : m_D k_Ah_spreadYear 21 (.aload_n 0) 1 := (by decide +kernel : decode prog_2_method_8_code 21 = .ok (.aload_n 0, 1))
theorem d_Ah_spreadYear_22 : m_D k_Ah_spreadYear 22 (.getfield 96) 3 := (by decide +kernel : decode prog_2_method_8_code 22 = .ok (.getfield 96, 3))
theorem d_Ah_spreadYear_25 : m_D k_Ah_spreadYear 25 (.istore 4) 2 := (by decide +kernel : decode prog_2_method_8_code 25 = .ok (.istore 4, 2))
theorem d_Ah_spreadYear_27 : m_D k_Ah_spreadYear 27 (.iload 4) 2 := (by decide +kernel : decode prog_2_method_8_code 27 = .ok (.iload 4, 2))
theorem d_Ah_spreadYear_29 : m_D k_Ah_spreadYear 29 (.ifCond .lt 72) 3 := (by decide +kernel : decode prog_2_method_8_code 29 = .ok (.ifCond .lt 72, 3))
theorem d_Ah_spreadYear_32 : m_D k_Ah_spreadYear 32 (.iconst 0) 1 := (by decide +kernel : decode prog_2_method_8_code 32 = .ok (.iconst 0, 1))
theorem d_Ah_spreadYear_33 : m_D k_Ah_spreadYear 33 (.istore 5) 2 := (by decide +kernel : decode prog_2_method_8_code 33 = .ok (.istore 5, 2))
theorem d_Ah_spreadYear_35 : m_D k_Ah_spreadYear 35 (.iconst 0) 1 := (by decide +kernel : decode prog_2_method_8_code 35 = .ok (.iconst 0, 1))
theorem d_Ah_spreadYear_36 : m_D k_Ah_spreadYear 36 (.istore 6) 2 := (by decide +kernel : decode prog_2_method_8_code 36 = .ok (.istore 6, 2))
theorem d_Ah_spreadYear_38 : m_D k_Ah_spreadYear 38 (.iload 6) 2 := (by decide +kernel : decode prog_2_method_8_code 38 = .ok (.iload 6, 2))
theorem d_Ah_spreadYear_40 : m_D k_Ah_spreadYear 40 (.bipush 10) 2 := (by decide +kernel : decode prog_2_method_8_code 40 = .ok (.bipush 10, 2))
theorem d_Ah_spreadYear_42 : m_D k_Ah_spreadYear 42 (.if_icmp .ge 44) 3 := (by decide +kernel : decode prog_2_method_8_code 42 = .ok (.if_icmp .ge 44, 3))
theorem d_Ah_spreadYear_45 : m_D k_Ah_spreadYear 45 (.iload 4) 2 := (by decide +kernel : decode prog_2_method_8_code 45 = .ok (.iload 4, 2))
theorem d_Ah_spreadYear_47 : m_D k_Ah_spreadYear 47 (.iload_n 1) 1 := (by decide +kernel : decode prog_2_method_8_code 47 = .ok (.iload_n 1, 1))
theorem d_Ah_spreadYear_48 : m_D k_Ah_spreadYear 48 (.iload 6) 2 := (by decide +kernel : decode prog_2_method_8_code 48 = .ok (.iload 6, 2))
theorem d_Ah_spreadYear_50 : m_D k_Ah_spreadYear 50 (.iload_n 2) 1 := (by decide +kernel : decode prog_2_method_8_code 50 = .ok (.iload_n 2, 1))
theorem d_Ah_spreadYear_51 : m_D k_Ah_spreadYear 51 (.invokestatic 86) 3 := (by decide +kernel : decode prog_2_method_8_code 51 = .ok (.invokestatic 86, 3))
theorem d_Ah_spreadYear_54 : m_D k_Ah_spreadYear 54 (.isub) 1 := (by decide +kernel : decode prog_2_method_8_code 54 = .ok (.isub, 1))
theorem d_Ah_spreadYear_55 : m_D k_Ah_spreadYear 55 (.istore 7) 2 := (by decide +kernel : decode prog_2_method_8_code 55 = .ok (.istore 7, 2))
theorem d_Ah_spreadYear_57 : m_D k_Ah_spreadYear 57 (.iload 7) 2 := (by decide +kernel : decode prog_2_method_8_code 57 = .ok (.iload 7, 2))
theorem d_Ah_spreadYear_59 : m_D k_Ah_spreadYear 59 (.ifCond .lt 21) 3 := (by decide +kernel : decode prog_2_method_8_code 59 = .ok (.ifCond .lt 21, 3))
theorem d_Ah_spreadYear_62 : m_D k_Ah_spreadYear 62 (.iload 7) 2 := (by decide +kernel : decode prog_2_method_8_code 62 = .ok (.iload 7, 2))
theorem d_Ah_spreadYear_64 : m_D k_Ah_spreadYear 64 (.iload_n 3) 1 := (by decide +kernel : decode prog_2_method_8_code 64 = .ok (.iload_n 3, 1))
theorem d_Ah_spreadYear_65 : m_D k_Ah_spreadYear 65 (.if_icmp .gt 15) 3 := (by decide +kernel : decode prog_2_method_8_code 65 = .ok (.if_icmp .gt 15, 3))
theorem d_Ah_spreadYear_68 : m_D k_Ah_spreadYear 68 (.iload 5) 2 := (by decide +kernel : decode prog_2_method_8_code 68 = .ok (.iload 5, 2))
theorem d_Ah_spreadYear_70 : m_D k_Ah_spreadYear 70 (.aload_n 0) 1 := (by decide +kernel : decode prog_2_method_8_code 70 = .ok (.aload_n 0, 1))
theorem d_Ah_spreadYear_71 : m_D k_Ah_spreadYear 71 (.getfield 22) 3 := (by decide +kernel : decode prog_2_method_8_code 71 = .ok (.getfield 22, 3))
theorem d_Ah_spreadYear_74 : m_D k_Ah_spreadYear 74 (.iload 7) 2 := (by decide +kernel : decode prog_2_method_8_code 74 = .ok (.iload 7, 2))
theorem d_Ah_spreadYear_76 : m_D k_Ah_spreadYear 76 (.iaload) 1 := (by decide +kernel : decode prog_2_method_8_code 76 = .ok (.iaload, 1))
theorem d_Ah_spreadYear_77 : m_D k_Ah_spreadYear 77 (.iadd) 1 := (by decide +kernel : decode prog_2_method_8_code 77 = .ok (.iadd, 1))
theorem d_Ah_spreadYear_78 : m_D k_Ah_spreadYear 78 (.istore 5) 2 := (by decide +kernel : decode prog_2_method_8_code 78 = .ok (.istore 5, 2))
theorem d_Ah_spreadYear_80 : m_D k_Ah_spreadYear 80 (.iinc 6 1) 3 := (by decide +kernel : decode prog_2_method_8_code 80 = .ok (.iinc 6 1, 3))
theorem d_Ah_spreadYear_83 : m_D k_Ah_spreadYear 83 (.goto (-45)) 3 := (by decide +kernel : decode prog_2_method_8_code 83 = .ok (.goto (-45), 3))
theorem d_Ah_spreadYear_86 : m_D k_Ah_spreadYear 86 (.aload_n 0) 1 := (by decide +kernel : decode prog_2_method_8_code 86 = .ok (.aload_n 0, 1))
theorem d_Ah_spreadYear_87 : m_D k_Ah_spreadYear 87 (.getfield 22) 3 := (by decide +kernel : decode prog_2_method_8_code 87 = .ok (.getfield 22, 3))
theorem d_Ah_spreadYear_90 : m_D k_Ah_spreadYear 90 (.iload 4) 2 := (by decide +kernel : decode prog_2_method_8_code 90 = .ok (.iload 4, 2))
theorem d_Ah_spreadYear_92 : m_D k_Ah_spreadYear 92 (.iload 5) 2 := (by decide +kernel : decode prog_2_method_8_code 92 = .ok (.iload 5, 2))
theorem d_Ah_spreadYear_94 : m_D k_Ah_spreadYear 94 (.iastore) 1 := (by decide +kernel : decode prog_2_method_8_code 94 = .ok (.iastore, 1))
theorem d_Ah_spreadYear_95 : m_D k_Ah_spreadYear 95 (.iinc 4 (-1)) 3 := (by decide +kernel : decode prog_2_method_8_code 95 = .ok (.iinc 4 (-1), 3))
theorem d_Ah_spreadYear_98 : m_D k_Ah_spreadYear 98 (.goto (-71)) 3 := (by decide +kernel : decode prog_2_method_8_code 98 = .ok (.goto (-71), 3))
theorem d_Ah_spreadYear_101 : m_D k_Ah_spreadYear 101 (.return_) 1 := (by decide +kernel : decode prog_2_method_8_code 101 = .ok (.return_, 1))
def fn_Ah_spreadYear_l38 (x0 : Option mA) (x1 : Int32) (x2 : Int32) (v1 : Int32) (t5 : Int32) (t6 : Int32 × Int32) : mP ((Int32 × Int32) ⊕ (Int32)) :=
  if 10 ≤ t6.2 then
    m_rt (.inr t6.1)
  else
    m_bd (fn_Th_biteBy x1 t6.2 x2) fun v7 =>
    m_bd (α := Int32) (
      if (t5 - v7) < 0 then
        m_rt t6.1
      else
        if v1 < (t5 - v7) then
          m_rt t6.1
        else
          m_bd (m_gR 7 3 x0) fun v8 =>
          m_bd (m_aI 0 v8 (t5 - v7)) fun v9 =>
          m_rt (t6.1 + v9)
      ) fun (t10 : Int32) =>
    m_rt (.inl (t10, (t6.2 + 1)))
def fn_Ah_spreadYear_l27 (x0 : Option mA) (x1 : Int32) (x2 : Int32) (v1 : Int32) (t5 : Int32) : mP ((Int32) ⊕ (Unit)) :=
  if t5 < 0 then
    m_rt (.inr ())
  else
    m_bd (m_lp (fn_Ah_spreadYear_l38 x0 x1 x2 v1 t5) m_F (0, 0)) fun (t11 : Int32) =>
    m_bd (m_gR 7 3 x0) fun v12 =>
    m_bd (m_tI 0 v12 t5 t11) fun _ =>
    m_rt (.inl (t5 + (-1)))
def fn_Ah_spreadYear (x0 : Option mA) (x1 : Int32) (x2 : Int32) : mP Unit :=
  m_th 7 x0 <|
  m_bd (m_gI 7 4 x0) fun v1 =>
  m_bd (m_gI 7 4 x0) fun v2 =>
  m_bd (fn_Th_biteBy x1 9 x2) fun v3 =>
  m_bd (m_pI 7 4 x0 (v2 + v3)) fun _ =>
  m_bd (m_gI 7 4 x0) fun v4 =>
  m_bd (m_lp (fn_Ah_spreadYear_l27 x0 x1 x2 v1) m_F v4) fun (t13 : Unit) =>
  m_rt ()
set_option maxHeartbeats 4000000 in
set_option maxRecDepth 100000 in
theorem sd_Ah_spreadYear (x0 : Option mA) (x1 : Int32) (x2 : Int32) : m_Sm k_Ah_spreadYear 2 0 0 [.inr (.inr x0), .inl x1, .inl x2] (fn_Ah_spreadYear x0 x1 x2) (fun _ => none) := by
  refine ⟨Nat.le_of_ble_eq_true rfl, ?_⟩
  refine sm_th ?_
  refine sm_aload_n (i := 0) (j := 0) (pc' := 1) d_Ah_spreadYear_0 rfl rfl rfl ?_
  refine sm_getI (pc' := 4) d_Ah_spreadYear_1 rfl fl_Ah_96 rfl ⟨by decide, by decide⟩ (fun v1 => ?_)
  refine sm_istore_n (i := 3) (L' := [(3, .inl v1), (0, .inr (.inr x0)), (1, .inl x1), (2, .inl x2)]) (pc' := 5) d_Ah_spreadYear_4 rfl rfl (Nat.le_of_ble_eq_true rfl) rfl (sm_aload_n (i := 0) (j := 1) (pc' := 6) d_Ah_spreadYear_5 rfl rfl rfl (sm_dup (pc' := 7) d_Ah_spreadYear_6 rfl rfl ?_))
  refine sm_getI (pc' := 10) d_Ah_spreadYear_7 rfl fl_Ah_96 rfl ⟨by decide, by decide⟩ (fun v2 => ?_)
  refine sm_iload_n (i := 1) (j := 2) (pc' := 11) d_Ah_spreadYear_10 rfl rfl rfl (sm_bipush (pc' := 13) d_Ah_spreadYear_11 rfl ib_9 (sm_iload_n (i := 2) (j := 3) (pc' := 14) d_Ah_spreadYear_13 rfl rfl rfl ?_))
  refine sm_callSi (av := [.inl x1, .inl 9, .inl x2]) (st := [.inl v2, .inr (.inr x0)]) (mc := 0) (ms := 0) (pc' := 17) d_Ah_spreadYear_14 rfl (sd_Th_biteBy x1 9 x2) cs_Th_biteBy w_ml_Ah_86 rfl rfl (by decide) (Nat.le_of_ble_eq_true rfl) rfl rfl (fun v3 => ?_)
  refine sm_iadd (pc' := 18) d_Ah_spreadYear_17 rfl (sm_putI (pc' := 21) d_Ah_spreadYear_18 rfl fl_Ah_96 (Or.inl rfl) rfl (sm_aload_n (i := 0) (j := 1) (pc' := 22) d_Ah_spreadYear_21 rfl rfl rfl ?_))
  refine sm_getI (pc' := 25) d_Ah_spreadYear_22 rfl fl_Ah_96 rfl ⟨by decide, by decide⟩ (fun v4 => ?_)
  refine sm_istore (L' := [(4, .inl v4), (3, .inl v1), (0, .inr (.inr x0)), (1, .inl x1), (2, .inl x2)]) (pc' := 27) d_Ah_spreadYear_25 rfl (Nat.le_of_ble_eq_true rfl) rfl ?_
  refine sm_sub [0, 2, 3, 4, 1] rfl ?_
  refine sm_bd (mid := fun (t13 : Unit) => .inl (101, [], [])) (sm_lp (hd := fun (t5 : Int32) => (.inl (27, [(4, .inl t5), (0, .inr (.inr x0)), (1, .inl x1), (2, .inl x2), (3, .inl v1)], []) : mC)) (fun t5 => ?_) m_F v4) (fun t13 => ?_)
  · refine sm_iload (j := 0) (pc' := 29) d_Ah_spreadYear_27 rfl rfl ?_
    refine sm_if_lt (tgt := 101) (pc' := 32) d_Ah_spreadYear_29 rfl rfl ?_ ?_
    · refine sm_sub [] rfl ?_
      exact sm_rt rfl
    · refine sm_iconst (pc' := 33) d_Ah_spreadYear_32 rfl ic_0 (sm_istore (L' := [(5, .inl 0), (4, .inl t5), (0, .inr (.inr x0)), (1, .inl x1), (2, .inl x2), (3, .inl v1)]) (pc' := 35) d_Ah_spreadYear_33 rfl (Nat.le_of_ble_eq_true rfl) rfl (sm_iconst (pc' := 36) d_Ah_spreadYear_35 rfl ic_0 (sm_istore (L' := [(6, .inl 0), (5, .inl 0), (4, .inl t5), (0, .inr (.inr x0)), (1, .inl x1), (2, .inl x2), (3, .inl v1)]) (pc' := 38) d_Ah_spreadYear_36 rfl (Nat.le_of_ble_eq_true rfl) rfl ?_)))
      refine sm_sub [1, 0, 3, 4, 5, 6, 2] rfl ?_
      refine sm_bd (mid := fun (t11 : Int32) => .inl (86, [(5, .inl t11), (0, .inr (.inr x0)), (1, .inl x1), (2, .inl x2), (3, .inl v1), (4, .inl t5)], [])) (sm_lp (hd := fun (t6 : Int32 × Int32) => (.inl (38, [(5, .inl t6.1), (6, .inl t6.2), (0, .inr (.inr x0)), (1, .inl x1), (2, .inl x2), (3, .inl v1), (4, .inl t5)], []) : mC)) (fun t6 => ?_) m_F (0, 0)) (fun t11 => ?_)
      · refine sm_iload (j := 1) (pc' := 40) d_Ah_spreadYear_38 rfl rfl (sm_bipush (pc' := 42) d_Ah_spreadYear_40 rfl ib_10 ?_)
        refine sm_icmp_ge (tgt := 86) (pc' := 45) d_Ah_spreadYear_42 rfl rfl ?_ ?_
        · refine sm_sub [0, 2, 3, 4, 5, 6] rfl ?_
          exact sm_rt rfl
        · refine sm_iload (j := 6) (pc' := 47) d_Ah_spreadYear_45 rfl rfl (sm_iload_n (i := 1) (j := 3) (pc' := 48) d_Ah_spreadYear_47 rfl rfl rfl (sm_iload (j := 1) (pc' := 50) d_Ah_spreadYear_48 rfl rfl (sm_iload_n (i := 2) (j := 4) (pc' := 51) d_Ah_spreadYear_50 rfl rfl rfl ?_)))
          refine sm_callSi (av := [.inl x1, .inl t6.2, .inl x2]) (st := [.inl t5]) (mc := 0) (ms := 0) (pc' := 54) d_Ah_spreadYear_51 rfl (sd_Th_biteBy x1 t6.2 x2) cs_Th_biteBy w_ml_Ah_86 rfl rfl (by decide) (Nat.le_of_ble_eq_true rfl) rfl rfl (fun v7 => ?_)
          refine sm_isub (pc' := 55) d_Ah_spreadYear_54 rfl (sm_istore (L' := [(7, .inl (t5 - v7)), (5, .inl t6.1), (6, .inl t6.2), (0, .inr (.inr x0)), (1, .inl x1), (2, .inl x2), (3, .inl v1), (4, .inl t5)]) (pc' := 57) d_Ah_spreadYear_55 rfl (Nat.le_of_ble_eq_true rfl) rfl (sm_iload (j := 0) (pc' := 59) d_Ah_spreadYear_57 rfl rfl ?_))
          refine sm_bd (mid := fun (t10 : Int32) => .inl (80, [(0, .inr (.inr x0)), (1, .inl x1), (2, .inl x2), (3, .inl v1), (4, .inl t5), (5, .inl t10), (6, .inl t6.2)], [])) ?_ (fun t10 => ?_)
          · refine sm_if_lt (tgt := 80) (pc' := 62) d_Ah_spreadYear_59 rfl rfl ?_ ?_
            · refine sm_sub [3, 4, 5, 6, 7, 1, 2] rfl ?_
              exact sm_rt rfl
            · refine sm_iload (j := 0) (pc' := 64) d_Ah_spreadYear_62 rfl rfl (sm_iload_n (i := 3) (j := 6) (pc' := 65) d_Ah_spreadYear_64 rfl rfl rfl ?_)
              refine sm_icmp_gt (tgt := 80) (pc' := 68) d_Ah_spreadYear_65 rfl rfl ?_ ?_
              · refine sm_sub [3, 4, 5, 6, 7, 1, 2] rfl ?_
                exact sm_rt rfl
              · refine sm_iload (j := 1) (pc' := 70) d_Ah_spreadYear_68 rfl rfl (sm_aload_n (i := 0) (j := 3) (pc' := 71) d_Ah_spreadYear_70 rfl rfl rfl ?_)
                refine sm_getR (pc' := 74) d_Ah_spreadYear_71 rfl fl_Ah_22 rfl rfl (fun v8 => ?_)
                refine sm_iload (j := 0) (pc' := 76) d_Ah_spreadYear_74 rfl rfl ?_
                refine sm_iald (pc' := 77) d_Ah_spreadYear_76 rfl (fun v9 => ?_)
                refine sm_iadd (pc' := 78) d_Ah_spreadYear_77 rfl (sm_istore (L' := [(5, .inl (t6.1 + v9)), (7, .inl (t5 - v7)), (6, .inl t6.2), (0, .inr (.inr x0)), (1, .inl x1), (2, .inl x2), (3, .inl v1), (4, .inl t5)]) (pc' := 80) d_Ah_spreadYear_78 rfl (Nat.le_of_ble_eq_true rfl) rfl (sm_sub [3, 4, 5, 6, 7, 0, 2] rfl ?_))
                exact sm_rt rfl
          · refine sm_iinc (j := 6) (L' := [(6, .inl (t6.2 + 1)), (0, .inr (.inr x0)), (1, .inl x1), (2, .inl x2), (3, .inl v1), (4, .inl t5), (5, .inl t10)]) (pc' := 83) d_Ah_spreadYear_80 rfl (v := (t6.2 + 1)) rfl (ix_1 _) (Nat.le_of_ble_eq_true rfl) rfl (sm_goto (tgt := 38) d_Ah_spreadYear_83 rfl (sm_sub [6, 0, 1, 2, 3, 4, 5] rfl ?_))
            exact sm_rt rfl
      · refine sm_aload_n (i := 0) (j := 1) (pc' := 87) d_Ah_spreadYear_86 rfl rfl rfl ?_
        refine sm_getR (pc' := 90) d_Ah_spreadYear_87 rfl fl_Ah_22 rfl rfl (fun v12 => ?_)
        refine sm_iload (j := 5) (pc' := 92) d_Ah_spreadYear_90 rfl rfl (sm_iload (j := 0) (pc' := 94) d_Ah_spreadYear_92 rfl rfl (sm_iast (pc' := 95) d_Ah_spreadYear_94 rfl (sm_iinc (j := 5) (L' := [(4, .inl (t5 + (-1))), (5, .inl t11), (0, .inr (.inr x0)), (1, .inl x1), (2, .inl x2), (3, .inl v1)]) (pc' := 98) d_Ah_spreadYear_95 rfl (v := (t5 + (-1))) rfl (ix_m1 _) (Nat.le_of_ble_eq_true rfl) rfl (sm_goto (tgt := 27) d_Ah_spreadYear_98 rfl (sm_sub [0, 2, 3, 4, 5] rfl ?_)))))
        exact sm_rt rfl
  · exact sm_return d_Ah_spreadYear_101 rfl rfl
theorem d_Ah_spread_0 : m_D k_Ah_spread 0 (.aload_n 0) 1 := (by decide +kernel : decode prog_2_method_7_code 0 = .ok (.aload_n 0, 1))
theorem d_Ah_spread_1 : m_D k_Ah_spread 1 (.iconst 1) 1 := (by decide +kernel : decode prog_2_method_7_code 1 = .ok (.iconst 1, 1))
theorem d_Ah_spread_2 : m_D k_Ah_spread 2 (.putfield 93) 3 := (by decide +kernel : decode prog_2_method_7_code 2 = .ok (.putfield 93, 3))
theorem d_Ah_spread_5 : m_D k_Ah_spread 5 (.aload_n 0) 1 := (by decide +kernel : decode prog_2_method_7_code 5 = .ok (.aload_n 0, 1))
theorem d_Ah_spread_6 : m_D k_Ah_spread 6 (.iconst 0) 1 := (by decide +kernel : decode prog_2_method_7_code 6 = .ok (.iconst 0, 1))
theorem d_Ah_spread_7 : m_D k_Ah_spread 7 (.putfield 96) 3 := (by decide +kernel : decode prog_2_method_7_code 7 = .ok (.putfield 96, 3))
theorem d_Ah_spread_10 : m_D k_Ah_spread 10 (.aload_n 0) 1 := (by decide +kernel : decode prog_2_method_7_code 10 = .ok (.aload_n 0, 1))
theorem d_Ah_spread_11 : m_D k_Ah_spread 11 (.getfield 22) 3 := (by decide +kernel : decode prog_2_method_7_code 11 = .ok (.getfield 22, 3))
theorem d_Ah_spread_14 : m_D k_Ah_spread 14 (.iconst 0) 1 := (by decide +kernel : decode prog_2_method_7_code 14 = .ok (.iconst 0, 1))
theorem d_Ah_spread_15 : m_D k_Ah_spread 15 (.iconst 1) 1 := (by decide +kernel : decode prog_2_method_7_code 15 = .ok (.iconst 1, 1))
theorem d_Ah_spread_16 : m_D k_Ah_spread 16 (.iastore) 1 := (by decide +kernel : decode prog_2_method_7_code 16 = .ok (.iastore, 1))
theorem d_Ah_spread_17 : m_D k_Ah_spread 17 (.iconst 0) 1 := (by decide +kernel : decode prog_2_method_7_code 17 = .ok (.iconst 0, 1))
theorem d_Ah_spread_18 : m_D k_Ah_spread 18 (.istore 4) 2 := (by decide +kernel : decode prog_2_method_7_code 18 = .ok (.istore 4, 2))
theorem d_Ah_spread_20 : m_D k_Ah_spread 20 (.iload 4) 2 := (by decide +kernel : decode prog_2_method_7_code 20 = .ok (.iload 4, 2))
theorem d_Ah_spread_22 : m_D k_Ah_spread 22 (.iload_n 3) 1 := (by decide +kernel : decode prog_2_method_7_code 22 = .ok (.iload_n 3, 1))
theorem d_Ah_spread_23 : m_D k_Ah_spread 23 (.if_icmp .ge 52) 3 := (by decide +kernel : decode prog_2_method_7_code 23 = .ok (.if_icmp .ge 52, 3))
theorem d_Ah_spread_26 : m_D k_Ah_spread 26 (.aload_n 0) 1 := (by decide +kernel : decode prog_2_method_7_code 26 = .ok (.aload_n 0, 1))
theorem d_Ah_spread_27 : m_D k_Ah_spread 27 (.aload_n 1) 1 := (by decide +kernel : decode prog_2_method_7_code 27 = .ok (.aload_n 1, 1))
theorem d_Ah_spread_28 : m_D k_Ah_spread 28 (.iload_n 2) 1 := (by decide +kernel : decode prog_2_method_7_code 28 = .ok (.iload_n 2, 1))
theorem d_Ah_spread_29 : m_D k_Ah_spread 29 (.iload 4) 2 := (by decide +kernel : decode prog_2_method_7_code 29 = .ok (.iload 4, 2))
theorem d_Ah_spread_31 : m_D k_Ah_spread 31 (.iconst 1) 1 := (by decide +kernel : decode prog_2_method_7_code 31 = .ok (.iconst 1, 1))
theorem d_Ah_spread_32 : m_D k_Ah_spread 32 (.iadd) 1 := (by decide +kernel : decode prog_2_method_7_code 32 = .ok (.iadd, 1))
theorem d_Ah_spread_33 : m_D k_Ah_spread 33 (.invokevirtual 80) 3 := (by decide +kernel : decode prog_2_method_7_code 33 = .ok (.invokevirtual 80, 3))
theorem d_Ah_spread_36 : m_D k_Ah_spread 36 (.aload_n 1) 1 := (by decide +kernel : decode prog_2_method_7_code 36 = .ok (.aload_n 1, 1))
theorem d_Ah_spread_37 : m_D k_Ah_spread 37 (.getfield 25) 3 := (by decide +kernel : decode prog_2_method_7_code 37 = .ok (.getfield 25, 3))
theorem d_Ah_spread_40 : m_D k_Ah_spread 40 (.iload_n 2) 1 := (by decide +kernel : decode prog_2_method_7_code 40 = .ok (.iload_n 2, 1))
theorem d_Ah_spread_41 : m_D k_Ah_spread 41 (.aaload) 1 := (by decide +kernel : decode prog_2_method_7_code 41 = .ok (.aaload, 1))
theorem d_Ah_spread_42 : m_D k_Ah_spread 42 (.getfield 83) 3 := (by decide +kernel : decode prog_2_method_7_code 42 = .ok (.getfield 83, 3))
theorem d_Ah_spread_45 : m_D k_Ah_spread 45 (.iload 4) 2 := (by decide +kernel : decode prog_2_method_7_code 45 = .ok (.iload 4, 2))
theorem d_Ah_spread_47 : m_D k_Ah_spread 47 (.if_icmp .le 7) 3 := (by decide +kernel : decode prog_2_method_7_code 47 = .ok (.if_icmp .le 7, 3))
theorem d_Ah_spread_50 : m_D k_Ah_spread 50 (.iconst 1) 1 := (by decide +kernel : decode prog_2_method_7_code 50 = .ok (.iconst 1, 1))
theorem d_Ah_spread_51 : m_D k_Ah_spread 51 (.goto 4) 3 := (by decide +kernel : decode prog_2_method_7_code 51 = .ok (.goto 4, 3))
theorem d_Ah_spread_54 : m_D k_Ah_spread 54 (.iconst 0) 1 := (by decide +kernel : decode prog_2_method_7_code 54 = .ok (.iconst 0, 1))
theorem d_Ah_spread_55 : m_D k_Ah_spread 55 (.invokevirtual 99) 3 := (by decide +kernel : decode prog_2_method_7_code 55 = .ok (.invokevirtual 99, 3))
theorem d_Ah_spread_58 : m_D k_Ah_spread 58 (.aload_n 0) 1 := (by decide +kernel : decode prog_2_method_7_code 58 = .ok (.aload_n 0, 1))
theorem d_Ah_spread_59 : m_D k_Ah_spread 59 (.dup) 1 := (by decide +kernel : decode prog_2_method_7_code 59 = .ok (.dup, 1))
theorem d_Ah_spread_60 : m_D k_Ah_spread 60 (.getfield 93) 3 := (by decide +kernel : decode prog_2_method_7_code 60 = .ok (.getfield 93, 3))
theorem d_Ah_spread_63 : m_D k_Ah_spread 63 (.bipush 10) 2 := (by decide +kernel : decode prog_2_method_7_code 63 = .ok (.bipush 10, 2))
theorem d_Ah_spread_65 : m_D k_Ah_spread 65 (.imul) 1 := (by decide +kernel : decode prog_2_method_7_code 65 = .ok (.imul, 1))
theorem d_Ah_spread_66 : m_D k_Ah_spread 66 (.putfield 93) 3 := (by decide +kernel : decode prog_2_method_7_code 66 = .ok (.putfield 93, 3))
theorem d_Ah_spread_69 : m_D k_Ah_spread 69 (.iinc 4 1) 3 := (by decide +kernel : decode prog_2_method_7_code 69 = .ok (.iinc 4 1, 3))
theorem d_Ah_spread_72 : m_D k_Ah_spread 72 (.goto (-52)) 3 := (by decide +kernel : decode prog_2_method_7_code 72 = .ok (.goto (-52), 3))
theorem d_Ah_spread_75 : m_D k_Ah_spread 75 (.iconst 1) 1 := (by decide +kernel : decode prog_2_method_7_code 75 = .ok (.iconst 1, 1))
theorem d_Ah_spread_76 : m_D k_Ah_spread 76 (.istore 4) 2 := (by decide +kernel : decode prog_2_method_7_code 76 = .ok (.istore 4, 2))
theorem d_Ah_spread_78 : m_D k_Ah_spread 78 (.iload 4) 2 := (by decide +kernel : decode prog_2_method_7_code 78 = .ok (.iload 4, 2))
theorem d_Ah_spread_80 : m_D k_Ah_spread 80 (.aload_n 0) 1 := (by decide +kernel : decode prog_2_method_7_code 80 = .ok (.aload_n 0, 1))
theorem d_Ah_spread_81 : m_D k_Ah_spread 81 (.getfield 96) 3 := (by decide +kernel : decode prog_2_method_7_code 81 = .ok (.getfield 96, 3))
theorem d_Ah_spread_84 : m_D k_Ah_spread 84 (.if_icmp .gt 28) 3 := (by decide +kernel : decode prog_2_method_7_code 84 = .ok (.if_icmp .gt 28, 3))
theorem d_Ah_spread_87 : m_D k_Ah_spread 87 (.aload_n 0) 1 := (by decide +kernel : decode prog_2_method_7_code 87 = .ok (.aload_n 0, 1))
theorem d_Ah_spread_88 : m_D k_Ah_spread 88 (.getfield 22) 3 := (by decide +kernel : decode prog_2_method_7_code 88 = .ok (.getfield 22, 3))
theorem d_Ah_spread_91 : m_D k_Ah_spread 91 (.iload 4) 2 := (by decide +kernel : decode prog_2_method_7_code 91 = .ok (.iload 4, 2))
theorem d_Ah_spread_93 : m_D k_Ah_spread 93 (.dup2) 1 := (by decide +kernel : decode prog_2_method_7_code 93 = .ok (.dup2, 1))
theorem d_Ah_spread_94 : m_D k_Ah_spread 94 (.iaload) 1 := (by decide +kernel : decode prog_2_method_7_code 94 = .ok (.iaload, 1))
theorem d_Ah_spread_95 : m_D k_Ah_spread 95 (.aload_n 0) 1 := (by decide +kernel : decode prog_2_method_7_code 95 = .ok (.aload_n 0, 1))
theorem d_Ah_spread_96 : m_D k_Ah_spread 96 (.getfield 22) 3 := (by decide +kernel : decode prog_2_method_7_code 96 = .ok (.getfield 22, 3))
theorem d_Ah_spread_99 : m_D k_Ah_spread 99 (.iload 4) 2 := (by decide +kernel : decode prog_2_method_7_code 99 = .ok (.iload 4, 2))
theorem d_Ah_spread_101 : m_D k_Ah_spread 101 (.iconst 1) 1 := (by decide +kernel : decode prog_2_method_7_code 101 = .ok (.iconst 1, 1))
theorem d_Ah_spread_102 : m_D k_Ah_spread 102 (.isub) 1 := (by decide +kernel : decode prog_2_method_7_code 102 = .ok (.isub, 1))
theorem d_Ah_spread_103 : m_D k_Ah_spread 103 (.iaload) 1 := (by decide +kernel : decode prog_2_method_7_code 103 = .ok (.iaload, 1))
theorem d_Ah_spread_104 : m_D k_Ah_spread 104 (.iadd) 1 := (by decide +kernel : decode prog_2_method_7_code 104 = .ok (.iadd, 1))
theorem d_Ah_spread_105 : m_D k_Ah_spread 105 (.iastore) 1 := (by decide +kernel : decode prog_2_method_7_code 105 = .ok (.iastore, 1))
theorem d_Ah_spread_106 : m_D k_Ah_spread 106 (.iinc 4 1) 3 := (by decide +kernel : decode prog_2_method_7_code 106 = .ok (.iinc 4 1, 3))
theorem d_Ah_spread_109 : m_D k_Ah_spread 109 (.goto (-31)) 3 := (by decide +kernel : decode prog_2_method_7_code 109 = .ok (.goto (-31), 3))
theorem d_Ah_spread_112 : m_D k_Ah_spread 112 (.return_) 1 := (by decide +kernel : decode prog_2_method_7_code 112 = .ok (.return_, 1))
def fn_Ah_spread_l20 (x0 : Option mA) (x1 : Option mA) (x2 : Int32) (x3 : Int32) (t2 : Int32) : mP ((Int32) ⊕ (Unit)) :=
  if x3 ≤ t2 then
    m_rt (.inr ())
  else
    m_bd (fn_Fa_lovedAhead x1 x2 (t2 + 1)) fun v3 =>
    m_bd (m_gR 3 8 x1) fun v4 =>
    m_bd (m_aR 7 v4 x2) fun v5 =>
    m_bd (m_gI 5 4 v5) fun v6 =>
    m_bd (α := Int32) (
      if v6 ≤ t2 then
        m_rt 0
      else
        m_rt 1
      ) fun (t7 : Int32) =>
    m_bd (fn_Ah_spreadYear x0 v3 t7) fun _ =>
    m_bd (m_gI 7 0 x0) fun v8 =>
    m_bd (m_pI 7 0 x0 (v8 * 10)) fun _ =>
    m_rt (.inl (t2 + 1))
def fn_Ah_spread_l78 (x0 : Option mA) (t10 : Int32) : mP ((Int32) ⊕ (Unit)) :=
  m_bd (m_gI 7 4 x0) fun v11 =>
  if v11 < t10 then
    m_rt (.inr ())
  else
    m_bd (m_gR 7 3 x0) fun v12 =>
    m_bd (m_aI 0 v12 t10) fun v13 =>
    m_bd (m_gR 7 3 x0) fun v14 =>
    m_bd (m_aI 0 v14 (t10 - 1)) fun v15 =>
    m_bd (m_tI 0 v12 t10 (v13 + v15)) fun _ =>
    m_rt (.inl (t10 + 1))
def fn_Ah_spread (x0 : Option mA) (x1 : Option mA) (x2 : Int32) (x3 : Int32) : mP Unit :=
  m_th 7 x0 <|
  m_bd (m_pI 7 0 x0 1) fun _ =>
  m_bd (m_pI 7 4 x0 0) fun _ =>
  m_bd (m_gR 7 3 x0) fun v1 =>
  m_bd (m_tI 0 v1 0 1) fun _ =>
  m_bd (m_lp (fn_Ah_spread_l20 x0 x1 x2 x3) m_F 0) fun (t9 : Unit) =>
  m_bd (m_lp (fn_Ah_spread_l78 x0) m_F 1) fun (t16 : Unit) =>
  m_rt ()
set_option maxHeartbeats 4000000 in
set_option maxRecDepth 100000 in
theorem sd_Ah_spread (x0 : Option mA) (x1 : Option mA) (x2 : Int32) (x3 : Int32) : m_Sm k_Ah_spread 4 0 0 [.inr (.inr x0), .inr (.inr x1), .inl x2, .inl x3] (fn_Ah_spread x0 x1 x2 x3) (fun _ => none) := by
  refine ⟨Nat.le_of_ble_eq_true rfl, ?_⟩
  refine sm_th ?_
  refine sm_aload_n (i := 0) (j := 0) (pc' := 1) d_Ah_spread_0 rfl rfl rfl (sm_iconst (pc' := 2) d_Ah_spread_1 rfl ic_1 (sm_putI (pc' := 5) d_Ah_spread_2 rfl fl_Ah_93 (Or.inl rfl) rfl (sm_aload_n (i := 0) (j := 0) (pc' := 6) d_Ah_spread_5 rfl rfl rfl (sm_iconst (pc' := 7) d_Ah_spread_6 rfl ic_0 (sm_putI (pc' := 10) d_Ah_spread_7 rfl fl_Ah_96 (Or.inl rfl) rfl (sm_aload_n (i := 0) (j := 0) (pc' := 11) d_Ah_spread_10 rfl rfl rfl ?_))))))
  refine sm_getR (pc' := 14) d_Ah_spread_11 rfl fl_Ah_22 rfl rfl (fun v1 => ?_)
  refine sm_iconst (pc' := 15) d_Ah_spread_14 rfl ic_0 (sm_iconst (pc' := 16) d_Ah_spread_15 rfl ic_1 (sm_iast (pc' := 17) d_Ah_spread_16 rfl (sm_iconst (pc' := 18) d_Ah_spread_17 rfl ic_0 (sm_istore (L' := [(4, .inl 0), (0, .inr (.inr x0)), (1, .inr (.inr x1)), (2, .inl x2), (3, .inl x3)]) (pc' := 20) d_Ah_spread_18 rfl (Nat.le_of_ble_eq_true rfl) rfl ?_))))
  refine sm_sub [0, 1, 2, 3, 4] rfl ?_
  refine sm_bd (mid := fun (t9 : Unit) => .inl (75, [(0, .inr (.inr x0))], [])) (sm_lp (hd := fun (t2 : Int32) => (.inl (20, [(4, .inl t2), (0, .inr (.inr x0)), (1, .inr (.inr x1)), (2, .inl x2), (3, .inl x3)], []) : mC)) (fun t2 => ?_) m_F 0) (fun t9 => ?_)
  · refine sm_iload (j := 0) (pc' := 22) d_Ah_spread_20 rfl rfl (sm_iload_n (i := 3) (j := 4) (pc' := 23) d_Ah_spread_22 rfl rfl rfl ?_)
    refine sm_icmp_ge (tgt := 75) (pc' := 26) d_Ah_spread_23 rfl rfl ?_ ?_
    · refine sm_sub [1] rfl ?_
      exact sm_rt rfl
    · refine sm_aload_n (i := 0) (j := 1) (pc' := 27) d_Ah_spread_26 rfl rfl rfl (sm_aload_n (i := 1) (j := 2) (pc' := 28) d_Ah_spread_27 rfl rfl rfl (sm_iload_n (i := 2) (j := 3) (pc' := 29) d_Ah_spread_28 rfl rfl rfl (sm_iload (j := 0) (pc' := 31) d_Ah_spread_29 rfl rfl (sm_iconst (pc' := 32) d_Ah_spread_31 rfl ic_1 (sm_iadd (pc' := 33) d_Ah_spread_32 rfl ?_)))))
      refine sm_callVi (ci := 3) (x := x1) (av := [.inl x2, .inl (t2 + 1)]) (st := [.inr (.inr x0)]) (mc := 0) (ms := 0) (pc' := 36) d_Ah_spread_33 rfl (sd_Fa_lovedAhead x1 x2 (t2 + 1)) m_lv rfl cv_Fa_lovedAhead w_ml_Ah_80 rfl rfl (by decide) (Nat.le_of_ble_eq_true rfl) rfl rfl (fun v3 => ?_)
      refine sm_aload_n (i := 1) (j := 2) (pc' := 37) d_Ah_spread_36 rfl rfl rfl ?_
      refine sm_getR (pc' := 40) d_Ah_spread_37 rfl fl_Ah_25 rfl rfl (fun v4 => ?_)
      refine sm_iload_n (i := 2) (j := 3) (pc' := 41) d_Ah_spread_40 rfl rfl rfl ?_
      refine sm_aald (t := 7) ⟨by decide, by decide⟩ rfl (pc' := 42) d_Ah_spread_41 rfl (fun v5 => ?_)
      refine sm_getI (pc' := 45) d_Ah_spread_42 rfl fl_Ah_83 rfl ⟨by decide, by decide⟩ (fun v6 => ?_)
      refine sm_iload (j := 0) (pc' := 47) d_Ah_spread_45 rfl rfl ?_
      refine sm_bd (mid := fun (t7 : Int32) => .inl (55, [(0, .inr (.inr x0)), (1, .inr (.inr x1)), (2, .inl x2), (3, .inl x3), (4, .inl t2)], [.inl t7, .inl v3, .inr (.inr x0)])) ?_ (fun t7 => ?_)
      · refine sm_icmp_le (tgt := 54) (pc' := 50) d_Ah_spread_47 rfl rfl ?_ ?_
        · refine sm_iconst (pc' := 55) d_Ah_spread_54 rfl ic_0 (sm_sub [1, 2, 3, 4, 0] rfl ?_)
          exact sm_rt rfl
        · refine sm_iconst (pc' := 51) d_Ah_spread_50 rfl ic_1 (sm_goto (tgt := 55) d_Ah_spread_51 rfl (sm_sub [1, 2, 3, 4, 0] rfl ?_))
          exact sm_rt rfl
      · refine sm_callVv (ci := 7) (x := x0) (av := [.inl v3, .inl t7]) (st := []) (mc := 0) (ms := 0) (pc' := 58) d_Ah_spread_55 rfl (sd_Ah_spreadYear x0 v3 t7) m_lv rfl cv_Ah_spreadYear w_ml_Ah_99 rfl rfl (by decide) (Nat.le_of_ble_eq_true rfl) rfl rfl ?_
        refine sm_aload_n (i := 0) (j := 0) (pc' := 59) d_Ah_spread_58 rfl rfl rfl (sm_dup (pc' := 60) d_Ah_spread_59 rfl rfl ?_)
        refine sm_getI (pc' := 63) d_Ah_spread_60 rfl fl_Ah_93 rfl ⟨by decide, by decide⟩ (fun v8 => ?_)
        refine sm_bipush (pc' := 65) d_Ah_spread_63 rfl ib_10 (sm_imul (pc' := 66) d_Ah_spread_65 rfl (sm_putI (pc' := 69) d_Ah_spread_66 rfl fl_Ah_93 (Or.inl rfl) rfl (sm_iinc (j := 4) (L' := [(4, .inl (t2 + 1)), (0, .inr (.inr x0)), (1, .inr (.inr x1)), (2, .inl x2), (3, .inl x3)]) (pc' := 72) d_Ah_spread_69 rfl (v := (t2 + 1)) rfl (ix_1 _) (Nat.le_of_ble_eq_true rfl) rfl (sm_goto (tgt := 20) d_Ah_spread_72 rfl (sm_sub [0, 1, 2, 3, 4] rfl ?_)))))
        exact sm_rt rfl
  · refine sm_iconst (pc' := 76) d_Ah_spread_75 rfl ic_1 (sm_istore (L' := [(4, .inl 1), (0, .inr (.inr x0))]) (pc' := 78) d_Ah_spread_76 rfl (Nat.le_of_ble_eq_true rfl) rfl ?_)
    refine sm_sub [0, 1] rfl ?_
    refine sm_bd (mid := fun (t16 : Unit) => .inl (112, [], [])) (sm_lp (hd := fun (t10 : Int32) => (.inl (78, [(4, .inl t10), (0, .inr (.inr x0))], []) : mC)) (fun t10 => ?_) m_F 1) (fun t16 => ?_)
    · refine sm_iload (j := 0) (pc' := 80) d_Ah_spread_78 rfl rfl (sm_aload_n (i := 0) (j := 1) (pc' := 81) d_Ah_spread_80 rfl rfl rfl ?_)
      refine sm_getI (pc' := 84) d_Ah_spread_81 rfl fl_Ah_96 rfl ⟨by decide, by decide⟩ (fun v11 => ?_)
      refine sm_icmp_gt (tgt := 112) (pc' := 87) d_Ah_spread_84 rfl rfl ?_ ?_
      · refine sm_sub [] rfl ?_
        exact sm_rt rfl
      · refine sm_aload_n (i := 0) (j := 1) (pc' := 88) d_Ah_spread_87 rfl rfl rfl ?_
        refine sm_getR (pc' := 91) d_Ah_spread_88 rfl fl_Ah_22 rfl rfl (fun v12 => ?_)
        refine sm_iload (j := 0) (pc' := 93) d_Ah_spread_91 rfl rfl (sm_dup2 (pc' := 94) d_Ah_spread_93 rfl rfl rfl ?_)
        refine sm_iald (pc' := 95) d_Ah_spread_94 rfl (fun v13 => ?_)
        refine sm_aload_n (i := 0) (j := 1) (pc' := 96) d_Ah_spread_95 rfl rfl rfl ?_
        refine sm_getR (pc' := 99) d_Ah_spread_96 rfl fl_Ah_22 rfl rfl (fun v14 => ?_)
        refine sm_iload (j := 0) (pc' := 101) d_Ah_spread_99 rfl rfl (sm_iconst (pc' := 102) d_Ah_spread_101 rfl ic_1 (sm_isub (pc' := 103) d_Ah_spread_102 rfl ?_))
        refine sm_iald (pc' := 104) d_Ah_spread_103 rfl (fun v15 => ?_)
        refine sm_iadd (pc' := 105) d_Ah_spread_104 rfl (sm_iast (pc' := 106) d_Ah_spread_105 rfl (sm_iinc (j := 0) (L' := [(4, .inl (t10 + 1)), (0, .inr (.inr x0))]) (pc' := 109) d_Ah_spread_106 rfl (v := (t10 + 1)) rfl (ix_1 _) (Nat.le_of_ble_eq_true rfl) rfl (sm_goto (tgt := 78) d_Ah_spread_109 rfl (sm_sub [0, 1] rfl ?_))))
        exact sm_rt rfl
    · exact sm_return d_Ah_spread_112 rfl rfl
theorem d_Ah_waysToLast_0 : m_D k_Ah_waysToLast 0 (.aload_n 1) 1 := (by decide +kernel : decode prog_2_method_9_code 0 = .ok (.aload_n 1, 1))
theorem d_Ah_waysToLast_1 : m_D k_Ah_waysToLast 1 (.getfield 77) 3 := (by decide +kernel : decode prog_2_method_9_code 1 = .ok (.getfield 77, 3))
theorem d_Ah_waysToLast_4 : m_D k_Ah_waysToLast 4 (.iload_n 2) 1 := (by decide +kernel : decode prog_2_method_9_code 4 = .ok (.iload_n 2, 1))
theorem d_Ah_waysToLast_5 : m_D k_Ah_waysToLast 5 (.iadd) 1 := (by decide +kernel : decode prog_2_method_9_code 5 = .ok (.iadd, 1))
theorem d_Ah_waysToLast_6 : m_D k_Ah_waysToLast 6 (.aload_n 1) 1 := (by decide +kernel : decode prog_2_method_9_code 6 = .ok (.aload_n 1, 1))
theorem d_Ah_waysToLast_7 : m_D k_Ah_waysToLast 7 (.getfield 59) 3 := (by decide +kernel : decode prog_2_method_9_code 7 = .ok (.getfield 59, 3))
theorem d_Ah_waysToLast_10 : m_D k_Ah_waysToLast 10 (.isub) 1 := (by decide +kernel : decode prog_2_method_9_code 10 = .ok (.isub, 1))
theorem d_Ah_waysToLast_11 : m_D k_Ah_waysToLast 11 (.iconst 1) 1 := (by decide +kernel : decode prog_2_method_9_code 11 = .ok (.iconst 1, 1))
theorem d_Ah_waysToLast_12 : m_D k_Ah_waysToLast 12 (.isub) 1 := (by decide +kernel : decode prog_2_method_9_code 12 = .ok (.isub, 1))
theorem d_Ah_waysToLast_13 : m_D k_Ah_waysToLast 13 (.istore_n 3) 1 := (by decide +kernel : decode prog_2_method_9_code 13 = .ok (.istore_n 3, 1))
theorem d_Ah_waysToLast_14 : m_D k_Ah_waysToLast 14 (.aload_n 1) 1 := (by decide +kernel : decode prog_2_method_9_code 14 = .ok (.aload_n 1, 1))
theorem d_Ah_waysToLast_15 : m_D k_Ah_waysToLast 15 (.getfield 59) 3 := (by decide +kernel : decode prog_2_method_9_code 15 = .ok (.getfield 59, 3))
theorem d_Ah_waysToLast_18 : m_D k_Ah_waysToLast 18 (.iload_n 2) 1 := (by decide +kernel : decode prog_2_method_9_code 18 = .ok (.iload_n 2, 1))
theorem d_Ah_waysToLast_19 : m_D k_Ah_waysToLast 19 (.if_icmp .lt 7) 3 := (by decide +kernel : decode prog_2_method_9_code 19 = .ok (.if_icmp .lt 7, 3))
theorem d_Ah_waysToLast_22 : m_D k_Ah_waysToLast 22 (.iconst 0) 1 := (by decide +kernel : decode prog_2_method_9_code 22 = .ok (.iconst 0, 1))
theorem d_Ah_waysToLast_23 : m_D k_Ah_waysToLast 23 (.goto 16) 3 := (by decide +kernel : decode prog_2_method_9_code 23 = .ok (.goto 16, 3))
theorem d_Ah_waysToLast_26 : m_D k_Ah_waysToLast 26 (.aload_n 0) 1 := (by decide +kernel : decode prog_2_method_9_code 26 = .ok (.aload_n 0, 1))
theorem d_Ah_waysToLast_27 : m_D k_Ah_waysToLast 27 (.getfield 22) 3 := (by decide +kernel : decode prog_2_method_9_code 27 = .ok (.getfield 22, 3))
theorem d_Ah_waysToLast_30 : m_D k_Ah_waysToLast 30 (.iload_n 3) 1 := (by decide +kernel : decode prog_2_method_9_code 30 = .ok (.iload_n 3, 1))
theorem d_Ah_waysToLast_31 : m_D k_Ah_waysToLast 31 (.aload_n 0) 1 := (by decide +kernel : decode prog_2_method_9_code 31 = .ok (.aload_n 0, 1))
theorem d_Ah_waysToLast_32 : m_D k_Ah_waysToLast 32 (.getfield 96) 3 := (by decide +kernel : decode prog_2_method_9_code 32 = .ok (.getfield 96, 3))
theorem d_Ah_waysToLast_35 : m_D k_Ah_waysToLast 35 (.invokestatic 103) 3 := (by decide +kernel : decode prog_2_method_9_code 35 = .ok (.invokestatic 103, 3))
theorem d_Ah_waysToLast_38 : m_D k_Ah_waysToLast 38 (.iaload) 1 := (by decide +kernel : decode prog_2_method_9_code 38 = .ok (.iaload, 1))
theorem d_Ah_waysToLast_39 : m_D k_Ah_waysToLast 39 (.ireturn) 1 := (by decide +kernel : decode prog_2_method_9_code 39 = .ok (.ireturn, 1))
def fn_Ah_waysToLast (x0 : Option mA) (x1 : Option mA) (x2 : Int32) : mP Int32 :=
  m_th 7 x0 <|
  m_bd (m_gI 5 2 x1) fun v1 =>
  m_bd (m_gI 5 3 x1) fun v2 =>
  m_bd (m_gI 5 3 x1) fun v3 =>
  if v3 < x2 then
    m_bd (m_gR 7 3 x0) fun v4 =>
    m_bd (m_gI 7 4 x0) fun v5 =>
    m_bd (m_aI 0 v4 (iMin (((v1 + x2) - v2) - 1) v5)) fun v6 =>
    m_rt v6
  else
    m_rt 0
set_option maxHeartbeats 4000000 in
set_option maxRecDepth 100000 in
theorem sd_Ah_waysToLast (x0 : Option mA) (x1 : Option mA) (x2 : Int32) : m_Sm k_Ah_waysToLast 1 0 0 [.inr (.inr x0), .inr (.inr x1), .inl x2] (fn_Ah_waysToLast x0 x1 x2) (fun b => some (.inl b)) := by
  refine ⟨Nat.le_of_ble_eq_true rfl, ?_⟩
  refine sm_th ?_
  refine sm_aload_n (i := 1) (j := 1) (pc' := 1) d_Ah_waysToLast_0 rfl rfl rfl ?_
  refine sm_getI (pc' := 4) d_Ah_waysToLast_1 rfl fl_Ah_77 rfl ⟨by decide, by decide⟩ (fun v1 => ?_)
  refine sm_iload_n (i := 2) (j := 2) (pc' := 5) d_Ah_waysToLast_4 rfl rfl rfl (sm_iadd (pc' := 6) d_Ah_waysToLast_5 rfl (sm_aload_n (i := 1) (j := 1) (pc' := 7) d_Ah_waysToLast_6 rfl rfl rfl ?_))
  refine sm_getI (pc' := 10) d_Ah_waysToLast_7 rfl fl_Ah_59 rfl ⟨by decide, by decide⟩ (fun v2 => ?_)
  refine sm_isub (pc' := 11) d_Ah_waysToLast_10 rfl (sm_iconst (pc' := 12) d_Ah_waysToLast_11 rfl ic_1 (sm_isub (pc' := 13) d_Ah_waysToLast_12 rfl (sm_istore_n (i := 3) (L' := [(3, .inl (((v1 + x2) - v2) - 1)), (0, .inr (.inr x0)), (1, .inr (.inr x1)), (2, .inl x2)]) (pc' := 14) d_Ah_waysToLast_13 rfl rfl (Nat.le_of_ble_eq_true rfl) rfl (sm_aload_n (i := 1) (j := 2) (pc' := 15) d_Ah_waysToLast_14 rfl rfl rfl ?_))))
  refine sm_getI (pc' := 18) d_Ah_waysToLast_15 rfl fl_Ah_59 rfl ⟨by decide, by decide⟩ (fun v3 => ?_)
  refine sm_iload_n (i := 2) (j := 3) (pc' := 19) d_Ah_waysToLast_18 rfl rfl rfl ?_
  refine sm_icmp_lt (tgt := 26) (pc' := 22) d_Ah_waysToLast_19 rfl rfl ?_ ?_
  · refine sm_aload_n (i := 0) (j := 1) (pc' := 27) d_Ah_waysToLast_26 rfl rfl rfl ?_
    refine sm_getR (pc' := 30) d_Ah_waysToLast_27 rfl fl_Ah_22 rfl rfl (fun v4 => ?_)
    refine sm_iload_n (i := 3) (j := 0) (pc' := 31) d_Ah_waysToLast_30 rfl rfl rfl (sm_aload_n (i := 0) (j := 1) (pc' := 32) d_Ah_waysToLast_31 rfl rfl rfl ?_)
    refine sm_getI (pc' := 35) d_Ah_waysToLast_32 rfl fl_Ah_96 rfl ⟨by decide, by decide⟩ (fun v5 => ?_)
    refine sm_mmin (pc' := 38) d_Ah_waysToLast_35 rfl w_ml_Ah_103 (by decide) (Nat.le_of_ble_eq_true rfl) ?_
    refine sm_iald (pc' := 39) d_Ah_waysToLast_38 rfl (fun v6 => ?_)
    exact sm_ireturn d_Ah_waysToLast_39 rfl rfl
  · refine sm_iconst (pc' := 23) d_Ah_waysToLast_22 rfl ic_0 (sm_goto (tgt := 39) d_Ah_waysToLast_23 rfl ?_)
    exact sm_ireturn d_Ah_waysToLast_39 rfl rfl
theorem d_C_lasts_0 : m_D k_C_lasts 0 (.aload_n 0) 1 := (by decide +kernel : decode prog_1_method_62_code 0 = .ok (.aload_n 0, 1))
theorem d_C_lasts_1 : m_D k_C_lasts 1 (.aload_n 0) 1 := (by decide +kernel : decode prog_1_method_62_code 1 = .ok (.aload_n 0, 1))
theorem d_C_lasts_2 : m_D k_C_lasts 2 (.iload_n 1) 1 := (by decide +kernel : decode prog_1_method_62_code 2 = .ok (.iload_n 1, 1))
theorem d_C_lasts_3 : m_D k_C_lasts 3 (.iload_n 2) 1 := (by decide +kernel : decode prog_1_method_62_code 3 = .ok (.iload_n 2, 1))
theorem d_C_lasts_4 : m_D k_C_lasts 4 (.invokevirtual 393) 3 := (by decide +kernel : decode prog_1_method_62_code 4 = .ok (.invokevirtual 393, 3))
theorem d_C_lasts_7 : m_D k_C_lasts 7 (.putfield 9) 3 := (by decide +kernel : decode prog_1_method_62_code 7 = .ok (.putfield 9, 3))
theorem d_C_lasts_10 : m_D k_C_lasts 10 (.aload_n 0) 1 := (by decide +kernel : decode prog_1_method_62_code 10 = .ok (.aload_n 0, 1))
theorem d_C_lasts_11 : m_D k_C_lasts 11 (.getfield 9) 3 := (by decide +kernel : decode prog_1_method_62_code 11 = .ok (.getfield 9, 3))
theorem d_C_lasts_14 : m_D k_C_lasts 14 (.ifCond .eq 5) 3 := (by decide +kernel : decode prog_1_method_62_code 14 = .ok (.ifCond .eq 5, 3))
theorem d_C_lasts_17 : m_D k_C_lasts 17 (.iconst 0) 1 := (by decide +kernel : decode prog_1_method_62_code 17 = .ok (.iconst 0, 1))
theorem d_C_lasts_18 : m_D k_C_lasts 18 (.ireturn) 1 := (by decide +kernel : decode prog_1_method_62_code 18 = .ok (.ireturn, 1))
theorem d_C_lasts_19 : m_D k_C_lasts 19 (.aload_n 0) 1 := (by decide +kernel : decode prog_1_method_62_code 19 = .ok (.aload_n 0, 1))
theorem d_C_lasts_20 : m_D k_C_lasts 20 (.getfield 61) 3 := (by decide +kernel : decode prog_1_method_62_code 20 = .ok (.getfield 61, 3))
theorem d_C_lasts_23 : m_D k_C_lasts 23 (.aload_n 0) 1 := (by decide +kernel : decode prog_1_method_62_code 23 = .ok (.aload_n 0, 1))
theorem d_C_lasts_24 : m_D k_C_lasts 24 (.getfield 37) 3 := (by decide +kernel : decode prog_1_method_62_code 24 = .ok (.getfield 37, 3))
theorem d_C_lasts_27 : m_D k_C_lasts 27 (.iload_n 1) 1 := (by decide +kernel : decode prog_1_method_62_code 27 = .ok (.iload_n 1, 1))
theorem d_C_lasts_28 : m_D k_C_lasts 28 (.iload_n 2) 1 := (by decide +kernel : decode prog_1_method_62_code 28 = .ok (.iload_n 2, 1))
theorem d_C_lasts_29 : m_D k_C_lasts 29 (.invokevirtual 396) 3 := (by decide +kernel : decode prog_1_method_62_code 29 = .ok (.invokevirtual 396, 3))
theorem d_C_lasts_32 : m_D k_C_lasts 32 (.aload_n 0) 1 := (by decide +kernel : decode prog_1_method_62_code 32 = .ok (.aload_n 0, 1))
theorem d_C_lasts_33 : m_D k_C_lasts 33 (.aload_n 0) 1 := (by decide +kernel : decode prog_1_method_62_code 33 = .ok (.aload_n 0, 1))
theorem d_C_lasts_34 : m_D k_C_lasts 34 (.getfield 61) 3 := (by decide +kernel : decode prog_1_method_62_code 34 = .ok (.getfield 61, 3))
theorem d_C_lasts_37 : m_D k_C_lasts 37 (.aload_n 0) 1 := (by decide +kernel : decode prog_1_method_62_code 37 = .ok (.aload_n 0, 1))
theorem d_C_lasts_38 : m_D k_C_lasts 38 (.getfield 37) 3 := (by decide +kernel : decode prog_1_method_62_code 38 = .ok (.getfield 37, 3))
theorem d_C_lasts_41 : m_D k_C_lasts 41 (.getfield 236) 3 := (by decide +kernel : decode prog_1_method_62_code 41 = .ok (.getfield 236, 3))
theorem d_C_lasts_44 : m_D k_C_lasts 44 (.iload_n 1) 1 := (by decide +kernel : decode prog_1_method_62_code 44 = .ok (.iload_n 1, 1))
theorem d_C_lasts_45 : m_D k_C_lasts 45 (.aaload) 1 := (by decide +kernel : decode prog_1_method_62_code 45 = .ok (.aaload, 1))
theorem d_C_lasts_46 : m_D k_C_lasts 46 (.aload_n 0) 1 := (by decide +kernel : decode prog_1_method_62_code 46 = .ok (.aload_n 0, 1))
theorem d_C_lasts_47 : m_D k_C_lasts 47 (.getfield 37) 3 := (by decide +kernel : decode prog_1_method_62_code 47 = .ok (.getfield 37, 3))
theorem d_C_lasts_50 : m_D k_C_lasts 50 (.getfield 236) 3 := (by decide +kernel : decode prog_1_method_62_code 50 = .ok (.getfield 236, 3))
theorem d_C_lasts_53 : m_D k_C_lasts 53 (.iload_n 1) 1 := (by decide +kernel : decode prog_1_method_62_code 53 = .ok (.iload_n 1, 1))
theorem d_C_lasts_54 : m_D k_C_lasts 54 (.aaload) 1 := (by decide +kernel : decode prog_1_method_62_code 54 = .ok (.aaload, 1))
theorem d_C_lasts_55 : m_D k_C_lasts 55 (.getfield 240) 3 := (by decide +kernel : decode prog_1_method_62_code 55 = .ok (.getfield 240, 3))
theorem d_C_lasts_58 : m_D k_C_lasts 58 (.invokevirtual 400) 3 := (by decide +kernel : decode prog_1_method_62_code 58 = .ok (.invokevirtual 400, 3))
theorem d_C_lasts_61 : m_D k_C_lasts 61 (.i2l) 1 := (by decide +kernel : decode prog_1_method_62_code 61 = .ok (.i2l, 1))
theorem d_C_lasts_62 : m_D k_C_lasts 62 (.aload_n 0) 1 := (by decide +kernel : decode prog_1_method_62_code 62 = .ok (.aload_n 0, 1))
theorem d_C_lasts_63 : m_D k_C_lasts 63 (.getfield 61) 3 := (by decide +kernel : decode prog_1_method_62_code 63 = .ok (.getfield 61, 3))
theorem d_C_lasts_66 : m_D k_C_lasts 66 (.getfield 404) 3 := (by decide +kernel : decode prog_1_method_62_code 66 = .ok (.getfield 404, 3))
theorem d_C_lasts_69 : m_D k_C_lasts 69 (.i2l) 1 := (by decide +kernel : decode prog_1_method_62_code 69 = .ok (.i2l, 1))
theorem d_C_lasts_70 : m_D k_C_lasts 70 (.invokevirtual 407) 3 := (by decide +kernel : decode prog_1_method_62_code 70 = .ok (.invokevirtual 407, 3))
theorem d_C_lasts_73 : m_D k_C_lasts 73 (.iconst 1) 1 := (by decide +kernel : decode prog_1_method_62_code 73 = .ok (.iconst 1, 1))
theorem d_C_lasts_74 : m_D k_C_lasts 74 (.ireturn) 1 := (by decide +kernel : decode prog_1_method_62_code 74 = .ok (.ireturn, 1))
def fn_C_lasts (x0 : Option mA) (x1 : Int32) (x2 : Int32) : mP Int32 :=
  m_th 0 x0 <|
  m_bd (fn_C_oddsStatus x0 x1 x2) fun v1 =>
  m_bd (m_pI 0 0 x0 v1) fun _ =>
  m_bd (m_gI 0 0 x0) fun v2 =>
  if v2 = 0 then
    m_bd (m_gR 0 10 x0) fun v3 =>
    m_bd (m_gR 0 5 x0) fun v4 =>
    m_bd (fn_Ah_spread v3 v4 x1 x2) fun _ =>
    m_bd (m_gR 0 10 x0) fun v5 =>
    m_bd (m_gR 0 5 x0) fun v6 =>
    m_bd (m_gR 3 8 v6) fun v7 =>
    m_bd (m_aR 7 v7 x1) fun v8 =>
    m_bd (m_gR 0 5 x0) fun v9 =>
    m_bd (m_gR 3 8 v9) fun v10 =>
    m_bd (m_aR 7 v10 x1) fun v11 =>
    m_bd (m_gI 5 1 v11) fun v12 =>
    m_bd (fn_Ah_waysToLast v5 v8 v12) fun v13 =>
    m_bd (m_gR 0 10 x0) fun v14 =>
    m_bd (m_gI 7 0 v14) fun v15 =>
    m_bd (fn_C_tell x0 (v13).toInt64 (v15).toInt64) fun _ =>
    m_rt 1
  else
    m_rt 0
set_option maxHeartbeats 4000000 in
set_option maxRecDepth 100000 in
theorem sd_C_lasts (x0 : Option mA) (x1 : Int32) (x2 : Int32) : m_Sm k_C_lasts 5 0 0 [.inr (.inr x0), .inl x1, .inl x2] (fn_C_lasts x0 x1 x2) (fun b => some (.inl b)) := by
  refine ⟨Nat.le_of_ble_eq_true rfl, ?_⟩
  refine sm_th ?_
  refine sm_aload_n (i := 0) (j := 0) (pc' := 1) d_C_lasts_0 rfl rfl rfl (sm_aload_n (i := 0) (j := 0) (pc' := 2) d_C_lasts_1 rfl rfl rfl (sm_iload_n (i := 1) (j := 1) (pc' := 3) d_C_lasts_2 rfl rfl rfl (sm_iload_n (i := 2) (j := 2) (pc' := 4) d_C_lasts_3 rfl rfl rfl ?_)))
  refine sm_callVi (ci := 0) (x := x0) (av := [.inl x1, .inl x2]) (st := [.inr (.inr x0)]) (mc := 0) (ms := 0) (pc' := 7) d_C_lasts_4 rfl (sd_C_oddsStatus x0 x1 x2) m_lv rfl cv_C_oddsStatus w_ml_C_393 rfl rfl (by decide) (Nat.le_of_ble_eq_true rfl) rfl rfl (fun v1 => ?_)
  refine sm_putI (pc' := 10) d_C_lasts_7 rfl fl_C_9 (Or.inl rfl) rfl (sm_aload_n (i := 0) (j := 0) (pc' := 11) d_C_lasts_10 rfl rfl rfl ?_)
  refine sm_getI (pc' := 14) d_C_lasts_11 rfl fl_C_9 rfl ⟨by decide, by decide⟩ (fun v2 => ?_)
  refine sm_if_eq (tgt := 19) (pc' := 17) d_C_lasts_14 rfl rfl ?_ ?_
  · refine sm_aload_n (i := 0) (j := 0) (pc' := 20) d_C_lasts_19 rfl rfl rfl ?_
    refine sm_getR (pc' := 23) d_C_lasts_20 rfl fl_C_61 rfl rfl (fun v3 => ?_)
    refine sm_aload_n (i := 0) (j := 0) (pc' := 24) d_C_lasts_23 rfl rfl rfl ?_
    refine sm_getR (pc' := 27) d_C_lasts_24 rfl fl_C_37 rfl rfl (fun v4 => ?_)
    refine sm_iload_n (i := 1) (j := 1) (pc' := 28) d_C_lasts_27 rfl rfl rfl (sm_iload_n (i := 2) (j := 2) (pc' := 29) d_C_lasts_28 rfl rfl rfl ?_)
    refine sm_callVv (ci := 7) (x := v3) (av := [.inr (.inr v4), .inl x1, .inl x2]) (st := []) (mc := 0) (ms := 0) (pc' := 32) d_C_lasts_29 rfl (sd_Ah_spread v3 v4 x1 x2) m_lv rfl cv_Ah_spread w_ml_C_396 rfl rfl (by decide) (Nat.le_of_ble_eq_true rfl) rfl rfl ?_
    refine sm_aload_n (i := 0) (j := 0) (pc' := 33) d_C_lasts_32 rfl rfl rfl (sm_aload_n (i := 0) (j := 0) (pc' := 34) d_C_lasts_33 rfl rfl rfl ?_)
    refine sm_getR (pc' := 37) d_C_lasts_34 rfl fl_C_61 rfl rfl (fun v5 => ?_)
    refine sm_aload_n (i := 0) (j := 0) (pc' := 38) d_C_lasts_37 rfl rfl rfl ?_
    refine sm_getR (pc' := 41) d_C_lasts_38 rfl fl_C_37 rfl rfl (fun v6 => ?_)
    refine sm_getR (pc' := 44) d_C_lasts_41 rfl fl_C_236 rfl rfl (fun v7 => ?_)
    refine sm_iload_n (i := 1) (j := 1) (pc' := 45) d_C_lasts_44 rfl rfl rfl ?_
    refine sm_aald (t := 7) ⟨by decide, by decide⟩ rfl (pc' := 46) d_C_lasts_45 rfl (fun v8 => ?_)
    refine sm_aload_n (i := 0) (j := 0) (pc' := 47) d_C_lasts_46 rfl rfl rfl ?_
    refine sm_getR (pc' := 50) d_C_lasts_47 rfl fl_C_37 rfl rfl (fun v9 => ?_)
    refine sm_getR (pc' := 53) d_C_lasts_50 rfl fl_C_236 rfl rfl (fun v10 => ?_)
    refine sm_iload_n (i := 1) (j := 1) (pc' := 54) d_C_lasts_53 rfl rfl rfl ?_
    refine sm_aald (t := 7) ⟨by decide, by decide⟩ rfl (pc' := 55) d_C_lasts_54 rfl (fun v11 => ?_)
    refine sm_getI (pc' := 58) d_C_lasts_55 rfl fl_C_240 rfl ⟨by decide, by decide⟩ (fun v12 => ?_)
    refine sm_callVi (ci := 7) (x := v5) (av := [.inr (.inr v8), .inl v12]) (st := [.inr (.inr x0)]) (mc := 0) (ms := 0) (pc' := 61) d_C_lasts_58 rfl (sd_Ah_waysToLast v5 v8 v12) m_lv rfl cv_Ah_waysToLast w_ml_C_400 rfl rfl (by decide) (Nat.le_of_ble_eq_true rfl) rfl rfl (fun v13 => ?_)
    refine sm_i2l (pc' := 62) d_C_lasts_61 rfl (sm_aload_n (i := 0) (j := 0) (pc' := 63) d_C_lasts_62 rfl rfl rfl ?_)
    refine sm_getR (pc' := 66) d_C_lasts_63 rfl fl_C_61 rfl rfl (fun v14 => ?_)
    refine sm_getI (pc' := 69) d_C_lasts_66 rfl fl_C_404 rfl ⟨by decide, by decide⟩ (fun v15 => ?_)
    refine sm_i2l (pc' := 70) d_C_lasts_69 rfl ?_
    refine sm_callVv (ci := 0) (x := x0) (av := [.inr (.inl (v13).toInt64), .inr (.inl (v15).toInt64)]) (st := []) (mc := 0) (ms := 0) (pc' := 73) d_C_lasts_70 rfl (sd_C_tell x0 (v13).toInt64 (v15).toInt64) m_lv rfl cv_C_tell w_ml_C_407 rfl rfl (by decide) (Nat.le_of_ble_eq_true rfl) rfl rfl ?_
    refine sm_iconst (pc' := 74) d_C_lasts_73 rfl ic_1 ?_
    exact sm_zreturn d_C_lasts_74 rfl (by decide) rfl
  · refine sm_iconst (pc' := 18) d_C_lasts_17 rfl ic_0 ?_
    exact sm_zreturn d_C_lasts_18 rfl (by decide) rfl
theorem d_C_thickFor_0 : m_D k_C_thickFor 0 (.aload_n 0) 1 := (by decide +kernel : decode prog_1_method_63_code 0 = .ok (.aload_n 0, 1))
theorem d_C_thickFor_1 : m_D k_C_thickFor 1 (.iload_n 1) 1 := (by decide +kernel : decode prog_1_method_63_code 1 = .ok (.iload_n 1, 1))
theorem d_C_thickFor_2 : m_D k_C_thickFor 2 (.iload_n 2) 1 := (by decide +kernel : decode prog_1_method_63_code 2 = .ok (.iload_n 2, 1))
theorem d_C_thickFor_3 : m_D k_C_thickFor 3 (.invokevirtual 393) 3 := (by decide +kernel : decode prog_1_method_63_code 3 = .ok (.invokevirtual 393, 3))
theorem d_C_thickFor_6 : m_D k_C_thickFor 6 (.istore 4) 2 := (by decide +kernel : decode prog_1_method_63_code 6 = .ok (.istore 4, 2))
theorem d_C_thickFor_8 : m_D k_C_thickFor 8 (.aload_n 0) 1 := (by decide +kernel : decode prog_1_method_63_code 8 = .ok (.aload_n 0, 1))
theorem d_C_thickFor_9 : m_D k_C_thickFor 9 (.iload 4) 2 := (by decide +kernel : decode prog_1_method_63_code 9 = .ok (.iload 4, 2))
theorem d_C_thickFor_11 : m_D k_C_thickFor 11 (.ifCond .eq 8) 3 := (by decide +kernel : decode prog_1_method_63_code 11 = .ok (.ifCond .eq 8, 3))
theorem d_C_thickFor_14 : m_D k_C_thickFor 14 (.iload 4) 2 := (by decide +kernel : decode prog_1_method_63_code 14 = .ok (.iload 4, 2))
theorem d_C_thickFor_16 : m_D k_C_thickFor 16 (.goto 18) 3 := (by decide +kernel : decode prog_1_method_63_code 16 = .ok (.goto 18, 3))
theorem d_C_thickFor_19 : m_D k_C_thickFor 19 (.iload_n 3) 1 := (by decide +kernel : decode prog_1_method_63_code 19 = .ok (.iload_n 3, 1))
theorem d_C_thickFor_20 : m_D k_C_thickFor 20 (.iconst 0) 1 := (by decide +kernel : decode prog_1_method_63_code 20 = .ok (.iconst 0, 1))
theorem d_C_thickFor_21 : m_D k_C_thickFor 21 (.bipush 10) 2 := (by decide +kernel : decode prog_1_method_63_code 21 = .ok (.bipush 10, 2))
theorem d_C_thickFor_23 : m_D k_C_thickFor 23 (.invokestatic 269) 3 := (by decide +kernel : decode prog_1_method_63_code 23 = .ok (.invokestatic 269, 3))
theorem d_C_thickFor_26 : m_D k_C_thickFor 26 (.ifCond .eq 7) 3 := (by decide +kernel : decode prog_1_method_63_code 26 = .ok (.ifCond .eq 7, 3))
theorem d_C_thickFor_29 : m_D k_C_thickFor 29 (.iconst 0) 1 := (by decide +kernel : decode prog_1_method_63_code 29 = .ok (.iconst 0, 1))
theorem d_C_thickFor_30 : m_D k_C_thickFor 30 (.goto 4) 3 := (by decide +kernel : decode prog_1_method_63_code 30 = .ok (.goto 4, 3))
theorem d_C_thickFor_33 : m_D k_C_thickFor 33 (.iconst 5) 1 := (by decide +kernel : decode prog_1_method_63_code 33 = .ok (.iconst 5, 1))
theorem d_C_thickFor_34 : m_D k_C_thickFor 34 (.putfield 9) 3 := (by decide +kernel : decode prog_1_method_63_code 34 = .ok (.putfield 9, 3))
theorem d_C_thickFor_37 : m_D k_C_thickFor 37 (.aload_n 0) 1 := (by decide +kernel : decode prog_1_method_63_code 37 = .ok (.aload_n 0, 1))
theorem d_C_thickFor_38 : m_D k_C_thickFor 38 (.getfield 9) 3 := (by decide +kernel : decode prog_1_method_63_code 38 = .ok (.getfield 9, 3))
theorem d_C_thickFor_41 : m_D k_C_thickFor 41 (.ifCond .eq 5) 3 := (by decide +kernel : decode prog_1_method_63_code 41 = .ok (.ifCond .eq 5, 3))
theorem d_C_thickFor_44 : m_D k_C_thickFor 44 (.iconst (-1)) 1 := (by decide +kernel : decode prog_1_method_63_code 44 = .ok (.iconst (-1), 1))
theorem d_C_thickFor_45 : m_D k_C_thickFor 45 (.ireturn) 1 := (by decide +kernel : decode prog_1_method_63_code 45 = .ok (.ireturn, 1))
theorem d_C_thickFor_46 : m_D k_C_thickFor 46 (.aload_n 0) 1 := (by decide +kernel : decode prog_1_method_63_code 46 = .ok (.aload_n 0, 1))
theorem d_C_thickFor_47 : m_D k_C_thickFor 47 (.getfield 61) 3 := (by decide +kernel : decode prog_1_method_63_code 47 = .ok (.getfield 61, 3))
theorem d_C_thickFor_50 : m_D k_C_thickFor 50 (.aload_n 0) 1 := (by decide +kernel : decode prog_1_method_63_code 50 = .ok (.aload_n 0, 1))
theorem d_C_thickFor_51 : m_D k_C_thickFor 51 (.getfield 37) 3 := (by decide +kernel : decode prog_1_method_63_code 51 = .ok (.getfield 37, 3))
theorem d_C_thickFor_54 : m_D k_C_thickFor 54 (.iload_n 1) 1 := (by decide +kernel : decode prog_1_method_63_code 54 = .ok (.iload_n 1, 1))
theorem d_C_thickFor_55 : m_D k_C_thickFor 55 (.iload_n 2) 1 := (by decide +kernel : decode prog_1_method_63_code 55 = .ok (.iload_n 2, 1))
theorem d_C_thickFor_56 : m_D k_C_thickFor 56 (.invokevirtual 396) 3 := (by decide +kernel : decode prog_1_method_63_code 56 = .ok (.invokevirtual 396, 3))
theorem d_C_thickFor_59 : m_D k_C_thickFor 59 (.iconst 1) 1 := (by decide +kernel : decode prog_1_method_63_code 59 = .ok (.iconst 1, 1))
theorem d_C_thickFor_60 : m_D k_C_thickFor 60 (.istore 5) 2 := (by decide +kernel : decode prog_1_method_63_code 60 = .ok (.istore 5, 2))
theorem d_C_thickFor_62 : m_D k_C_thickFor 62 (.iload 5) 2 := (by decide +kernel : decode prog_1_method_63_code 62 = .ok (.iload 5, 2))
theorem d_C_thickFor_64 : m_D k_C_thickFor 64 (.sipush 999) 3 := (by decide +kernel : decode prog_1_method_63_code 64 = .ok (.sipush 999, 3))
theorem d_C_thickFor_67 : m_D k_C_thickFor 67 (.if_icmp .gt 50) 3 := (by decide +kernel : decode prog_1_method_63_code 67 = .ok (.if_icmp .gt 50, 3))
theorem d_C_thickFor_70 : m_D k_C_thickFor 70 (.ldc2_w 411) 3 := (by decide +kernel : decode prog_1_method_63_code 70 = .ok (.ldc2_w 411, 3))
theorem d_C_thickFor_73 : m_D k_C_thickFor 73 (.aload_n 0) 1 := (by decide +kernel : decode prog_1_method_63_code 73 = .ok (.aload_n 0, 1))
theorem d_C_thickFor_74 : m_D k_C_thickFor 74 (.getfield 61) 3 := (by decide +kernel : decode prog_1_method_63_code 74 = .ok (.getfield 61, 3))
theorem d_C_thickFor_77 : m_D k_C_thickFor 77 (.aload_n 0) 1 := (by decide +kernel : decode prog_1_method_63_code 77 = .ok (.aload_n 0, 1))
theorem d_C_thickFor_78 : m_D k_C_thickFor 78 (.getfield 37) 3 := (by decide +kernel : decode prog_1_method_63_code 78 = .ok (.getfield 37, 3))
theorem d_C_thickFor_81 : m_D k_C_thickFor 81 (.getfield 236) 3 := (by decide +kernel : decode prog_1_method_63_code 81 = .ok (.getfield 236, 3))
theorem d_C_thickFor_84 : m_D k_C_thickFor 84 (.iload_n 1) 1 := (by decide +kernel : decode prog_1_method_63_code 84 = .ok (.iload_n 1, 1))
theorem d_C_thickFor_85 : m_D k_C_thickFor 85 (.aaload) 1 := (by decide +kernel : decode prog_1_method_63_code 85 = .ok (.aaload, 1))
theorem d_C_thickFor_86 : m_D k_C_thickFor 86 (.iload 5) 2 := (by decide +kernel : decode prog_1_method_63_code 86 = .ok (.iload 5, 2))
theorem d_C_thickFor_88 : m_D k_C_thickFor 88 (.invokevirtual 400) 3 := (by decide +kernel : decode prog_1_method_63_code 88 = .ok (.invokevirtual 400, 3))
theorem d_C_thickFor_91 : m_D k_C_thickFor 91 (.i2l) 1 := (by decide +kernel : decode prog_1_method_63_code 91 = .ok (.i2l, 1))
theorem d_C_thickFor_92 : m_D k_C_thickFor 92 (.lmul) 1 := (by decide +kernel : decode prog_1_method_63_code 92 = .ok (.lmul, 1))
theorem d_C_thickFor_93 : m_D k_C_thickFor 93 (.iload_n 3) 1 := (by decide +kernel : decode prog_1_method_63_code 93 = .ok (.iload_n 3, 1))
theorem d_C_thickFor_94 : m_D k_C_thickFor 94 (.i2l) 1 := (by decide +kernel : decode prog_1_method_63_code 94 = .ok (.i2l, 1))
theorem d_C_thickFor_95 : m_D k_C_thickFor 95 (.aload_n 0) 1 := (by decide +kernel : decode prog_1_method_63_code 95 = .ok (.aload_n 0, 1))
theorem d_C_thickFor_96 : m_D k_C_thickFor 96 (.getfield 61) 3 := (by decide +kernel : decode prog_1_method_63_code 96 = .ok (.getfield 61, 3))
theorem d_C_thickFor_99 : m_D k_C_thickFor 99 (.getfield 404) 3 := (by decide +kernel : decode prog_1_method_63_code 99 = .ok (.getfield 404, 3))
theorem d_C_thickFor_102 : m_D k_C_thickFor 102 (.i2l) 1 := (by decide +kernel : decode prog_1_method_63_code 102 = .ok (.i2l, 1))
theorem d_C_thickFor_103 : m_D k_C_thickFor 103 (.lmul) 1 := (by decide +kernel : decode prog_1_method_63_code 103 = .ok (.lmul, 1))
theorem d_C_thickFor_104 : m_D k_C_thickFor 104 (.lcmp) 1 := (by decide +kernel : decode prog_1_method_63_code 104 = .ok (.lcmp, 1))
theorem d_C_thickFor_105 : m_D k_C_thickFor 105 (.ifCond .lt 6) 3 := (by decide +kernel : decode prog_1_method_63_code 105 = .ok (.ifCond .lt 6, 3))
theorem d_C_thickFor_108 : m_D k_C_thickFor 108 (.iload 5) 2 := (by decide +kernel : decode prog_1_method_63_code 108 = .ok (.iload 5, 2))
theorem d_C_thickFor_110 : m_D k_C_thickFor 110 (.ireturn) 1 := (by decide +kernel : decode prog_1_method_63_code 110 = .ok (.ireturn, 1))
theorem d_C_thickFor_111 : m_D k_C_thickFor 111 (.iinc 5 1) 3 := (by decide +kernel : decode prog_1_method_63_code 111 = .ok (.iinc 5 1, 3))
theorem d_C_thickFor_114 : m_D k_C_thickFor 114 (.goto (-52)) 3 := (by decide +kernel : decode prog_1_method_63_code 114 = .ok (.goto (-52), 3))
theorem d_C_thickFor_117 : m_D k_C_thickFor 117 (.aload_n 0) 1 := (by decide +kernel : decode prog_1_method_63_code 117 = .ok (.aload_n 0, 1))
theorem d_C_thickFor_118 : m_D k_C_thickFor 118 (.iconst (-1)) 1 := (by decide +kernel : decode prog_1_method_63_code 118 = .ok (.iconst (-1), 1))
theorem d_C_thickFor_119 : m_D k_C_thickFor 119 (.invokevirtual 310) 3 := (by decide +kernel : decode prog_1_method_63_code 119 = .ok (.invokevirtual 310, 3))
theorem d_C_thickFor_122 : m_D k_C_thickFor 122 (.ireturn) 1 := (by decide +kernel : decode prog_1_method_63_code 122 = .ok (.ireturn, 1))
def fn_C_thickFor_l62 (x0 : Option mA) (x1 : Int32) (x3 : Int32) (t7 : Int32) : mP ((Int32) ⊕ (Int32)) :=
  if 999 < t7 then
    m_bd (fn_C_orNone x0 (-1)) fun v8 =>
    m_rt (.inr v8)
  else
    m_bd (m_gR 0 10 x0) fun v9 =>
    m_bd (m_gR 0 5 x0) fun v10 =>
    m_bd (m_gR 3 8 v10) fun v11 =>
    m_bd (m_aR 7 v11 x1) fun v12 =>
    m_bd (fn_Ah_waysToLast v9 v12 t7) fun v13 =>
    m_bd (m_gR 0 10 x0) fun v14 =>
    m_bd (m_gI 7 0 v14) fun v15 =>
    if (lg_cmp (10 * (v13).toInt64) ((x3).toInt64 * (v15).toInt64)) < 0 then
      m_rt (.inl (t7 + 1))
    else
      m_rt (.inr t7)
def fn_C_thickFor (x0 : Option mA) (x1 : Int32) (x2 : Int32) (x3 : Int32) : mP Int32 :=
  m_th 0 x0 <|
  m_bd (fn_C_oddsStatus x0 x1 x2) fun v1 =>
  m_bd (α := Int32) (
    if v1 = 0 then
      m_bd (fn_C_isWithin x3 0 10) fun v2 =>
      if v2 = 0 then
        m_rt 5
      else
        m_rt 0
    else
      m_rt v1
    ) fun (t3 : Int32) =>
  m_bd (m_pI 0 0 x0 t3) fun _ =>
  m_bd (m_gI 0 0 x0) fun v4 =>
  if v4 = 0 then
    m_bd (m_gR 0 10 x0) fun v5 =>
    m_bd (m_gR 0 5 x0) fun v6 =>
    m_bd (fn_Ah_spread v5 v6 x1 x2) fun _ =>
    m_lp (fn_C_thickFor_l62 x0 x1 x3) m_F 1
  else
    m_rt (-1)
set_option maxHeartbeats 4000000 in
set_option maxRecDepth 100000 in
theorem sd_C_thickFor (x0 : Option mA) (x1 : Int32) (x2 : Int32) (x3 : Int32) : m_Sm k_C_thickFor 5 0 0 [.inr (.inr x0), .inl x1, .inl x2, .inl x3] (fn_C_thickFor x0 x1 x2 x3) (fun b => some (.inl b)) := by
  refine ⟨Nat.le_of_ble_eq_true rfl, ?_⟩
  refine sm_th ?_
  refine sm_aload_n (i := 0) (j := 0) (pc' := 1) d_C_thickFor_0 rfl rfl rfl (sm_iload_n (i := 1) (j := 1) (pc' := 2) d_C_thickFor_1 rfl rfl rfl (sm_iload_n (i := 2) (j := 2) (pc' := 3) d_C_thickFor_2 rfl rfl rfl ?_))
  refine sm_callVi (ci := 0) (x := x0) (av := [.inl x1, .inl x2]) (st := []) (mc := 0) (ms := 0) (pc' := 6) d_C_thickFor_3 rfl (sd_C_oddsStatus x0 x1 x2) m_lv rfl cv_C_oddsStatus w_ml_C_393 rfl rfl (by decide) (Nat.le_of_ble_eq_true rfl) rfl rfl (fun v1 => ?_)
  refine sm_istore (L' := [(4, .inl v1), (0, .inr (.inr x0)), (1, .inl x1), (2, .inl x2), (3, .inl x3)]) (pc' := 8) d_C_thickFor_6 rfl (Nat.le_of_ble_eq_true rfl) rfl (sm_aload_n (i := 0) (j := 1) (pc' := 9) d_C_thickFor_8 rfl rfl rfl (sm_iload (j := 0) (pc' := 11) d_C_thickFor_9 rfl rfl ?_))
  refine sm_bd (mid := fun (t3 : Int32) => .inl (34, [(0, .inr (.inr x0)), (1, .inl x1), (2, .inl x2), (3, .inl x3)], [.inl t3, .inr (.inr x0)])) ?_ (fun t3 => ?_)
  · refine sm_if_eq (tgt := 19) (pc' := 14) d_C_thickFor_11 rfl rfl ?_ ?_
    · refine sm_iload_n (i := 3) (j := 4) (pc' := 20) d_C_thickFor_19 rfl rfl rfl (sm_iconst (pc' := 21) d_C_thickFor_20 rfl ic_0 (sm_bipush (pc' := 23) d_C_thickFor_21 rfl ib_10 ?_))
      refine sm_callSi (av := [.inl x3, .inl 0, .inl 10]) (st := [.inr (.inr x0)]) (mc := 0) (ms := 0) (pc' := 26) d_C_thickFor_23 rfl (sd_C_isWithin x3 0 10) cs_C_isWithin w_ml_C_269 rfl rfl (by decide) (Nat.le_of_ble_eq_true rfl) rfl rfl (fun v2 => ?_)
      refine sm_if_eq (tgt := 33) (pc' := 29) d_C_thickFor_26 rfl rfl ?_ ?_
      · refine sm_iconst (pc' := 34) d_C_thickFor_33 rfl ic_5 (sm_sub [1, 2, 3, 4] rfl ?_)
        exact sm_rt rfl
      · refine sm_iconst (pc' := 30) d_C_thickFor_29 rfl ic_0 (sm_goto (tgt := 34) d_C_thickFor_30 rfl (sm_sub [1, 2, 3, 4] rfl ?_))
        exact sm_rt rfl
    · refine sm_iload (j := 0) (pc' := 16) d_C_thickFor_14 rfl rfl (sm_goto (tgt := 34) d_C_thickFor_16 rfl (sm_sub [1, 2, 3, 4] rfl ?_))
      exact sm_rt rfl
  · refine sm_putI (pc' := 37) d_C_thickFor_34 rfl fl_C_9 (Or.inl rfl) rfl (sm_aload_n (i := 0) (j := 0) (pc' := 38) d_C_thickFor_37 rfl rfl rfl ?_)
    refine sm_getI (pc' := 41) d_C_thickFor_38 rfl fl_C_9 rfl ⟨by decide, by decide⟩ (fun v4 => ?_)
    refine sm_if_eq (tgt := 46) (pc' := 44) d_C_thickFor_41 rfl rfl ?_ ?_
    · refine sm_aload_n (i := 0) (j := 0) (pc' := 47) d_C_thickFor_46 rfl rfl rfl ?_
      refine sm_getR (pc' := 50) d_C_thickFor_47 rfl fl_C_61 rfl rfl (fun v5 => ?_)
      refine sm_aload_n (i := 0) (j := 0) (pc' := 51) d_C_thickFor_50 rfl rfl rfl ?_
      refine sm_getR (pc' := 54) d_C_thickFor_51 rfl fl_C_37 rfl rfl (fun v6 => ?_)
      refine sm_iload_n (i := 1) (j := 1) (pc' := 55) d_C_thickFor_54 rfl rfl rfl (sm_iload_n (i := 2) (j := 2) (pc' := 56) d_C_thickFor_55 rfl rfl rfl ?_)
      refine sm_callVv (ci := 7) (x := v5) (av := [.inr (.inr v6), .inl x1, .inl x2]) (st := []) (mc := 0) (ms := 0) (pc' := 59) d_C_thickFor_56 rfl (sd_Ah_spread v5 v6 x1 x2) m_lv rfl cv_Ah_spread w_ml_C_396 rfl rfl (by decide) (Nat.le_of_ble_eq_true rfl) rfl rfl ?_
      refine sm_iconst (pc' := 60) d_C_thickFor_59 rfl ic_1 (sm_istore (L' := [(5, .inl 1), (0, .inr (.inr x0)), (1, .inl x1), (2, .inl x2), (3, .inl x3)]) (pc' := 62) d_C_thickFor_60 rfl (Nat.le_of_ble_eq_true rfl) rfl ?_)
      refine sm_sub [0, 1, 2, 4] rfl ?_
      refine sm_lp (hd := fun (t7 : Int32) => (.inl (62, [(5, .inl t7), (0, .inr (.inr x0)), (1, .inl x1), (3, .inl x3)], []) : mC)) (fun t7 => ?_) m_F 1
      refine sm_iload (j := 0) (pc' := 64) d_C_thickFor_62 rfl rfl (sm_sipush (pc' := 67) d_C_thickFor_64 rfl is_999 ?_)
      refine sm_icmp_gt (tgt := 117) (pc' := 70) d_C_thickFor_67 rfl rfl ?_ ?_
      · refine sm_aload_n (i := 0) (j := 1) (pc' := 118) d_C_thickFor_117 rfl rfl rfl (sm_iconst (pc' := 119) d_C_thickFor_118 rfl ic_m1 ?_)
        refine sm_callVi (ci := 0) (x := x0) (av := [.inl (-1)]) (st := []) (mc := 0) (ms := 0) (pc' := 122) d_C_thickFor_119 rfl (sd_C_orNone x0 (-1)) m_lv rfl cv_C_orNone w_ml_C_310 rfl rfl (by decide) (Nat.le_of_ble_eq_true rfl) rfl rfl (fun v8 => ?_)
        exact sm_ireturn d_C_thickFor_122 rfl rfl
      · refine sm_ldc2 (v := 10) (pc' := 73) d_C_thickFor_70 rfl w_cl_C_411 (sm_aload_n (i := 0) (j := 1) (pc' := 74) d_C_thickFor_73 rfl rfl rfl ?_)
        refine sm_getR (pc' := 77) d_C_thickFor_74 rfl fl_C_61 rfl rfl (fun v9 => ?_)
        refine sm_aload_n (i := 0) (j := 1) (pc' := 78) d_C_thickFor_77 rfl rfl rfl ?_
        refine sm_getR (pc' := 81) d_C_thickFor_78 rfl fl_C_37 rfl rfl (fun v10 => ?_)
        refine sm_getR (pc' := 84) d_C_thickFor_81 rfl fl_C_236 rfl rfl (fun v11 => ?_)
        refine sm_iload_n (i := 1) (j := 2) (pc' := 85) d_C_thickFor_84 rfl rfl rfl ?_
        refine sm_aald (t := 7) ⟨by decide, by decide⟩ rfl (pc' := 86) d_C_thickFor_85 rfl (fun v12 => ?_)
        refine sm_iload (j := 0) (pc' := 88) d_C_thickFor_86 rfl rfl ?_
        refine sm_callVi (ci := 7) (x := v9) (av := [.inr (.inr v12), .inl t7]) (st := [.inr (.inl 10)]) (mc := 0) (ms := 0) (pc' := 91) d_C_thickFor_88 rfl (sd_Ah_waysToLast v9 v12 t7) m_lv rfl cv_Ah_waysToLast w_ml_C_400 rfl rfl (by decide) (Nat.le_of_ble_eq_true rfl) rfl rfl (fun v13 => ?_)
        refine sm_i2l (pc' := 92) d_C_thickFor_91 rfl (sm_lmul (pc' := 93) d_C_thickFor_92 rfl (sm_iload_n (i := 3) (j := 3) (pc' := 94) d_C_thickFor_93 rfl rfl rfl (sm_i2l (pc' := 95) d_C_thickFor_94 rfl (sm_aload_n (i := 0) (j := 1) (pc' := 96) d_C_thickFor_95 rfl rfl rfl ?_))))
        refine sm_getR (pc' := 99) d_C_thickFor_96 rfl fl_C_61 rfl rfl (fun v14 => ?_)
        refine sm_getI (pc' := 102) d_C_thickFor_99 rfl fl_C_404 rfl ⟨by decide, by decide⟩ (fun v15 => ?_)
        refine sm_i2l (pc' := 103) d_C_thickFor_102 rfl (sm_lmul (pc' := 104) d_C_thickFor_103 rfl (sm_lcmp (pc' := 105) d_C_thickFor_104 rfl ?_))
        refine sm_if_lt (tgt := 111) (pc' := 108) d_C_thickFor_105 rfl rfl ?_ ?_
        · refine sm_iinc (j := 0) (L' := [(5, .inl (t7 + 1)), (0, .inr (.inr x0)), (1, .inl x1), (3, .inl x3)]) (pc' := 114) d_C_thickFor_111 rfl (v := (t7 + 1)) rfl (ix_1 _) (Nat.le_of_ble_eq_true rfl) rfl (sm_goto (tgt := 62) d_C_thickFor_114 rfl (sm_sub [0, 1, 2, 3] rfl ?_))
          exact sm_rt rfl
        · refine sm_iload (j := 0) (pc' := 110) d_C_thickFor_108 rfl rfl ?_
          exact sm_ireturn d_C_thickFor_110 rfl rfl
    · refine sm_iconst (pc' := 45) d_C_thickFor_44 rfl ic_m1 ?_
      exact sm_ireturn d_C_thickFor_45 rfl rfl
theorem d_C_blame_0 : m_D k_C_blame 0 (.iconst 0) 1 := (by decide +kernel : decode prog_1_method_64_code 0 = .ok (.iconst 0, 1))
theorem d_C_blame_1 : m_D k_C_blame 1 (.istore_n 2) 1 := (by decide +kernel : decode prog_1_method_64_code 1 = .ok (.istore_n 2, 1))
theorem d_C_blame_2 : m_D k_C_blame 2 (.iconst 0) 1 := (by decide +kernel : decode prog_1_method_64_code 2 = .ok (.iconst 0, 1))
theorem d_C_blame_3 : m_D k_C_blame 3 (.istore_n 3) 1 := (by decide +kernel : decode prog_1_method_64_code 3 = .ok (.istore_n 3, 1))
theorem d_C_blame_4 : m_D k_C_blame 4 (.iload_n 3) 1 := (by decide +kernel : decode prog_1_method_64_code 4 = .ok (.iload_n 3, 1))
theorem d_C_blame_5 : m_D k_C_blame 5 (.aload_n 0) 1 := (by decide +kernel : decode prog_1_method_64_code 5 = .ok (.aload_n 0, 1))
theorem d_C_blame_6 : m_D k_C_blame 6 (.getfield 37) 3 := (by decide +kernel : decode prog_1_method_64_code 6 = .ok (.getfield 37, 3))
theorem d_C_blame_9 : m_D k_C_blame 9 (.getfield 156) 3 := (by decide +kernel : decode prog_1_method_64_code 9 = .ok (.getfield 156, 3))
theorem d_C_blame_12 : m_D k_C_blame 12 (.if_icmp .ge 21) 3 := (by decide +kernel : decode prog_1_method_64_code 12 = .ok (.if_icmp .ge 21, 3))
theorem d_C_blame_15 : m_D k_C_blame 15 (.iload_n 2) 1 := (by decide +kernel : decode prog_1_method_64_code 15 = .ok (.iload_n 2, 1))
theorem d_C_blame_16 : m_D k_C_blame 16 (.aload_n 0) 1 := (by decide +kernel : decode prog_1_method_64_code 16 = .ok (.aload_n 0, 1))
theorem d_C_blame_17 : m_D k_C_blame 17 (.getfield 37) 3 := (by decide +kernel : decode prog_1_method_64_code 17 = .ok (.getfield 37, 3))
theorem d_C_blame_20 : m_D k_C_blame 20 (.iload_n 3) 1 := (by decide +kernel : decode prog_1_method_64_code 20 = .ok (.iload_n 3, 1))
theorem d_C_blame_21 : m_D k_C_blame 21 (.iconst 0) 1 := (by decide +kernel : decode prog_1_method_64_code 21 = .ok (.iconst 0, 1))
theorem d_C_blame_22 : m_D k_C_blame 22 (.invokevirtual 254) 3 := (by decide +kernel : decode prog_1_method_64_code 22 = .ok (.invokevirtual 254, 3))
theorem d_C_blame_25 : m_D k_C_blame 25 (.iadd) 1 := (by decide +kernel : decode prog_1_method_64_code 25 = .ok (.iadd, 1))
theorem d_C_blame_26 : m_D k_C_blame 26 (.istore_n 2) 1 := (by decide +kernel : decode prog_1_method_64_code 26 = .ok (.istore_n 2, 1))
theorem d_C_blame_27 : m_D k_C_blame 27 (.iinc 3 1) 3 := (by decide +kernel : decode prog_1_method_64_code 27 = .ok (.iinc 3 1, 3))
theorem d_C_blame_30 : m_D k_C_blame 30 (.goto (-26)) 3 := (by decide +kernel : decode prog_1_method_64_code 30 = .ok (.goto (-26), 3))
theorem d_C_blame_33 : m_D k_C_blame 33 (.aload_n 0) 1 := (by decide +kernel : decode prog_1_method_64_code 33 = .ok (.aload_n 0, 1))
theorem d_C_blame_34 : m_D k_C_blame 34 (.aload_n 0) 1 := (by decide +kernel : decode prog_1_method_64_code 34 = .ok (.aload_n 0, 1))
theorem d_C_blame_35 : m_D k_C_blame 35 (.iload_n 1) 1 := (by decide +kernel : decode prog_1_method_64_code 35 = .ok (.iload_n 1, 1))
theorem d_C_blame_36 : m_D k_C_blame 36 (.invokevirtual 209) 3 := (by decide +kernel : decode prog_1_method_64_code 36 = .ok (.invokevirtual 209, 3))
theorem d_C_blame_39 : m_D k_C_blame 39 (.ifCond .ne 7) 3 := (by decide +kernel : decode prog_1_method_64_code 39 = .ok (.ifCond .ne 7, 3))
theorem d_C_blame_42 : m_D k_C_blame 42 (.iconst 2) 1 := (by decide +kernel : decode prog_1_method_64_code 42 = .ok (.iconst 2, 1))
theorem d_C_blame_43 : m_D k_C_blame 43 (.goto 13) 3 := (by decide +kernel : decode prog_1_method_64_code 43 = .ok (.goto 13, 3))
theorem d_C_blame_46 : m_D k_C_blame 46 (.iload_n 2) 1 := (by decide +kernel : decode prog_1_method_64_code 46 = .ok (.iload_n 2, 1))
theorem d_C_blame_47 : m_D k_C_blame 47 (.ifCond .ne 8) 3 := (by decide +kernel : decode prog_1_method_64_code 47 = .ok (.ifCond .ne 8, 3))
theorem d_C_blame_50 : m_D k_C_blame 50 (.bipush 8) 2 := (by decide +kernel : decode prog_1_method_64_code 50 = .ok (.bipush 8, 2))
theorem d_C_blame_52 : m_D k_C_blame 52 (.goto 4) 3 := (by decide +kernel : decode prog_1_method_64_code 52 = .ok (.goto 4, 3))
theorem d_C_blame_55 : m_D k_C_blame 55 (.iconst 0) 1 := (by decide +kernel : decode prog_1_method_64_code 55 = .ok (.iconst 0, 1))
theorem d_C_blame_56 : m_D k_C_blame 56 (.putfield 9) 3 := (by decide +kernel : decode prog_1_method_64_code 56 = .ok (.putfield 9, 3))
theorem d_C_blame_59 : m_D k_C_blame 59 (.aload_n 0) 1 := (by decide +kernel : decode prog_1_method_64_code 59 = .ok (.aload_n 0, 1))
theorem d_C_blame_60 : m_D k_C_blame 60 (.getfield 9) 3 := (by decide +kernel : decode prog_1_method_64_code 60 = .ok (.getfield 9, 3))
theorem d_C_blame_63 : m_D k_C_blame 63 (.ifCond .eq 5) 3 := (by decide +kernel : decode prog_1_method_64_code 63 = .ok (.ifCond .eq 5, 3))
theorem d_C_blame_66 : m_D k_C_blame 66 (.iconst 0) 1 := (by decide +kernel : decode prog_1_method_64_code 66 = .ok (.iconst 0, 1))
theorem d_C_blame_67 : m_D k_C_blame 67 (.ireturn) 1 := (by decide +kernel : decode prog_1_method_64_code 67 = .ok (.ireturn, 1))
theorem d_C_blame_68 : m_D k_C_blame 68 (.iconst 0) 1 := (by decide +kernel : decode prog_1_method_64_code 68 = .ok (.iconst 0, 1))
theorem d_C_blame_69 : m_D k_C_blame 69 (.istore_n 3) 1 := (by decide +kernel : decode prog_1_method_64_code 69 = .ok (.istore_n 3, 1))
theorem d_C_blame_70 : m_D k_C_blame 70 (.aload_n 0) 1 := (by decide +kernel : decode prog_1_method_64_code 70 = .ok (.aload_n 0, 1))
theorem d_C_blame_71 : m_D k_C_blame 71 (.getfield 37) 3 := (by decide +kernel : decode prog_1_method_64_code 71 = .ok (.getfield 37, 3))
theorem d_C_blame_74 : m_D k_C_blame 74 (.iload_n 1) 1 := (by decide +kernel : decode prog_1_method_64_code 74 = .ok (.iload_n 1, 1))
theorem d_C_blame_75 : m_D k_C_blame 75 (.iconst 0) 1 := (by decide +kernel : decode prog_1_method_64_code 75 = .ok (.iconst 0, 1))
theorem d_C_blame_76 : m_D k_C_blame 76 (.invokevirtual 227) 3 := (by decide +kernel : decode prog_1_method_64_code 76 = .ok (.invokevirtual 227, 3))
theorem d_C_blame_79 : m_D k_C_blame 79 (.ifCond .eq 42) 3 := (by decide +kernel : decode prog_1_method_64_code 79 = .ok (.ifCond .eq 42, 3))
theorem d_C_blame_82 : m_D k_C_blame 82 (.iconst 0) 1 := (by decide +kernel : decode prog_1_method_64_code 82 = .ok (.iconst 0, 1))
theorem d_C_blame_83 : m_D k_C_blame 83 (.istore 4) 2 := (by decide +kernel : decode prog_1_method_64_code 83 = .ok (.istore 4, 2))
theorem d_C_blame_85 : m_D k_C_blame 85 (.iload 4) 2 := (by decide +kernel : decode prog_1_method_64_code 85 = .ok (.iload 4, 2))
theorem d_C_blame_87 : m_D k_C_blame 87 (.aload_n 0) 1 := (by decide +kernel : decode prog_1_method_64_code 87 = .ok (.aload_n 0, 1))
theorem d_C_blame_88 : m_D k_C_blame 88 (.getfield 37) 3 := (by decide +kernel : decode prog_1_method_64_code 88 = .ok (.getfield 37, 3))
theorem d_C_blame_91 : m_D k_C_blame 91 (.getfield 156) 3 := (by decide +kernel : decode prog_1_method_64_code 91 = .ok (.getfield 156, 3))
theorem d_C_blame_94 : m_D k_C_blame 94 (.if_icmp .ge 27) 3 := (by decide +kernel : decode prog_1_method_64_code 94 = .ok (.if_icmp .ge 27, 3))
theorem d_C_blame_97 : m_D k_C_blame 97 (.iload_n 3) 1 := (by decide +kernel : decode prog_1_method_64_code 97 = .ok (.iload_n 3, 1))
theorem d_C_blame_98 : m_D k_C_blame 98 (.aload_n 0) 1 := (by decide +kernel : decode prog_1_method_64_code 98 = .ok (.aload_n 0, 1))
theorem d_C_blame_99 : m_D k_C_blame 99 (.getfield 37) 3 := (by decide +kernel : decode prog_1_method_64_code 99 = .ok (.getfield 37, 3))
theorem d_C_blame_102 : m_D k_C_blame 102 (.getfield 212) 3 := (by decide +kernel : decode prog_1_method_64_code 102 = .ok (.getfield 212, 3))
theorem d_C_blame_105 : m_D k_C_blame 105 (.iload_n 1) 1 := (by decide +kernel : decode prog_1_method_64_code 105 = .ok (.iload_n 1, 1))
theorem d_C_blame_106 : m_D k_C_blame 106 (.aaload) 1 := (by decide +kernel : decode prog_1_method_64_code 106 = .ok (.aaload, 1))
theorem d_C_blame_107 : m_D k_C_blame 107 (.getfield 266) 3 := (by decide +kernel : decode prog_1_method_64_code 107 = .ok (.getfield 266, 3))
theorem d_C_blame_110 : m_D k_C_blame 110 (.iload 4) 2 := (by decide +kernel : decode prog_1_method_64_code 110 = .ok (.iload 4, 2))
theorem d_C_blame_112 : m_D k_C_blame 112 (.iaload) 1 := (by decide +kernel : decode prog_1_method_64_code 112 = .ok (.iaload, 1))
theorem d_C_blame_113 : m_D k_C_blame 113 (.iadd) 1 := (by decide +kernel : decode prog_1_method_64_code 113 = .ok (.iadd, 1))
theorem d_C_blame_114 : m_D k_C_blame 114 (.istore_n 3) 1 := (by decide +kernel : decode prog_1_method_64_code 114 = .ok (.istore_n 3, 1))
theorem d_C_blame_115 : m_D k_C_blame 115 (.iinc 4 1) 3 := (by decide +kernel : decode prog_1_method_64_code 115 = .ok (.iinc 4 1, 3))
theorem d_C_blame_118 : m_D k_C_blame 118 (.goto (-33)) 3 := (by decide +kernel : decode prog_1_method_64_code 118 = .ok (.goto (-33), 3))
theorem d_C_blame_121 : m_D k_C_blame 121 (.aload_n 0) 1 := (by decide +kernel : decode prog_1_method_64_code 121 = .ok (.aload_n 0, 1))
theorem d_C_blame_122 : m_D k_C_blame 122 (.iload_n 3) 1 := (by decide +kernel : decode prog_1_method_64_code 122 = .ok (.iload_n 3, 1))
theorem d_C_blame_123 : m_D k_C_blame 123 (.i2l) 1 := (by decide +kernel : decode prog_1_method_64_code 123 = .ok (.i2l, 1))
theorem d_C_blame_124 : m_D k_C_blame 124 (.iload_n 2) 1 := (by decide +kernel : decode prog_1_method_64_code 124 = .ok (.iload_n 2, 1))
theorem d_C_blame_125 : m_D k_C_blame 125 (.i2l) 1 := (by decide +kernel : decode prog_1_method_64_code 125 = .ok (.i2l, 1))
theorem d_C_blame_126 : m_D k_C_blame 126 (.invokevirtual 407) 3 := (by decide +kernel : decode prog_1_method_64_code 126 = .ok (.invokevirtual 407, 3))
theorem d_C_blame_129 : m_D k_C_blame 129 (.iconst 1) 1 := (by decide +kernel : decode prog_1_method_64_code 129 = .ok (.iconst 1, 1))
theorem d_C_blame_130 : m_D k_C_blame 130 (.ireturn) 1 := (by decide +kernel : decode prog_1_method_64_code 130 = .ok (.ireturn, 1))
def fn_C_blame_l4 (x0 : Option mA) (t1 : Int32 × Int32) : mP ((Int32 × Int32) ⊕ (Int32)) :=
  m_bd (m_gR 0 5 x0) fun v2 =>
  m_bd (m_gI 3 1 v2) fun v3 =>
  if v3 ≤ t1.2 then
    m_rt (.inr t1.1)
  else
    m_bd (m_gR 0 5 x0) fun v4 =>
    m_bd (fn_Fa_lovedAhead v4 t1.2 0) fun v5 =>
    m_rt (.inl ((t1.1 + v5), (t1.2 + 1)))
def fn_C_blame_l85 (x0 : Option mA) (x1 : Int32) (t12 : Int32 × Int32) : mP ((Int32 × Int32) ⊕ (Int32)) :=
  m_bd (m_gR 0 5 x0) fun v13 =>
  m_bd (m_gI 3 1 v13) fun v14 =>
  if v14 ≤ t12.2 then
    m_rt (.inr t12.1)
  else
    m_bd (m_gR 0 5 x0) fun v15 =>
    m_bd (m_gR 3 7 v15) fun v16 =>
    m_bd (m_aR 6 v16 x1) fun v17 =>
    m_bd (m_gR 4 4 v17) fun v18 =>
    m_bd (m_aI 0 v18 t12.2) fun v19 =>
    m_rt (.inl ((t12.1 + v19), (t12.2 + 1)))
def fn_C_blame (x0 : Option mA) (x1 : Int32) : mP Int32 :=
  m_th 0 x0 <|
  m_bd (m_lp (fn_C_blame_l4 x0) m_F (0, 0)) fun (t6 : Int32) =>
  m_bd (fn_C_isPerson x0 x1) fun v7 =>
  m_bd (α := Int32) (
    if v7 = 0 then
      m_rt 2
    else
      if t6 = 0 then
        m_rt 8
      else
        m_rt 0
    ) fun (t8 : Int32) =>
  m_bd (m_pI 0 0 x0 t8) fun _ =>
  m_bd (m_gI 0 0 x0) fun v9 =>
  if v9 = 0 then
    m_bd (m_gR 0 5 x0) fun v10 =>
    m_bd (fn_Fa_showsAhead v10 x1 0) fun v11 =>
    m_bd (α := Int32) (
      if v11 = 0 then
        m_rt 0
      else
        m_bd (m_lp (fn_C_blame_l85 x0 x1) m_F (0, 0)) fun (t20 : Int32) =>
        m_rt t20
      ) fun (t21 : Int32) =>
    m_bd (fn_C_tell x0 (t21).toInt64 (t6).toInt64) fun _ =>
    m_rt 1
  else
    m_rt 0
set_option maxHeartbeats 4000000 in
set_option maxRecDepth 100000 in
theorem sd_C_blame (x0 : Option mA) (x1 : Int32) : m_Sm k_C_blame 4 0 0 [.inr (.inr x0), .inl x1] (fn_C_blame x0 x1) (fun b => some (.inl b)) := by
  refine ⟨Nat.le_of_ble_eq_true rfl, ?_⟩
  refine sm_th ?_
  refine sm_iconst (pc' := 1) d_C_blame_0 rfl ic_0 (sm_istore_n (i := 2) (L' := [(2, .inl 0), (0, .inr (.inr x0)), (1, .inl x1)]) (pc' := 2) d_C_blame_1 rfl rfl (Nat.le_of_ble_eq_true rfl) rfl (sm_iconst (pc' := 3) d_C_blame_2 rfl ic_0 (sm_istore_n (i := 3) (L' := [(3, .inl 0), (2, .inl 0), (0, .inr (.inr x0)), (1, .inl x1)]) (pc' := 4) d_C_blame_3 rfl rfl (Nat.le_of_ble_eq_true rfl) rfl ?_)))
  refine sm_sub [1, 0, 2, 3] rfl ?_
  refine sm_bd (mid := fun (t6 : Int32) => .inl (33, [(2, .inl t6), (0, .inr (.inr x0)), (1, .inl x1)], [])) (sm_lp (hd := fun (t1 : Int32 × Int32) => (.inl (4, [(2, .inl t1.1), (3, .inl t1.2), (0, .inr (.inr x0)), (1, .inl x1)], []) : mC)) (fun t1 => ?_) m_F (0, 0)) (fun t6 => ?_)
  · refine sm_iload_n (i := 3) (j := 1) (pc' := 5) d_C_blame_4 rfl rfl rfl (sm_aload_n (i := 0) (j := 2) (pc' := 6) d_C_blame_5 rfl rfl rfl ?_)
    refine sm_getR (pc' := 9) d_C_blame_6 rfl fl_C_37 rfl rfl (fun v2 => ?_)
    refine sm_getI (pc' := 12) d_C_blame_9 rfl fl_C_156 rfl ⟨by decide, by decide⟩ (fun v3 => ?_)
    refine sm_icmp_ge (tgt := 33) (pc' := 15) d_C_blame_12 rfl rfl ?_ ?_
    · refine sm_sub [0, 2, 3] rfl ?_
      exact sm_rt rfl
    · refine sm_iload_n (i := 2) (j := 0) (pc' := 16) d_C_blame_15 rfl rfl rfl (sm_aload_n (i := 0) (j := 2) (pc' := 17) d_C_blame_16 rfl rfl rfl ?_)
      refine sm_getR (pc' := 20) d_C_blame_17 rfl fl_C_37 rfl rfl (fun v4 => ?_)
      refine sm_iload_n (i := 3) (j := 1) (pc' := 21) d_C_blame_20 rfl rfl rfl (sm_iconst (pc' := 22) d_C_blame_21 rfl ic_0 ?_)
      refine sm_callVi (ci := 3) (x := v4) (av := [.inl t1.2, .inl 0]) (st := [.inl t1.1]) (mc := 0) (ms := 0) (pc' := 25) d_C_blame_22 rfl (sd_Fa_lovedAhead v4 t1.2 0) m_lv rfl cv_Fa_lovedAhead w_ml_C_254 rfl rfl (by decide) (Nat.le_of_ble_eq_true rfl) rfl rfl (fun v5 => ?_)
      refine sm_iadd (pc' := 26) d_C_blame_25 rfl (sm_istore_n (i := 2) (L' := [(2, .inl (t1.1 + v5)), (3, .inl t1.2), (0, .inr (.inr x0)), (1, .inl x1)]) (pc' := 27) d_C_blame_26 rfl rfl (Nat.le_of_ble_eq_true rfl) rfl (sm_iinc (j := 1) (L' := [(3, .inl (t1.2 + 1)), (2, .inl (t1.1 + v5)), (0, .inr (.inr x0)), (1, .inl x1)]) (pc' := 30) d_C_blame_27 rfl (v := (t1.2 + 1)) rfl (ix_1 _) (Nat.le_of_ble_eq_true rfl) rfl (sm_goto (tgt := 4) d_C_blame_30 rfl (sm_sub [1, 0, 2, 3] rfl ?_))))
      exact sm_rt rfl
  · refine sm_aload_n (i := 0) (j := 1) (pc' := 34) d_C_blame_33 rfl rfl rfl (sm_aload_n (i := 0) (j := 1) (pc' := 35) d_C_blame_34 rfl rfl rfl (sm_iload_n (i := 1) (j := 2) (pc' := 36) d_C_blame_35 rfl rfl rfl ?_))
    refine sm_callVi (ci := 0) (x := x0) (av := [.inl x1]) (st := [.inr (.inr x0)]) (mc := 0) (ms := 0) (pc' := 39) d_C_blame_36 rfl (sd_C_isPerson x0 x1) m_lv rfl cv_C_isPerson w_ml_C_209 rfl rfl (by decide) (Nat.le_of_ble_eq_true rfl) rfl rfl (fun v7 => ?_)
    refine sm_bd (mid := fun (t8 : Int32) => .inl (56, [(0, .inr (.inr x0)), (1, .inl x1), (2, .inl t6)], [.inl t8, .inr (.inr x0)])) ?_ (fun t8 => ?_)
    · refine sm_if_ne (tgt := 46) (pc' := 42) d_C_blame_39 rfl rfl ?_ ?_
      · refine sm_iload_n (i := 2) (j := 0) (pc' := 47) d_C_blame_46 rfl rfl rfl ?_
        refine sm_if_ne (tgt := 55) (pc' := 50) d_C_blame_47 rfl rfl ?_ ?_
        · refine sm_iconst (pc' := 56) d_C_blame_55 rfl ic_0 (sm_sub [1, 2, 0] rfl ?_)
          exact sm_rt rfl
        · refine sm_bipush (pc' := 52) d_C_blame_50 rfl ib_8 (sm_goto (tgt := 56) d_C_blame_52 rfl (sm_sub [1, 2, 0] rfl ?_))
          exact sm_rt rfl
      · refine sm_iconst (pc' := 43) d_C_blame_42 rfl ic_2 (sm_goto (tgt := 56) d_C_blame_43 rfl (sm_sub [1, 2, 0] rfl ?_))
        exact sm_rt rfl
    · refine sm_putI (pc' := 59) d_C_blame_56 rfl fl_C_9 (Or.inl rfl) rfl (sm_aload_n (i := 0) (j := 0) (pc' := 60) d_C_blame_59 rfl rfl rfl ?_)
      refine sm_getI (pc' := 63) d_C_blame_60 rfl fl_C_9 rfl ⟨by decide, by decide⟩ (fun v9 => ?_)
      refine sm_if_eq (tgt := 68) (pc' := 66) d_C_blame_63 rfl rfl ?_ ?_
      · refine sm_iconst (pc' := 69) d_C_blame_68 rfl ic_0 (sm_istore_n (i := 3) (L' := [(3, .inl 0), (0, .inr (.inr x0)), (1, .inl x1), (2, .inl t6)]) (pc' := 70) d_C_blame_69 rfl rfl (Nat.le_of_ble_eq_true rfl) rfl (sm_aload_n (i := 0) (j := 1) (pc' := 71) d_C_blame_70 rfl rfl rfl ?_))
        refine sm_getR (pc' := 74) d_C_blame_71 rfl fl_C_37 rfl rfl (fun v10 => ?_)
        refine sm_iload_n (i := 1) (j := 2) (pc' := 75) d_C_blame_74 rfl rfl rfl (sm_iconst (pc' := 76) d_C_blame_75 rfl ic_0 ?_)
        refine sm_callVi (ci := 3) (x := v10) (av := [.inl x1, .inl 0]) (st := []) (mc := 0) (ms := 0) (pc' := 79) d_C_blame_76 rfl (sd_Fa_showsAhead v10 x1 0) m_lv rfl cv_Fa_showsAhead w_ml_C_227 rfl rfl (by decide) (Nat.le_of_ble_eq_true rfl) rfl rfl (fun v11 => ?_)
        refine sm_bd (mid := fun (t21 : Int32) => .inl (121, [(0, .inr (.inr x0)), (2, .inl t6), (3, .inl t21)], [])) ?_ (fun t21 => ?_)
        · refine sm_if_eq (tgt := 121) (pc' := 82) d_C_blame_79 rfl rfl ?_ ?_
          · refine sm_sub [1, 3, 0] rfl ?_
            exact sm_rt rfl
          · refine sm_iconst (pc' := 83) d_C_blame_82 rfl ic_0 (sm_istore (L' := [(4, .inl 0), (3, .inl 0), (0, .inr (.inr x0)), (1, .inl x1), (2, .inl t6)]) (pc' := 85) d_C_blame_83 rfl (Nat.le_of_ble_eq_true rfl) rfl ?_)
            refine sm_sub [1, 0, 2, 3, 4] rfl ?_
            refine sm_bd (mid := fun (t20 : Int32) => .inl (121, [(3, .inl t20), (0, .inr (.inr x0)), (2, .inl t6)], [])) (sm_lp (hd := fun (t12 : Int32 × Int32) => (.inl (85, [(3, .inl t12.1), (4, .inl t12.2), (0, .inr (.inr x0)), (1, .inl x1), (2, .inl t6)], []) : mC)) (fun t12 => ?_) m_F (0, 0)) (fun t20 => ?_)
            · refine sm_iload (j := 1) (pc' := 87) d_C_blame_85 rfl rfl (sm_aload_n (i := 0) (j := 2) (pc' := 88) d_C_blame_87 rfl rfl rfl ?_)
              refine sm_getR (pc' := 91) d_C_blame_88 rfl fl_C_37 rfl rfl (fun v13 => ?_)
              refine sm_getI (pc' := 94) d_C_blame_91 rfl fl_C_156 rfl ⟨by decide, by decide⟩ (fun v14 => ?_)
              refine sm_icmp_ge (tgt := 121) (pc' := 97) d_C_blame_94 rfl rfl ?_ ?_
              · refine sm_sub [0, 2, 4] rfl ?_
                exact sm_rt rfl
              · refine sm_iload_n (i := 3) (j := 0) (pc' := 98) d_C_blame_97 rfl rfl rfl (sm_aload_n (i := 0) (j := 2) (pc' := 99) d_C_blame_98 rfl rfl rfl ?_)
                refine sm_getR (pc' := 102) d_C_blame_99 rfl fl_C_37 rfl rfl (fun v15 => ?_)
                refine sm_getR (pc' := 105) d_C_blame_102 rfl fl_C_212 rfl rfl (fun v16 => ?_)
                refine sm_iload_n (i := 1) (j := 3) (pc' := 106) d_C_blame_105 rfl rfl rfl ?_
                refine sm_aald (t := 6) ⟨by decide, by decide⟩ rfl (pc' := 107) d_C_blame_106 rfl (fun v17 => ?_)
                refine sm_getR (pc' := 110) d_C_blame_107 rfl fl_C_266 rfl rfl (fun v18 => ?_)
                refine sm_iload (j := 1) (pc' := 112) d_C_blame_110 rfl rfl ?_
                refine sm_iald (pc' := 113) d_C_blame_112 rfl (fun v19 => ?_)
                refine sm_iadd (pc' := 114) d_C_blame_113 rfl (sm_istore_n (i := 3) (L' := [(3, .inl (t12.1 + v19)), (4, .inl t12.2), (0, .inr (.inr x0)), (1, .inl x1), (2, .inl t6)]) (pc' := 115) d_C_blame_114 rfl rfl (Nat.le_of_ble_eq_true rfl) rfl (sm_iinc (j := 1) (L' := [(4, .inl (t12.2 + 1)), (3, .inl (t12.1 + v19)), (0, .inr (.inr x0)), (1, .inl x1), (2, .inl t6)]) (pc' := 118) d_C_blame_115 rfl (v := (t12.2 + 1)) rfl (ix_1 _) (Nat.le_of_ble_eq_true rfl) rfl (sm_goto (tgt := 85) d_C_blame_118 rfl (sm_sub [1, 0, 2, 3, 4] rfl ?_))))
                exact sm_rt rfl
            · refine sm_sub [1, 2, 0] rfl ?_
              exact sm_rt rfl
        · refine sm_aload_n (i := 0) (j := 0) (pc' := 122) d_C_blame_121 rfl rfl rfl (sm_iload_n (i := 3) (j := 2) (pc' := 123) d_C_blame_122 rfl rfl rfl (sm_i2l (pc' := 124) d_C_blame_123 rfl (sm_iload_n (i := 2) (j := 1) (pc' := 125) d_C_blame_124 rfl rfl rfl (sm_i2l (pc' := 126) d_C_blame_125 rfl ?_))))
          refine sm_callVv (ci := 0) (x := x0) (av := [.inr (.inl (t21).toInt64), .inr (.inl (t6).toInt64)]) (st := []) (mc := 0) (ms := 0) (pc' := 129) d_C_blame_126 rfl (sd_C_tell x0 (t21).toInt64 (t6).toInt64) m_lv rfl cv_C_tell w_ml_C_407 rfl rfl (by decide) (Nat.le_of_ble_eq_true rfl) rfl rfl ?_
          refine sm_iconst (pc' := 130) d_C_blame_129 rfl ic_1 ?_
          exact sm_zreturn d_C_blame_130 rfl (by decide) rfl
      · refine sm_iconst (pc' := 67) d_C_blame_66 rfl ic_0 ?_
        exact sm_zreturn d_C_blame_67 rfl (by decide) rfl
theorem d_Pl_isLeft_0 : m_D k_Pl_isLeft 0 (.aload_n 0) 1 := (by decide +kernel : decode prog_7_method_7_code 0 = .ok (.aload_n 0, 1))
theorem d_Pl_isLeft_1 : m_D k_Pl_isLeft 1 (.getfield 56) 3 := (by decide +kernel : decode prog_7_method_7_code 1 = .ok (.getfield 56, 3))
theorem d_Pl_isLeft_4 : m_D k_Pl_isLeft 4 (.aload_n 0) 1 := (by decide +kernel : decode prog_7_method_7_code 4 = .ok (.aload_n 0, 1))
theorem d_Pl_isLeft_5 : m_D k_Pl_isLeft 5 (.getfield 37) 3 := (by decide +kernel : decode prog_7_method_7_code 5 = .ok (.getfield 37, 3))
theorem d_Pl_isLeft_8 : m_D k_Pl_isLeft 8 (.if_icmp .ge 7) 3 := (by decide +kernel : decode prog_7_method_7_code 8 = .ok (.if_icmp .ge 7, 3))
theorem d_Pl_isLeft_11 : m_D k_Pl_isLeft 11 (.iconst 1) 1 := (by decide +kernel : decode prog_7_method_7_code 11 = .ok (.iconst 1, 1))
theorem d_Pl_isLeft_12 : m_D k_Pl_isLeft 12 (.goto 4) 3 := (by decide +kernel : decode prog_7_method_7_code 12 = .ok (.goto 4, 3))
theorem d_Pl_isLeft_15 : m_D k_Pl_isLeft 15 (.iconst 0) 1 := (by decide +kernel : decode prog_7_method_7_code 15 = .ok (.iconst 0, 1))
theorem d_Pl_isLeft_16 : m_D k_Pl_isLeft 16 (.ireturn) 1 := (by decide +kernel : decode prog_7_method_7_code 16 = .ok (.ireturn, 1))
def fn_Pl_isLeft (x0 : Option mA) : mP Int32 :=
  m_th 6 x0 <|
  m_bd (m_gI 6 10 x0) fun v1 =>
  m_bd (m_gI 6 1 x0) fun v2 =>
  if v2 ≤ v1 then
    m_rt 0
  else
    m_rt 1
set_option maxHeartbeats 4000000 in
set_option maxRecDepth 100000 in
theorem sd_Pl_isLeft (x0 : Option mA) : m_Sm k_Pl_isLeft 1 0 0 [.inr (.inr x0)] (fn_Pl_isLeft x0) (fun b => some (.inl b)) := by
  refine ⟨Nat.le_of_ble_eq_true rfl, ?_⟩
  refine sm_th ?_
  refine sm_aload_n (i := 0) (j := 0) (pc' := 1) d_Pl_isLeft_0 rfl rfl rfl ?_
  refine sm_getI (pc' := 4) d_Pl_isLeft_1 rfl fl_Pl_56 rfl ⟨by decide, by decide⟩ (fun v1 => ?_)
  refine sm_aload_n (i := 0) (j := 0) (pc' := 5) d_Pl_isLeft_4 rfl rfl rfl ?_
  refine sm_getI (pc' := 8) d_Pl_isLeft_5 rfl fl_Pl_37 rfl ⟨by decide, by decide⟩ (fun v2 => ?_)
  refine sm_icmp_ge (tgt := 15) (pc' := 11) d_Pl_isLeft_8 rfl rfl ?_ ?_
  · refine sm_iconst (pc' := 16) d_Pl_isLeft_15 rfl ic_0 ?_
    exact sm_zreturn d_Pl_isLeft_16 rfl (by decide) rfl
  · refine sm_iconst (pc' := 12) d_Pl_isLeft_11 rfl ic_1 (sm_goto (tgt := 16) d_Pl_isLeft_12 rfl ?_)
    exact sm_zreturn d_Pl_isLeft_16 rfl (by decide) rfl
theorem d_Pl_draw_0 : m_D k_Pl_draw 0 (.aload_n 0) 1 := (by decide +kernel : decode prog_7_method_16_code 0 = .ok (.aload_n 0, 1))
theorem d_Pl_draw_1 : m_D k_Pl_draw 1 (.aload_n 0) 1 := (by decide +kernel : decode prog_7_method_16_code 1 = .ok (.aload_n 0, 1))
theorem d_Pl_draw_2 : m_D k_Pl_draw 2 (.getfield 47) 3 := (by decide +kernel : decode prog_7_method_16_code 2 = .ok (.getfield 47, 3))
theorem d_Pl_draw_5 : m_D k_Pl_draw 5 (.sipush 2971) 3 := (by decide +kernel : decode prog_7_method_16_code 5 = .ok (.sipush 2971, 3))
theorem d_Pl_draw_8 : m_D k_Pl_draw 8 (.imul) 1 := (by decide +kernel : decode prog_7_method_16_code 8 = .ok (.imul, 1))
theorem d_Pl_draw_9 : m_D k_Pl_draw 9 (.sipush 10831) 3 := (by decide +kernel : decode prog_7_method_16_code 9 = .ok (.sipush 10831, 3))
theorem d_Pl_draw_12 : m_D k_Pl_draw 12 (.iadd) 1 := (by decide +kernel : decode prog_7_method_16_code 12 = .ok (.iadd, 1))
theorem d_Pl_draw_13 : m_D k_Pl_draw 13 (.ldc 148) 2 := (by decide +kernel : decode prog_7_method_16_code 13 = .ok (.ldc 148, 2))
theorem d_Pl_draw_15 : m_D k_Pl_draw 15 (.irem) 1 := (by decide +kernel : decode prog_7_method_16_code 15 = .ok (.irem, 1))
theorem d_Pl_draw_16 : m_D k_Pl_draw 16 (.putfield 47) 3 := (by decide +kernel : decode prog_7_method_16_code 16 = .ok (.putfield 47, 3))
theorem d_Pl_draw_19 : m_D k_Pl_draw 19 (.aload_n 0) 1 := (by decide +kernel : decode prog_7_method_16_code 19 = .ok (.aload_n 0, 1))
theorem d_Pl_draw_20 : m_D k_Pl_draw 20 (.getfield 47) 3 := (by decide +kernel : decode prog_7_method_16_code 20 = .ok (.getfield 47, 3))
theorem d_Pl_draw_23 : m_D k_Pl_draw 23 (.bipush 8) 2 := (by decide +kernel : decode prog_7_method_16_code 23 = .ok (.bipush 8, 2))
theorem d_Pl_draw_25 : m_D k_Pl_draw 25 (.idiv) 1 := (by decide +kernel : decode prog_7_method_16_code 25 = .ok (.idiv, 1))
theorem d_Pl_draw_26 : m_D k_Pl_draw 26 (.iload_n 1) 1 := (by decide +kernel : decode prog_7_method_16_code 26 = .ok (.iload_n 1, 1))
theorem d_Pl_draw_27 : m_D k_Pl_draw 27 (.irem) 1 := (by decide +kernel : decode prog_7_method_16_code 27 = .ok (.irem, 1))
theorem d_Pl_draw_28 : m_D k_Pl_draw 28 (.ireturn) 1 := (by decide +kernel : decode prog_7_method_16_code 28 = .ok (.ireturn, 1))
def fn_Pl_draw (x0 : Option mA) (x1 : Int32) : mP Int32 :=
  m_th 6 x0 <|
  m_bd (m_gI 6 9 x0) fun v1 =>
  m_bd (m_pI 6 9 x0 (iR ((v1 * 2971) + 10831) 65536)) fun _ =>
  m_bd (m_gI 6 9 x0) fun v2 =>
  m_bd (m_nz x1) fun _ =>
  m_rt (iR (v2 / 8) x1)
set_option maxHeartbeats 4000000 in
set_option maxRecDepth 100000 in
theorem sd_Pl_draw (x0 : Option mA) (x1 : Int32) : m_Sm k_Pl_draw 1 0 0 [.inr (.inr x0), .inl x1] (fn_Pl_draw x0 x1) (fun b => some (.inl b)) := by
  refine ⟨Nat.le_of_ble_eq_true rfl, ?_⟩
  refine sm_th ?_
  refine sm_aload_n (i := 0) (j := 0) (pc' := 1) d_Pl_draw_0 rfl rfl rfl (sm_aload_n (i := 0) (j := 0) (pc' := 2) d_Pl_draw_1 rfl rfl rfl ?_)
  refine sm_getI (pc' := 5) d_Pl_draw_2 rfl fl_Pl_47 rfl ⟨by decide, by decide⟩ (fun v1 => ?_)
  refine sm_sipush (pc' := 8) d_Pl_draw_5 rfl is_2971 (sm_imul (pc' := 9) d_Pl_draw_8 rfl (sm_sipush (pc' := 12) d_Pl_draw_9 rfl is_10831 (sm_iadd (pc' := 13) d_Pl_draw_12 rfl (sm_ldc (v := 65536) (pc' := 15) d_Pl_draw_13 rfl w_ci_Pl_148 (sm_irem (pc' := 16) d_Pl_draw_15 rfl (by decide) (sm_putI (pc' := 19) d_Pl_draw_16 rfl fl_Pl_47 (Or.inl rfl) rfl (sm_aload_n (i := 0) (j := 0) (pc' := 20) d_Pl_draw_19 rfl rfl rfl ?_)))))))
  refine sm_getI (pc' := 23) d_Pl_draw_20 rfl fl_Pl_47 rfl ⟨by decide, by decide⟩ (fun v2 => ?_)
  refine sm_bipush (pc' := 25) d_Pl_draw_23 rfl ib_8 (sm_idiv (pc' := 26) d_Pl_draw_25 rfl (by decide) (sm_iload_n (i := 1) (j := 1) (pc' := 27) d_Pl_draw_26 rfl rfl rfl (sm_irem_v (pc' := 28) d_Pl_draw_27 rfl ?_)))
  exact sm_ireturn d_Pl_draw_28 rfl rfl
theorem d_Pl_actAny_0 : m_D k_Pl_actAny 0 (.aload_n 1) 1 := (by decide +kernel : decode prog_7_method_14_code 0 = .ok (.aload_n 1, 1))
theorem d_Pl_actAny_1 : m_D k_Pl_actAny 1 (.getfield 125) 3 := (by decide +kernel : decode prog_7_method_14_code 1 = .ok (.getfield 125, 3))
theorem d_Pl_actAny_4 : m_D k_Pl_actAny 4 (.iconst 1) 1 := (by decide +kernel : decode prog_7_method_14_code 4 = .ok (.iconst 1, 1))
theorem d_Pl_actAny_5 : m_D k_Pl_actAny 5 (.if_icmp .ge 5) 3 := (by decide +kernel : decode prog_7_method_14_code 5 = .ok (.if_icmp .ge 5, 3))
theorem d_Pl_actAny_8 : m_D k_Pl_actAny 8 (.iconst 0) 1 := (by decide +kernel : decode prog_7_method_14_code 8 = .ok (.iconst 0, 1))
theorem d_Pl_actAny_9 : m_D k_Pl_actAny 9 (.ireturn) 1 := (by decide +kernel : decode prog_7_method_14_code 9 = .ok (.ireturn, 1))
theorem d_Pl_actAny_10 : m_D k_Pl_actAny 10 (.aload_n 1) 1 := (by decide +kernel : decode prog_7_method_14_code 10 = .ok (.aload_n 1, 1))
theorem d_Pl_actAny_11 : m_D k_Pl_actAny 11 (.aload_n 0) 1 := (by decide +kernel : decode prog_7_method_14_code 11 = .ok (.aload_n 0, 1))
theorem d_Pl_actAny_12 : m_D k_Pl_actAny 12 (.bipush 10) 2 := (by decide +kernel : decode prog_7_method_14_code 12 = .ok (.bipush 10, 2))
theorem d_Pl_actAny_14 : m_D k_Pl_actAny 14 (.invokevirtual 128) 3 := (by decide +kernel : decode prog_7_method_14_code 14 = .ok (.invokevirtual 128, 3))
theorem d_Pl_actAny_17 : m_D k_Pl_actAny 17 (.putfield 117) 3 := (by decide +kernel : decode prog_7_method_14_code 17 = .ok (.putfield 117, 3))
theorem d_Pl_actAny_20 : m_D k_Pl_actAny 20 (.aload_n 1) 1 := (by decide +kernel : decode prog_7_method_14_code 20 = .ok (.aload_n 1, 1))
theorem d_Pl_actAny_21 : m_D k_Pl_actAny 21 (.getfield 81) 3 := (by decide +kernel : decode prog_7_method_14_code 21 = .ok (.getfield 81, 3))
theorem d_Pl_actAny_24 : m_D k_Pl_actAny 24 (.aload_n 0) 1 := (by decide +kernel : decode prog_7_method_14_code 24 = .ok (.aload_n 0, 1))
theorem d_Pl_actAny_25 : m_D k_Pl_actAny 25 (.aload_n 1) 1 := (by decide +kernel : decode prog_7_method_14_code 25 = .ok (.aload_n 1, 1))
theorem d_Pl_actAny_26 : m_D k_Pl_actAny 26 (.getfield 125) 3 := (by decide +kernel : decode prog_7_method_14_code 26 = .ok (.getfield 125, 3))
theorem d_Pl_actAny_29 : m_D k_Pl_actAny 29 (.invokevirtual 128) 3 := (by decide +kernel : decode prog_7_method_14_code 29 = .ok (.invokevirtual 128, 3))
theorem d_Pl_actAny_32 : m_D k_Pl_actAny 32 (.aaload) 1 := (by decide +kernel : decode prog_7_method_14_code 32 = .ok (.aaload, 1))
theorem d_Pl_actAny_33 : m_D k_Pl_actAny 33 (.astore_n 2) 1 := (by decide +kernel : decode prog_7_method_14_code 33 = .ok (.astore_n 2, 1))
theorem d_Pl_actAny_34 : m_D k_Pl_actAny 34 (.aload_n 2) 1 := (by decide +kernel : decode prog_7_method_14_code 34 = .ok (.aload_n 2, 1))
theorem d_Pl_actAny_35 : m_D k_Pl_actAny 35 (.invokevirtual 90) 3 := (by decide +kernel : decode prog_7_method_14_code 35 = .ok (.invokevirtual 90, 3))
theorem d_Pl_actAny_38 : m_D k_Pl_actAny 38 (.ifCond .eq 5) 3 := (by decide +kernel : decode prog_7_method_14_code 38 = .ok (.ifCond .eq 5, 3))
theorem d_Pl_actAny_41 : m_D k_Pl_actAny 41 (.iconst 0) 1 := (by decide +kernel : decode prog_7_method_14_code 41 = .ok (.iconst 0, 1))
theorem d_Pl_actAny_42 : m_D k_Pl_actAny 42 (.ireturn) 1 := (by decide +kernel : decode prog_7_method_14_code 42 = .ok (.ireturn, 1))
theorem d_Pl_actAny_43 : m_D k_Pl_actAny 43 (.aload_n 2) 1 := (by decide +kernel : decode prog_7_method_14_code 43 = .ok (.aload_n 2, 1))
theorem d_Pl_actAny_44 : m_D k_Pl_actAny 44 (.aload_n 1) 1 := (by decide +kernel : decode prog_7_method_14_code 44 = .ok (.aload_n 1, 1))
theorem d_Pl_actAny_45 : m_D k_Pl_actAny 45 (.getfield 132) 3 := (by decide +kernel : decode prog_7_method_14_code 45 = .ok (.getfield 132, 3))
theorem d_Pl_actAny_48 : m_D k_Pl_actAny 48 (.invokevirtual 135) 3 := (by decide +kernel : decode prog_7_method_14_code 48 = .ok (.invokevirtual 135, 3))
theorem d_Pl_actAny_51 : m_D k_Pl_actAny 51 (.iconst 1) 1 := (by decide +kernel : decode prog_7_method_14_code 51 = .ok (.iconst 1, 1))
theorem d_Pl_actAny_52 : m_D k_Pl_actAny 52 (.ireturn) 1 := (by decide +kernel : decode prog_7_method_14_code 52 = .ok (.ireturn, 1))
def fn_Pl_actAny (x0 : Option mA) (x1 : Option mA) : mP Int32 :=
  m_th 6 x0 <|
  m_bd (m_gI 3 1 x1) fun v1 =>
  if 1 ≤ v1 then
    m_bd (fn_Pl_draw x0 10) fun v2 =>
    m_bd (m_pI 3 4 x1 v2) fun _ =>
    m_bd (m_gR 3 8 x1) fun v3 =>
    m_bd (m_gI 3 1 x1) fun v4 =>
    m_bd (fn_Pl_draw x0 v4) fun v5 =>
    m_bd (m_aR 7 v3 v5) fun v6 =>
    m_bd (fn_Th_isThrough v6) fun v7 =>
    if v7 = 0 then
      m_bd (m_gI 3 5 x1) fun v8 =>
      m_bd (fn_Th_takeBreath v6 v8) fun _ =>
      m_rt 1
    else
      m_rt 0
  else
    m_rt 0
set_option maxHeartbeats 4000000 in
set_option maxRecDepth 100000 in
theorem sd_Pl_actAny (x0 : Option mA) (x1 : Option mA) : m_Sm k_Pl_actAny 2 0 0 [.inr (.inr x0), .inr (.inr x1)] (fn_Pl_actAny x0 x1) (fun b => some (.inl b)) := by
  refine ⟨Nat.le_of_ble_eq_true rfl, ?_⟩
  refine sm_th ?_
  refine sm_aload_n (i := 1) (j := 1) (pc' := 1) d_Pl_actAny_0 rfl rfl rfl ?_
  refine sm_getI (pc' := 4) d_Pl_actAny_1 rfl fl_Pl_125 rfl ⟨by decide, by decide⟩ (fun v1 => ?_)
  refine sm_iconst (pc' := 5) d_Pl_actAny_4 rfl ic_1 ?_
  refine sm_icmp_ge (tgt := 10) (pc' := 8) d_Pl_actAny_5 rfl rfl ?_ ?_
  · refine sm_aload_n (i := 1) (j := 1) (pc' := 11) d_Pl_actAny_10 rfl rfl rfl (sm_aload_n (i := 0) (j := 0) (pc' := 12) d_Pl_actAny_11 rfl rfl rfl (sm_bipush (pc' := 14) d_Pl_actAny_12 rfl ib_10 ?_))
    refine sm_callVi (ci := 6) (x := x0) (av := [.inl 10]) (st := [.inr (.inr x1)]) (mc := 0) (ms := 0) (pc' := 17) d_Pl_actAny_14 rfl (sd_Pl_draw x0 10) m_lv rfl cv_Pl_draw w_ml_Pl_128 rfl rfl (by decide) (Nat.le_of_ble_eq_true rfl) rfl rfl (fun v2 => ?_)
    refine sm_putI (pc' := 20) d_Pl_actAny_17 rfl fl_Pl_117 (Or.inl rfl) rfl (sm_aload_n (i := 1) (j := 1) (pc' := 21) d_Pl_actAny_20 rfl rfl rfl ?_)
    refine sm_getR (pc' := 24) d_Pl_actAny_21 rfl fl_Pl_81 rfl rfl (fun v3 => ?_)
    refine sm_aload_n (i := 0) (j := 0) (pc' := 25) d_Pl_actAny_24 rfl rfl rfl (sm_aload_n (i := 1) (j := 1) (pc' := 26) d_Pl_actAny_25 rfl rfl rfl ?_)
    refine sm_getI (pc' := 29) d_Pl_actAny_26 rfl fl_Pl_125 rfl ⟨by decide, by decide⟩ (fun v4 => ?_)
    refine sm_callVi (ci := 6) (x := x0) (av := [.inl v4]) (st := [.inr (.inr v3)]) (mc := 0) (ms := 0) (pc' := 32) d_Pl_actAny_29 rfl (sd_Pl_draw x0 v4) m_lv rfl cv_Pl_draw w_ml_Pl_128 rfl rfl (by decide) (Nat.le_of_ble_eq_true rfl) rfl rfl (fun v5 => ?_)
    refine sm_aald (t := 7) ⟨by decide, by decide⟩ rfl (pc' := 33) d_Pl_actAny_32 rfl (fun v6 => ?_)
    refine sm_astore_n (i := 2) (L' := [(2, .inr (.inr v6)), (0, .inr (.inr x0)), (1, .inr (.inr x1))]) (pc' := 34) d_Pl_actAny_33 rfl rfl (Nat.le_of_ble_eq_true rfl) rfl (sm_aload_n (i := 2) (j := 0) (pc' := 35) d_Pl_actAny_34 rfl rfl rfl ?_)
    refine sm_callVi (ci := 5) (x := v6) (av := []) (st := []) (mc := 0) (ms := 0) (pc' := 38) d_Pl_actAny_35 rfl (sd_Th_isThrough v6) m_lv rfl cv_Th_isThrough w_ml_Pl_90 rfl rfl (by decide) (Nat.le_of_ble_eq_true rfl) rfl rfl (fun v7 => ?_)
    refine sm_if_eq (tgt := 43) (pc' := 41) d_Pl_actAny_38 rfl rfl ?_ ?_
    · refine sm_aload_n (i := 2) (j := 0) (pc' := 44) d_Pl_actAny_43 rfl rfl rfl (sm_aload_n (i := 1) (j := 2) (pc' := 45) d_Pl_actAny_44 rfl rfl rfl ?_)
      refine sm_getI (pc' := 48) d_Pl_actAny_45 rfl fl_Pl_132 rfl ⟨by decide, by decide⟩ (fun v8 => ?_)
      refine sm_callVv (ci := 5) (x := v6) (av := [.inl v8]) (st := []) (mc := 0) (ms := 0) (pc' := 51) d_Pl_actAny_48 rfl (sd_Th_takeBreath v6 v8) m_lv rfl cv_Th_takeBreath w_ml_Pl_135 rfl rfl (by decide) (Nat.le_of_ble_eq_true rfl) rfl rfl ?_
      refine sm_iconst (pc' := 52) d_Pl_actAny_51 rfl ic_1 ?_
      exact sm_zreturn d_Pl_actAny_52 rfl (by decide) rfl
    · refine sm_iconst (pc' := 42) d_Pl_actAny_41 rfl ic_0 ?_
      exact sm_zreturn d_Pl_actAny_42 rfl (by decide) rfl
  · refine sm_iconst (pc' := 9) d_Pl_actAny_8 rfl ic_0 ?_
    exact sm_zreturn d_Pl_actAny_9 rfl (by decide) rfl
