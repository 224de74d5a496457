/-! 20.cls4, laid by wip/whole/gen.py -/
theorem d_C_dote_0 : m_D k_C_dote 0 (.aload_n 0) 1 := (by decide +kernel : decode prog_1_method_27_code 0 = .ok (.aload_n 0, 1))
theorem d_C_dote_1 : m_D k_C_dote 1 (.iload_n 1) 1 := (by decide +kernel : decode prog_1_method_27_code 1 = .ok (.iload_n 1, 1))
theorem d_C_dote_2 : m_D k_C_dote 2 (.iload_n 2) 1 := (by decide +kernel : decode prog_1_method_27_code 2 = .ok (.iload_n 2, 1))
theorem d_C_dote_3 : m_D k_C_dote 3 (.invokevirtual 263) 3 := (by decide +kernel : decode prog_1_method_27_code 3 = .ok (.invokevirtual 263, 3))
theorem d_C_dote_6 : m_D k_C_dote 6 (.istore 4) 2 := (by decide +kernel : decode prog_1_method_27_code 6 = .ok (.istore 4, 2))
theorem d_C_dote_8 : m_D k_C_dote 8 (.aload_n 0) 1 := (by decide +kernel : decode prog_1_method_27_code 8 = .ok (.aload_n 0, 1))
theorem d_C_dote_9 : m_D k_C_dote 9 (.iload 4) 2 := (by decide +kernel : decode prog_1_method_27_code 9 = .ok (.iload 4, 2))
theorem d_C_dote_11 : m_D k_C_dote 11 (.ifCond .eq 8) 3 := (by decide +kernel : decode prog_1_method_27_code 11 = .ok (.ifCond .eq 8, 3))
theorem d_C_dote_14 : m_D k_C_dote 14 (.iload 4) 2 := (by decide +kernel : decode prog_1_method_27_code 14 = .ok (.iload 4, 2))
theorem d_C_dote_16 : m_D k_C_dote 16 (.goto 41) 3 := (by decide +kernel : decode prog_1_method_27_code 16 = .ok (.goto 41, 3))
theorem d_C_dote_19 : m_D k_C_dote 19 (.iload_n 3) 1 := (by decide +kernel : decode prog_1_method_27_code 19 = .ok (.iload_n 3, 1))
theorem d_C_dote_20 : m_D k_C_dote 20 (.iconst 0) 1 := (by decide +kernel : decode prog_1_method_27_code 20 = .ok (.iconst 0, 1))
theorem d_C_dote_21 : m_D k_C_dote 21 (.bipush 9) 2 := (by decide +kernel : decode prog_1_method_27_code 21 = .ok (.bipush 9, 2))
theorem d_C_dote_23 : m_D k_C_dote 23 (.invokestatic 269) 3 := (by decide +kernel : decode prog_1_method_27_code 23 = .ok (.invokestatic 269, 3))
theorem d_C_dote_26 : m_D k_C_dote 26 (.ifCond .ne 7) 3 := (by decide +kernel : decode prog_1_method_27_code 26 = .ok (.ifCond .ne 7, 3))
theorem d_C_dote_29 : m_D k_C_dote 29 (.iconst 5) 1 := (by decide +kernel : decode prog_1_method_27_code 29 = .ok (.iconst 5, 1))
theorem d_C_dote_30 : m_D k_C_dote 30 (.goto 27) 3 := (by decide +kernel : decode prog_1_method_27_code 30 = .ok (.goto 27, 3))
theorem d_C_dote_33 : m_D k_C_dote 33 (.aload_n 0) 1 := (by decide +kernel : decode prog_1_method_27_code 33 = .ok (.aload_n 0, 1))
theorem d_C_dote_34 : m_D k_C_dote 34 (.getfield 37) 3 := (by decide +kernel : decode prog_1_method_27_code 34 = .ok (.getfield 37, 3))
theorem d_C_dote_37 : m_D k_C_dote 37 (.getfield 212) 3 := (by decide +kernel : decode prog_1_method_27_code 37 = .ok (.getfield 212, 3))
theorem d_C_dote_40 : m_D k_C_dote 40 (.iload_n 1) 1 := (by decide +kernel : decode prog_1_method_27_code 40 = .ok (.iload_n 1, 1))
theorem d_C_dote_41 : m_D k_C_dote 41 (.aaload) 1 := (by decide +kernel : decode prog_1_method_27_code 41 = .ok (.aaload, 1))
theorem d_C_dote_42 : m_D k_C_dote 42 (.getfield 266) 3 := (by decide +kernel : decode prog_1_method_27_code 42 = .ok (.getfield 266, 3))
theorem d_C_dote_45 : m_D k_C_dote 45 (.iload_n 2) 1 := (by decide +kernel : decode prog_1_method_27_code 45 = .ok (.iload_n 2, 1))
theorem d_C_dote_46 : m_D k_C_dote 46 (.iaload) 1 := (by decide +kernel : decode prog_1_method_27_code 46 = .ok (.iaload, 1))
theorem d_C_dote_47 : m_D k_C_dote 47 (.iload_n 3) 1 := (by decide +kernel : decode prog_1_method_27_code 47 = .ok (.iload_n 3, 1))
theorem d_C_dote_48 : m_D k_C_dote 48 (.if_icmp .ne 8) 3 := (by decide +kernel : decode prog_1_method_27_code 48 = .ok (.if_icmp .ne 8, 3))
theorem d_C_dote_51 : m_D k_C_dote 51 (.bipush 9) 2 := (by decide +kernel : decode prog_1_method_27_code 51 = .ok (.bipush 9, 2))
theorem d_C_dote_53 : m_D k_C_dote 53 (.goto 4) 3 := (by decide +kernel : decode prog_1_method_27_code 53 = .ok (.goto 4, 3))
theorem d_C_dote_56 : m_D k_C_dote 56 (.iconst 0) 1 := (by decide +kernel : decode prog_1_method_27_code 56 = .ok (.iconst 0, 1))
theorem d_C_dote_57 : m_D k_C_dote 57 (.putfield 9) 3 := (by decide +kernel : decode prog_1_method_27_code 57 = .ok (.putfield 9, 3))
theorem d_C_dote_60 : m_D k_C_dote 60 (.aload_n 0) 1 := (by decide +kernel : decode prog_1_method_27_code 60 = .ok (.aload_n 0, 1))
theorem d_C_dote_61 : m_D k_C_dote 61 (.getfield 9) 3 := (by decide +kernel : decode prog_1_method_27_code 61 = .ok (.getfield 9, 3))
theorem d_C_dote_64 : m_D k_C_dote 64 (.ifCond .eq 5) 3 := (by decide +kernel : decode prog_1_method_27_code 64 = .ok (.ifCond .eq 5, 3))
theorem d_C_dote_67 : m_D k_C_dote 67 (.iconst (-1)) 1 := (by decide +kernel : decode prog_1_method_27_code 67 = .ok (.iconst (-1), 1))
theorem d_C_dote_68 : m_D k_C_dote 68 (.ireturn) 1 := (by decide +kernel : decode prog_1_method_27_code 68 = .ok (.ireturn, 1))
theorem d_C_dote_69 : m_D k_C_dote 69 (.aload_n 0) 1 := (by decide +kernel : decode prog_1_method_27_code 69 = .ok (.aload_n 0, 1))
theorem d_C_dote_70 : m_D k_C_dote 70 (.getfield 37) 3 := (by decide +kernel : decode prog_1_method_27_code 70 = .ok (.getfield 37, 3))
theorem d_C_dote_73 : m_D k_C_dote 73 (.getfield 212) 3 := (by decide +kernel : decode prog_1_method_27_code 73 = .ok (.getfield 212, 3))
theorem d_C_dote_76 : m_D k_C_dote 76 (.iload_n 1) 1 := (by decide +kernel : decode prog_1_method_27_code 76 = .ok (.iload_n 1, 1))
theorem d_C_dote_77 : m_D k_C_dote 77 (.aaload) 1 := (by decide +kernel : decode prog_1_method_27_code 77 = .ok (.aaload, 1))
theorem d_C_dote_78 : m_D k_C_dote 78 (.getfield 266) 3 := (by decide +kernel : decode prog_1_method_27_code 78 = .ok (.getfield 266, 3))
theorem d_C_dote_81 : m_D k_C_dote 81 (.iload_n 2) 1 := (by decide +kernel : decode prog_1_method_27_code 81 = .ok (.iload_n 2, 1))
theorem d_C_dote_82 : m_D k_C_dote 82 (.iaload) 1 := (by decide +kernel : decode prog_1_method_27_code 82 = .ok (.iaload, 1))
theorem d_C_dote_83 : m_D k_C_dote 83 (.istore 5) 2 := (by decide +kernel : decode prog_1_method_27_code 83 = .ok (.istore 5, 2))
theorem d_C_dote_85 : m_D k_C_dote 85 (.aload_n 0) 1 := (by decide +kernel : decode prog_1_method_27_code 85 = .ok (.aload_n 0, 1))
theorem d_C_dote_86 : m_D k_C_dote 86 (.getfield 37) 3 := (by decide +kernel : decode prog_1_method_27_code 86 = .ok (.getfield 37, 3))
theorem d_C_dote_89 : m_D k_C_dote 89 (.getfield 212) 3 := (by decide +kernel : decode prog_1_method_27_code 89 = .ok (.getfield 212, 3))
theorem d_C_dote_92 : m_D k_C_dote 92 (.iload_n 1) 1 := (by decide +kernel : decode prog_1_method_27_code 92 = .ok (.iload_n 1, 1))
theorem d_C_dote_93 : m_D k_C_dote 93 (.aaload) 1 := (by decide +kernel : decode prog_1_method_27_code 93 = .ok (.aaload, 1))
theorem d_C_dote_94 : m_D k_C_dote 94 (.getfield 266) 3 := (by decide +kernel : decode prog_1_method_27_code 94 = .ok (.getfield 266, 3))
theorem d_C_dote_97 : m_D k_C_dote 97 (.iload_n 2) 1 := (by decide +kernel : decode prog_1_method_27_code 97 = .ok (.iload_n 2, 1))
theorem d_C_dote_98 : m_D k_C_dote 98 (.iload_n 3) 1 := (by decide +kernel : decode prog_1_method_27_code 98 = .ok (.iload_n 3, 1))
theorem d_C_dote_99 : m_D k_C_dote 99 (.iastore) 1 := (by decide +kernel : decode prog_1_method_27_code 99 = .ok (.iastore, 1))
theorem d_C_dote_100 : m_D k_C_dote 100 (.iload 5) 2 := (by decide +kernel : decode prog_1_method_27_code 100 = .ok (.iload 5, 2))
theorem d_C_dote_102 : m_D k_C_dote 102 (.ireturn) 1 := (by decide +kernel : decode prog_1_method_27_code 102 = .ok (.ireturn, 1))
def fn_C_dote (x0 : Option mA) (x1 : Int32) (x2 : Int32) (x3 : Int32) : mP Int32 :=
  m_th 0 x0 <|
  m_bd (fn_C_pairStatus x0 x1 x2) fun v1 =>
  m_bd (α := Int32) (
    if v1 = 0 then
      m_bd (fn_C_isWithin x3 0 9) fun v2 =>
      if v2 = 0 then
        m_rt 5
      else
        m_bd (m_gR 0 5 x0) fun v3 =>
        m_bd (m_gR 3 7 v3) fun v4 =>
        m_bd (m_aR 6 v4 x1) fun v5 =>
        m_bd (m_gR 4 4 v5) fun v6 =>
        m_bd (m_aI 0 v6 x2) fun v7 =>
        if v7 = x3 then
          m_rt 9
        else
          m_rt 0
    else
      m_rt v1
    ) fun (t8 : Int32) =>
  m_bd (m_pI 0 0 x0 t8) fun _ =>
  m_bd (m_gI 0 0 x0) fun v9 =>
  if v9 = 0 then
    m_bd (m_gR 0 5 x0) fun v10 =>
    m_bd (m_gR 3 7 v10) fun v11 =>
    m_bd (m_aR 6 v11 x1) fun v12 =>
    m_bd (m_gR 4 4 v12) fun v13 =>
    m_bd (m_aI 0 v13 x2) fun v14 =>
    m_bd (m_gR 0 5 x0) fun v15 =>
    m_bd (m_gR 3 7 v15) fun v16 =>
    m_bd (m_aR 6 v16 x1) fun v17 =>
    m_bd (m_gR 4 4 v17) fun v18 =>
    m_bd (m_tI 0 v18 x2 x3) fun _ =>
    m_rt v14
  else
    m_rt (-1)
set_option maxHeartbeats 4000000 in
set_option maxRecDepth 100000 in
theorem sd_C_dote (x0 : Option mA) (x1 : Int32) (x2 : Int32) (x3 : Int32) : m_Sm k_C_dote 3 0 0 [.inr (.inr x0), .inl x1, .inl x2, .inl x3] (fn_C_dote x0 x1 x2 x3) (fun b => some (.inl b)) := by
  refine ⟨Nat.le_of_ble_eq_true rfl, ?_⟩
  refine sm_th ?_
  refine sm_aload_n (i := 0) (j := 0) (pc' := 1) d_C_dote_0 rfl rfl rfl (sm_iload_n (i := 1) (j := 1) (pc' := 2) d_C_dote_1 rfl rfl rfl (sm_iload_n (i := 2) (j := 2) (pc' := 3) d_C_dote_2 rfl rfl rfl ?_))
  refine sm_callVi (ci := 0) (x := x0) (av := [.inl x1, .inl x2]) (st := []) (mc := 0) (ms := 0) (pc' := 6) d_C_dote_3 rfl (sd_C_pairStatus x0 x1 x2) m_lv rfl cv_C_pairStatus w_ml_C_263 rfl rfl (by decide) (Nat.le_of_ble_eq_true rfl) rfl rfl (fun v1 => ?_)
  refine sm_istore (L' := [(4, .inl v1), (0, .inr (.inr x0)), (1, .inl x1), (2, .inl x2), (3, .inl x3)]) (pc' := 8) d_C_dote_6 rfl (Nat.le_of_ble_eq_true rfl) rfl (sm_aload_n (i := 0) (j := 1) (pc' := 9) d_C_dote_8 rfl rfl rfl (sm_iload (j := 0) (pc' := 11) d_C_dote_9 rfl rfl ?_))
  refine sm_bd (mid := fun (t8 : Int32) => .inl (57, [(0, .inr (.inr x0)), (1, .inl x1), (2, .inl x2), (3, .inl x3)], [.inl t8, .inr (.inr x0)])) ?_ (fun t8 => ?_)
  · refine sm_if_eq (tgt := 19) (pc' := 14) d_C_dote_11 rfl rfl ?_ ?_
    · refine sm_iload_n (i := 3) (j := 4) (pc' := 20) d_C_dote_19 rfl rfl rfl (sm_iconst (pc' := 21) d_C_dote_20 rfl ic_0 (sm_bipush (pc' := 23) d_C_dote_21 rfl ib_9 ?_))
      refine sm_callSi (av := [.inl x3, .inl 0, .inl 9]) (st := [.inr (.inr x0)]) (mc := 0) (ms := 0) (pc' := 26) d_C_dote_23 rfl (sd_C_isWithin x3 0 9) cs_C_isWithin w_ml_C_269 rfl rfl (by decide) (Nat.le_of_ble_eq_true rfl) rfl rfl (fun v2 => ?_)
      refine sm_if_ne (tgt := 33) (pc' := 29) d_C_dote_26 rfl rfl ?_ ?_
      · refine sm_aload_n (i := 0) (j := 1) (pc' := 34) d_C_dote_33 rfl rfl rfl ?_
        refine sm_getR (pc' := 37) d_C_dote_34 rfl fl_C_37 rfl rfl (fun v3 => ?_)
        refine sm_getR (pc' := 40) d_C_dote_37 rfl fl_C_212 rfl rfl (fun v4 => ?_)
        refine sm_iload_n (i := 1) (j := 2) (pc' := 41) d_C_dote_40 rfl rfl rfl ?_
        refine sm_aald (t := 6) ⟨by decide, by decide⟩ rfl (pc' := 42) d_C_dote_41 rfl (fun v5 => ?_)
        refine sm_getR (pc' := 45) d_C_dote_42 rfl fl_C_266 rfl rfl (fun v6 => ?_)
        refine sm_iload_n (i := 2) (j := 3) (pc' := 46) d_C_dote_45 rfl rfl rfl ?_
        refine sm_iald (pc' := 47) d_C_dote_46 rfl (fun v7 => ?_)
        refine sm_iload_n (i := 3) (j := 4) (pc' := 48) d_C_dote_47 rfl rfl rfl ?_
        refine sm_icmp_ne (tgt := 56) (pc' := 51) d_C_dote_48 rfl rfl ?_ ?_
        · refine sm_iconst (pc' := 57) d_C_dote_56 rfl ic_0 (sm_sub [1, 2, 3, 4] rfl ?_)
          exact sm_rt rfl
        · refine sm_bipush (pc' := 53) d_C_dote_51 rfl ib_9 (sm_goto (tgt := 57) d_C_dote_53 rfl (sm_sub [1, 2, 3, 4] rfl ?_))
          exact sm_rt rfl
      · refine sm_iconst (pc' := 30) d_C_dote_29 rfl ic_5 (sm_goto (tgt := 57) d_C_dote_30 rfl (sm_sub [1, 2, 3, 4] rfl ?_))
        exact sm_rt rfl
    · refine sm_iload (j := 0) (pc' := 16) d_C_dote_14 rfl rfl (sm_goto (tgt := 57) d_C_dote_16 rfl (sm_sub [1, 2, 3, 4] rfl ?_))
      exact sm_rt rfl
  · refine sm_putI (pc' := 60) d_C_dote_57 rfl fl_C_9 (Or.inl rfl) rfl (sm_aload_n (i := 0) (j := 0) (pc' := 61) d_C_dote_60 rfl rfl rfl ?_)
    refine sm_getI (pc' := 64) d_C_dote_61 rfl fl_C_9 rfl ⟨by decide, by decide⟩ (fun v9 => ?_)
    refine sm_if_eq (tgt := 69) (pc' := 67) d_C_dote_64 rfl rfl ?_ ?_
    · refine sm_aload_n (i := 0) (j := 0) (pc' := 70) d_C_dote_69 rfl rfl rfl ?_
      refine sm_getR (pc' := 73) d_C_dote_70 rfl fl_C_37 rfl rfl (fun v10 => ?_)
      refine sm_getR (pc' := 76) d_C_dote_73 rfl fl_C_212 rfl rfl (fun v11 => ?_)
      refine sm_iload_n (i := 1) (j := 1) (pc' := 77) d_C_dote_76 rfl rfl rfl ?_
      refine sm_aald (t := 6) ⟨by decide, by decide⟩ rfl (pc' := 78) d_C_dote_77 rfl (fun v12 => ?_)
      refine sm_getR (pc' := 81) d_C_dote_78 rfl fl_C_266 rfl rfl (fun v13 => ?_)
      refine sm_iload_n (i := 2) (j := 2) (pc' := 82) d_C_dote_81 rfl rfl rfl ?_
      refine sm_iald (pc' := 83) d_C_dote_82 rfl (fun v14 => ?_)
      refine sm_istore (L' := [(5, .inl v14), (0, .inr (.inr x0)), (1, .inl x1), (2, .inl x2), (3, .inl x3)]) (pc' := 85) d_C_dote_83 rfl (Nat.le_of_ble_eq_true rfl) rfl (sm_aload_n (i := 0) (j := 1) (pc' := 86) d_C_dote_85 rfl rfl rfl ?_)
      refine sm_getR (pc' := 89) d_C_dote_86 rfl fl_C_37 rfl rfl (fun v15 => ?_)
      refine sm_getR (pc' := 92) d_C_dote_89 rfl fl_C_212 rfl rfl (fun v16 => ?_)
      refine sm_iload_n (i := 1) (j := 2) (pc' := 93) d_C_dote_92 rfl rfl rfl ?_
      refine sm_aald (t := 6) ⟨by decide, by decide⟩ rfl (pc' := 94) d_C_dote_93 rfl (fun v17 => ?_)
      refine sm_getR (pc' := 97) d_C_dote_94 rfl fl_C_266 rfl rfl (fun v18 => ?_)
      refine sm_iload_n (i := 2) (j := 3) (pc' := 98) d_C_dote_97 rfl rfl rfl (sm_iload_n (i := 3) (j := 4) (pc' := 99) d_C_dote_98 rfl rfl rfl (sm_iast (pc' := 100) d_C_dote_99 rfl (sm_iload (j := 0) (pc' := 102) d_C_dote_100 rfl rfl ?_)))
      exact sm_ireturn d_C_dote_102 rfl rfl
    · refine sm_iconst (pc' := 68) d_C_dote_67 rfl ic_m1 ?_
      exact sm_ireturn d_C_dote_68 rfl rfl
theorem d_C_wholeStatus_0 : m_D k_C_wholeStatus 0 (.aload_n 0) 1 := (by decide +kernel : decode prog_1_method_36_code 0 = .ok (.aload_n 0, 1))
theorem d_C_wholeStatus_1 : m_D k_C_wholeStatus 1 (.iload_n 1) 1 := (by decide +kernel : decode prog_1_method_36_code 1 = .ok (.iload_n 1, 1))
theorem d_C_wholeStatus_2 : m_D k_C_wholeStatus 2 (.invokevirtual 233) 3 := (by decide +kernel : decode prog_1_method_36_code 2 = .ok (.invokevirtual 233, 3))
theorem d_C_wholeStatus_5 : m_D k_C_wholeStatus 5 (.ifCond .ne 7) 3 := (by decide +kernel : decode prog_1_method_36_code 5 = .ok (.ifCond .ne 7, 3))
theorem d_C_wholeStatus_8 : m_D k_C_wholeStatus 8 (.iconst 2) 1 := (by decide +kernel : decode prog_1_method_36_code 8 = .ok (.iconst 2, 1))
theorem d_C_wholeStatus_9 : m_D k_C_wholeStatus 9 (.goto 24) 3 := (by decide +kernel : decode prog_1_method_36_code 9 = .ok (.goto 24, 3))
theorem d_C_wholeStatus_12 : m_D k_C_wholeStatus 12 (.aload_n 0) 1 := (by decide +kernel : decode prog_1_method_36_code 12 = .ok (.aload_n 0, 1))
theorem d_C_wholeStatus_13 : m_D k_C_wholeStatus 13 (.getfield 37) 3 := (by decide +kernel : decode prog_1_method_36_code 13 = .ok (.getfield 37, 3))
theorem d_C_wholeStatus_16 : m_D k_C_wholeStatus 16 (.getfield 236) 3 := (by decide +kernel : decode prog_1_method_36_code 16 = .ok (.getfield 236, 3))
theorem d_C_wholeStatus_19 : m_D k_C_wholeStatus 19 (.iload_n 1) 1 := (by decide +kernel : decode prog_1_method_36_code 19 = .ok (.iload_n 1, 1))
theorem d_C_wholeStatus_20 : m_D k_C_wholeStatus 20 (.aaload) 1 := (by decide +kernel : decode prog_1_method_36_code 20 = .ok (.aaload, 1))
theorem d_C_wholeStatus_21 : m_D k_C_wholeStatus 21 (.invokevirtual 260) 3 := (by decide +kernel : decode prog_1_method_36_code 21 = .ok (.invokevirtual 260, 3))
theorem d_C_wholeStatus_24 : m_D k_C_wholeStatus 24 (.ifCond .eq 8) 3 := (by decide +kernel : decode prog_1_method_36_code 24 = .ok (.ifCond .eq 8, 3))
theorem d_C_wholeStatus_27 : m_D k_C_wholeStatus 27 (.bipush 9) 2 := (by decide +kernel : decode prog_1_method_36_code 27 = .ok (.bipush 9, 2))
theorem d_C_wholeStatus_29 : m_D k_C_wholeStatus 29 (.goto 4) 3 := (by decide +kernel : decode prog_1_method_36_code 29 = .ok (.goto 4, 3))
theorem d_C_wholeStatus_32 : m_D k_C_wholeStatus 32 (.iconst 0) 1 := (by decide +kernel : decode prog_1_method_36_code 32 = .ok (.iconst 0, 1))
theorem d_C_wholeStatus_33 : m_D k_C_wholeStatus 33 (.ireturn) 1 := (by decide +kernel : decode prog_1_method_36_code 33 = .ok (.ireturn, 1))
def fn_C_wholeStatus (x0 : Option mA) (x1 : Int32) : mP Int32 :=
  m_th 0 x0 <|
  m_bd (fn_C_isThing x0 x1) fun v1 =>
  if v1 = 0 then
    m_rt 2
  else
    m_bd (m_gR 0 5 x0) fun v2 =>
    m_bd (m_gR 3 8 v2) fun v3 =>
    m_bd (m_aR 7 v3 x1) fun v4 =>
    m_bd (fn_Th_isThrough v4) fun v5 =>
    if v5 = 0 then
      m_rt 0
    else
      m_rt 9
set_option maxHeartbeats 4000000 in
set_option maxRecDepth 100000 in
theorem sd_C_wholeStatus (x0 : Option mA) (x1 : Int32) : m_Sm k_C_wholeStatus 2 0 0 [.inr (.inr x0), .inl x1] (fn_C_wholeStatus x0 x1) (fun b => some (.inl b)) := by
  refine ⟨Nat.le_of_ble_eq_true rfl, ?_⟩
  refine sm_th ?_
  refine sm_aload_n (i := 0) (j := 0) (pc' := 1) d_C_wholeStatus_0 rfl rfl rfl (sm_iload_n (i := 1) (j := 1) (pc' := 2) d_C_wholeStatus_1 rfl rfl rfl ?_)
  refine sm_callVi (ci := 0) (x := x0) (av := [.inl x1]) (st := []) (mc := 0) (ms := 0) (pc' := 5) d_C_wholeStatus_2 rfl (sd_C_isThing x0 x1) m_lv rfl cv_C_isThing w_ml_C_233 rfl rfl (by decide) (Nat.le_of_ble_eq_true rfl) rfl rfl (fun v1 => ?_)
  refine sm_if_ne (tgt := 12) (pc' := 8) d_C_wholeStatus_5 rfl rfl ?_ ?_
  · refine sm_aload_n (i := 0) (j := 0) (pc' := 13) d_C_wholeStatus_12 rfl rfl rfl ?_
    refine sm_getR (pc' := 16) d_C_wholeStatus_13 rfl fl_C_37 rfl rfl (fun v2 => ?_)
    refine sm_getR (pc' := 19) d_C_wholeStatus_16 rfl fl_C_236 rfl rfl (fun v3 => ?_)
    refine sm_iload_n (i := 1) (j := 1) (pc' := 20) d_C_wholeStatus_19 rfl rfl rfl ?_
    refine sm_aald (t := 7) ⟨by decide, by decide⟩ rfl (pc' := 21) d_C_wholeStatus_20 rfl (fun v4 => ?_)
    refine sm_callVi (ci := 5) (x := v4) (av := []) (st := []) (mc := 0) (ms := 0) (pc' := 24) d_C_wholeStatus_21 rfl (sd_Th_isThrough v4) m_lv rfl cv_Th_isThrough w_ml_C_260 rfl rfl (by decide) (Nat.le_of_ble_eq_true rfl) rfl rfl (fun v5 => ?_)
    refine sm_if_eq (tgt := 32) (pc' := 27) d_C_wholeStatus_24 rfl rfl ?_ ?_
    · refine sm_iconst (pc' := 33) d_C_wholeStatus_32 rfl ic_0 ?_
      exact sm_ireturn d_C_wholeStatus_33 rfl rfl
    · refine sm_bipush (pc' := 29) d_C_wholeStatus_27 rfl ib_9 (sm_goto (tgt := 33) d_C_wholeStatus_29 rfl ?_)
      exact sm_ireturn d_C_wholeStatus_33 rfl rfl
  · refine sm_iconst (pc' := 9) d_C_wholeStatus_8 rfl ic_2 (sm_goto (tgt := 33) d_C_wholeStatus_9 rfl ?_)
    exact sm_ireturn d_C_wholeStatus_33 rfl rfl
theorem d_Th_putOil_0 : m_D k_Th_putOil 0 (.aload_n 0) 1 := (by decide +kernel : decode prog_11_method_8_code 0 = .ok (.aload_n 0, 1))
theorem d_Th_putOil_1 : m_D k_Th_putOil 1 (.iconst 3) 1 := (by decide +kernel : decode prog_11_method_8_code 1 = .ok (.iconst 3, 1))
theorem d_Th_putOil_2 : m_D k_Th_putOil 2 (.putfield 25) 3 := (by decide +kernel : decode prog_11_method_8_code 2 = .ok (.putfield 25, 3))
theorem d_Th_putOil_5 : m_D k_Th_putOil 5 (.return_) 1 := (by decide +kernel : decode prog_11_method_8_code 5 = .ok (.return_, 1))
def fn_Th_putOil (x0 : Option mA) : mP Unit :=
  m_th 5 x0 <|
  m_bd (m_pI 5 4 x0 3) fun _ =>
  m_rt ()
set_option maxHeartbeats 4000000 in
set_option maxRecDepth 100000 in
theorem sd_Th_putOil (x0 : Option mA) : m_Sm k_Th_putOil 1 0 0 [.inr (.inr x0)] (fn_Th_putOil x0) (fun _ => none) := by
  refine ⟨Nat.le_of_ble_eq_true rfl, ?_⟩
  refine sm_th ?_
  refine sm_aload_n (i := 0) (j := 0) (pc' := 1) d_Th_putOil_0 rfl rfl rfl (sm_iconst (pc' := 2) d_Th_putOil_1 rfl ic_3 (sm_putI (pc' := 5) d_Th_putOil_2 rfl fl_Th_25 (Or.inl rfl) rfl ?_))
  exact sm_return d_Th_putOil_5 rfl rfl
theorem d_C_oil_0 : m_D k_C_oil 0 (.aload_n 0) 1 := (by decide +kernel : decode prog_1_method_28_code 0 = .ok (.aload_n 0, 1))
theorem d_C_oil_1 : m_D k_C_oil 1 (.aload_n 0) 1 := (by decide +kernel : decode prog_1_method_28_code 1 = .ok (.aload_n 0, 1))
theorem d_C_oil_2 : m_D k_C_oil 2 (.iload_n 1) 1 := (by decide +kernel : decode prog_1_method_28_code 2 = .ok (.iload_n 1, 1))
theorem d_C_oil_3 : m_D k_C_oil 3 (.invokevirtual 276) 3 := (by decide +kernel : decode prog_1_method_28_code 3 = .ok (.invokevirtual 276, 3))
theorem d_C_oil_6 : m_D k_C_oil 6 (.putfield 9) 3 := (by decide +kernel : decode prog_1_method_28_code 6 = .ok (.putfield 9, 3))
theorem d_C_oil_9 : m_D k_C_oil 9 (.aload_n 0) 1 := (by decide +kernel : decode prog_1_method_28_code 9 = .ok (.aload_n 0, 1))
theorem d_C_oil_10 : m_D k_C_oil 10 (.getfield 9) 3 := (by decide +kernel : decode prog_1_method_28_code 10 = .ok (.getfield 9, 3))
theorem d_C_oil_13 : m_D k_C_oil 13 (.ifCond .eq 5) 3 := (by decide +kernel : decode prog_1_method_28_code 13 = .ok (.ifCond .eq 5, 3))
theorem d_C_oil_16 : m_D k_C_oil 16 (.iconst (-1)) 1 := (by decide +kernel : decode prog_1_method_28_code 16 = .ok (.iconst (-1), 1))
theorem d_C_oil_17 : m_D k_C_oil 17 (.ireturn) 1 := (by decide +kernel : decode prog_1_method_28_code 17 = .ok (.ireturn, 1))
theorem d_C_oil_18 : m_D k_C_oil 18 (.aload_n 0) 1 := (by decide +kernel : decode prog_1_method_28_code 18 = .ok (.aload_n 0, 1))
theorem d_C_oil_19 : m_D k_C_oil 19 (.getfield 37) 3 := (by decide +kernel : decode prog_1_method_28_code 19 = .ok (.getfield 37, 3))
theorem d_C_oil_22 : m_D k_C_oil 22 (.getfield 236) 3 := (by decide +kernel : decode prog_1_method_28_code 22 = .ok (.getfield 236, 3))
theorem d_C_oil_25 : m_D k_C_oil 25 (.iload_n 1) 1 := (by decide +kernel : decode prog_1_method_28_code 25 = .ok (.iload_n 1, 1))
theorem d_C_oil_26 : m_D k_C_oil 26 (.aaload) 1 := (by decide +kernel : decode prog_1_method_28_code 26 = .ok (.aaload, 1))
theorem d_C_oil_27 : m_D k_C_oil 27 (.invokevirtual 279) 3 := (by decide +kernel : decode prog_1_method_28_code 27 = .ok (.invokevirtual 279, 3))
theorem d_C_oil_30 : m_D k_C_oil 30 (.aload_n 0) 1 := (by decide +kernel : decode prog_1_method_28_code 30 = .ok (.aload_n 0, 1))
theorem d_C_oil_31 : m_D k_C_oil 31 (.getfield 37) 3 := (by decide +kernel : decode prog_1_method_28_code 31 = .ok (.getfield 37, 3))
theorem d_C_oil_34 : m_D k_C_oil 34 (.getfield 236) 3 := (by decide +kernel : decode prog_1_method_28_code 34 = .ok (.getfield 236, 3))
theorem d_C_oil_37 : m_D k_C_oil 37 (.iload_n 1) 1 := (by decide +kernel : decode prog_1_method_28_code 37 = .ok (.iload_n 1, 1))
theorem d_C_oil_38 : m_D k_C_oil 38 (.aaload) 1 := (by decide +kernel : decode prog_1_method_28_code 38 = .ok (.aaload, 1))
theorem d_C_oil_39 : m_D k_C_oil 39 (.getfield 251) 3 := (by decide +kernel : decode prog_1_method_28_code 39 = .ok (.getfield 251, 3))
theorem d_C_oil_42 : m_D k_C_oil 42 (.ireturn) 1 := (by decide +kernel : decode prog_1_method_28_code 42 = .ok (.ireturn, 1))
def fn_C_oil (x0 : Option mA) (x1 : Int32) : mP Int32 :=
  m_th 0 x0 <|
  m_bd (fn_C_wholeStatus x0 x1) fun v1 =>
  m_bd (m_pI 0 0 x0 v1) fun _ =>
  m_bd (m_gI 0 0 x0) fun v2 =>
  if v2 = 0 then
    m_bd (m_gR 0 5 x0) fun v3 =>
    m_bd (m_gR 3 8 v3) fun v4 =>
    m_bd (m_aR 7 v4 x1) fun v5 =>
    m_bd (fn_Th_putOil v5) fun _ =>
    m_bd (m_gR 0 5 x0) fun v6 =>
    m_bd (m_gR 3 8 v6) fun v7 =>
    m_bd (m_aR 7 v7 x1) fun v8 =>
    m_bd (m_gI 5 4 v8) fun v9 =>
    m_rt v9
  else
    m_rt (-1)
set_option maxHeartbeats 4000000 in
set_option maxRecDepth 100000 in
theorem sd_C_oil (x0 : Option mA) (x1 : Int32) : m_Sm k_C_oil 3 0 0 [.inr (.inr x0), .inl x1] (fn_C_oil x0 x1) (fun b => some (.inl b)) := by
  refine ⟨Nat.le_of_ble_eq_true rfl, ?_⟩
  refine sm_th ?_
  refine sm_aload_n (i := 0) (j := 0) (pc' := 1) d_C_oil_0 rfl rfl rfl (sm_aload_n (i := 0) (j := 0) (pc' := 2) d_C_oil_1 rfl rfl rfl (sm_iload_n (i := 1) (j := 1) (pc' := 3) d_C_oil_2 rfl rfl rfl ?_))
  refine sm_callVi (ci := 0) (x := x0) (av := [.inl x1]) (st := [.inr (.inr x0)]) (mc := 0) (ms := 0) (pc' := 6) d_C_oil_3 rfl (sd_C_wholeStatus x0 x1) m_lv rfl cv_C_wholeStatus w_ml_C_276 rfl rfl (by decide) (Nat.le_of_ble_eq_true rfl) rfl rfl (fun v1 => ?_)
  refine sm_putI (pc' := 9) d_C_oil_6 rfl fl_C_9 (Or.inl rfl) rfl (sm_aload_n (i := 0) (j := 0) (pc' := 10) d_C_oil_9 rfl rfl rfl ?_)
  refine sm_getI (pc' := 13) d_C_oil_10 rfl fl_C_9 rfl ⟨by decide, by decide⟩ (fun v2 => ?_)
  refine sm_if_eq (tgt := 18) (pc' := 16) d_C_oil_13 rfl rfl ?_ ?_
  · refine sm_aload_n (i := 0) (j := 0) (pc' := 19) d_C_oil_18 rfl rfl rfl ?_
    refine sm_getR (pc' := 22) d_C_oil_19 rfl fl_C_37 rfl rfl (fun v3 => ?_)
    refine sm_getR (pc' := 25) d_C_oil_22 rfl fl_C_236 rfl rfl (fun v4 => ?_)
    refine sm_iload_n (i := 1) (j := 1) (pc' := 26) d_C_oil_25 rfl rfl rfl ?_
    refine sm_aald (t := 7) ⟨by decide, by decide⟩ rfl (pc' := 27) d_C_oil_26 rfl (fun v5 => ?_)
    refine sm_callVv (ci := 5) (x := v5) (av := []) (st := []) (mc := 0) (ms := 0) (pc' := 30) d_C_oil_27 rfl (sd_Th_putOil v5) m_lv rfl cv_Th_putOil w_ml_C_279 rfl rfl (by decide) (Nat.le_of_ble_eq_true rfl) rfl rfl ?_
    refine sm_aload_n (i := 0) (j := 0) (pc' := 31) d_C_oil_30 rfl rfl rfl ?_
    refine sm_getR (pc' := 34) d_C_oil_31 rfl fl_C_37 rfl rfl (fun v6 => ?_)
    refine sm_getR (pc' := 37) d_C_oil_34 rfl fl_C_236 rfl rfl (fun v7 => ?_)
    refine sm_iload_n (i := 1) (j := 1) (pc' := 38) d_C_oil_37 rfl rfl rfl ?_
    refine sm_aald (t := 7) ⟨by decide, by decide⟩ rfl (pc' := 39) d_C_oil_38 rfl (fun v8 => ?_)
    refine sm_getI (pc' := 42) d_C_oil_39 rfl fl_C_251 rfl ⟨by decide, by decide⟩ (fun v9 => ?_)
    exact sm_ireturn d_C_oil_42 rfl rfl
  · refine sm_iconst (pc' := 17) d_C_oil_16 rfl ic_m1 ?_
    exact sm_ireturn d_C_oil_17 rfl rfl
theorem d_Th_putCoat_0 : m_D k_Th_putCoat 0 (.aload_n 0) 1 := (by decide +kernel : decode prog_11_method_9_code 0 = .ok (.aload_n 0, 1))
theorem d_Th_putCoat_1 : m_D k_Th_putCoat 1 (.sipush 999) 3 := (by decide +kernel : decode prog_11_method_9_code 1 = .ok (.sipush 999, 3))
theorem d_Th_putCoat_4 : m_D k_Th_putCoat 4 (.aload_n 0) 1 := (by decide +kernel : decode prog_11_method_9_code 4 = .ok (.aload_n 0, 1))
theorem d_Th_putCoat_5 : m_D k_Th_putCoat 5 (.getfield 19) 3 := (by decide +kernel : decode prog_11_method_9_code 5 = .ok (.getfield 19, 3))
theorem d_Th_putCoat_8 : m_D k_Th_putCoat 8 (.iload_n 1) 1 := (by decide +kernel : decode prog_11_method_9_code 8 = .ok (.iload_n 1, 1))
theorem d_Th_putCoat_9 : m_D k_Th_putCoat 9 (.iadd) 1 := (by decide +kernel : decode prog_11_method_9_code 9 = .ok (.iadd, 1))
theorem d_Th_putCoat_10 : m_D k_Th_putCoat 10 (.invokestatic 40) 3 := (by decide +kernel : decode prog_11_method_9_code 10 = .ok (.invokestatic 40, 3))
theorem d_Th_putCoat_13 : m_D k_Th_putCoat 13 (.putfield 19) 3 := (by decide +kernel : decode prog_11_method_9_code 13 = .ok (.putfield 19, 3))
theorem d_Th_putCoat_16 : m_D k_Th_putCoat 16 (.return_) 1 := (by decide +kernel : decode prog_11_method_9_code 16 = .ok (.return_, 1))
def fn_Th_putCoat (x0 : Option mA) (x1 : Int32) : mP Unit :=
  m_th 5 x0 <|
  m_bd (m_gI 5 2 x0) fun v1 =>
  m_bd (m_pI 5 2 x0 (iMin 999 (v1 + x1))) fun _ =>
  m_rt ()
set_option maxHeartbeats 4000000 in
set_option maxRecDepth 100000 in
theorem sd_Th_putCoat (x0 : Option mA) (x1 : Int32) : m_Sm k_Th_putCoat 1 0 0 [.inr (.inr x0), .inl x1] (fn_Th_putCoat x0 x1) (fun _ => none) := by
  refine ⟨Nat.le_of_ble_eq_true rfl, ?_⟩
  refine sm_th ?_
  refine sm_aload_n (i := 0) (j := 0) (pc' := 1) d_Th_putCoat_0 rfl rfl rfl (sm_sipush (pc' := 4) d_Th_putCoat_1 rfl is_999 (sm_aload_n (i := 0) (j := 0) (pc' := 5) d_Th_putCoat_4 rfl rfl rfl ?_))
  refine sm_getI (pc' := 8) d_Th_putCoat_5 rfl fl_Th_19 rfl ⟨by decide, by decide⟩ (fun v1 => ?_)
  refine sm_iload_n (i := 1) (j := 1) (pc' := 9) d_Th_putCoat_8 rfl rfl rfl (sm_iadd (pc' := 10) d_Th_putCoat_9 rfl (sm_mmin (pc' := 13) d_Th_putCoat_10 rfl w_ml_Th_40 (by decide) (Nat.le_of_ble_eq_true rfl) (sm_putI (pc' := 16) d_Th_putCoat_13 rfl fl_Th_19 (Or.inl rfl) rfl ?_)))
  exact sm_return d_Th_putCoat_16 rfl rfl
theorem d_C_coat_0 : m_D k_C_coat 0 (.aload_n 0) 1 := (by decide +kernel : decode prog_1_method_29_code 0 = .ok (.aload_n 0, 1))
theorem d_C_coat_1 : m_D k_C_coat 1 (.aload_n 0) 1 := (by decide +kernel : decode prog_1_method_29_code 1 = .ok (.aload_n 0, 1))
theorem d_C_coat_2 : m_D k_C_coat 2 (.iload_n 1) 1 := (by decide +kernel : decode prog_1_method_29_code 2 = .ok (.iload_n 1, 1))
theorem d_C_coat_3 : m_D k_C_coat 3 (.invokevirtual 233) 3 := (by decide +kernel : decode prog_1_method_29_code 3 = .ok (.invokevirtual 233, 3))
theorem d_C_coat_6 : m_D k_C_coat 6 (.ifCond .ne 7) 3 := (by decide +kernel : decode prog_1_method_29_code 6 = .ok (.ifCond .ne 7, 3))
theorem d_C_coat_9 : m_D k_C_coat 9 (.iconst 2) 1 := (by decide +kernel : decode prog_1_method_29_code 9 = .ok (.iconst 2, 1))
theorem d_C_coat_10 : m_D k_C_coat 10 (.goto 23) 3 := (by decide +kernel : decode prog_1_method_29_code 10 = .ok (.goto 23, 3))
theorem d_C_coat_13 : m_D k_C_coat 13 (.iload_n 2) 1 := (by decide +kernel : decode prog_1_method_29_code 13 = .ok (.iload_n 2, 1))
theorem d_C_coat_14 : m_D k_C_coat 14 (.iconst 1) 1 := (by decide +kernel : decode prog_1_method_29_code 14 = .ok (.iconst 1, 1))
theorem d_C_coat_15 : m_D k_C_coat 15 (.sipush 999) 3 := (by decide +kernel : decode prog_1_method_29_code 15 = .ok (.sipush 999, 3))
theorem d_C_coat_18 : m_D k_C_coat 18 (.invokestatic 269) 3 := (by decide +kernel : decode prog_1_method_29_code 18 = .ok (.invokestatic 269, 3))
theorem d_C_coat_21 : m_D k_C_coat 21 (.ifCond .ne 7) 3 := (by decide +kernel : decode prog_1_method_29_code 21 = .ok (.ifCond .ne 7, 3))
theorem d_C_coat_24 : m_D k_C_coat 24 (.iconst 5) 1 := (by decide +kernel : decode prog_1_method_29_code 24 = .ok (.iconst 5, 1))
theorem d_C_coat_25 : m_D k_C_coat 25 (.goto 8) 3 := (by decide +kernel : decode prog_1_method_29_code 25 = .ok (.goto 8, 3))
theorem d_C_coat_28 : m_D k_C_coat 28 (.aload_n 0) 1 := (by decide +kernel : decode prog_1_method_29_code 28 = .ok (.aload_n 0, 1))
theorem d_C_coat_29 : m_D k_C_coat 29 (.iload_n 1) 1 := (by decide +kernel : decode prog_1_method_29_code 29 = .ok (.iload_n 1, 1))
theorem d_C_coat_30 : m_D k_C_coat 30 (.invokevirtual 276) 3 := (by decide +kernel : decode prog_1_method_29_code 30 = .ok (.invokevirtual 276, 3))
theorem d_C_coat_33 : m_D k_C_coat 33 (.putfield 9) 3 := (by decide +kernel : decode prog_1_method_29_code 33 = .ok (.putfield 9, 3))
theorem d_C_coat_36 : m_D k_C_coat 36 (.aload_n 0) 1 := (by decide +kernel : decode prog_1_method_29_code 36 = .ok (.aload_n 0, 1))
theorem d_C_coat_37 : m_D k_C_coat 37 (.getfield 9) 3 := (by decide +kernel : decode prog_1_method_29_code 37 = .ok (.getfield 9, 3))
theorem d_C_coat_40 : m_D k_C_coat 40 (.ifCond .eq 5) 3 := (by decide +kernel : decode prog_1_method_29_code 40 = .ok (.ifCond .eq 5, 3))
theorem d_C_coat_43 : m_D k_C_coat 43 (.iconst (-1)) 1 := (by decide +kernel : decode prog_1_method_29_code 43 = .ok (.iconst (-1), 1))
theorem d_C_coat_44 : m_D k_C_coat 44 (.ireturn) 1 := (by decide +kernel : decode prog_1_method_29_code 44 = .ok (.ireturn, 1))
theorem d_C_coat_45 : m_D k_C_coat 45 (.aload_n 0) 1 := (by decide +kernel : decode prog_1_method_29_code 45 = .ok (.aload_n 0, 1))
theorem d_C_coat_46 : m_D k_C_coat 46 (.getfield 37) 3 := (by decide +kernel : decode prog_1_method_29_code 46 = .ok (.getfield 37, 3))
theorem d_C_coat_49 : m_D k_C_coat 49 (.getfield 236) 3 := (by decide +kernel : decode prog_1_method_29_code 49 = .ok (.getfield 236, 3))
theorem d_C_coat_52 : m_D k_C_coat 52 (.iload_n 1) 1 := (by decide +kernel : decode prog_1_method_29_code 52 = .ok (.iload_n 1, 1))
theorem d_C_coat_53 : m_D k_C_coat 53 (.aaload) 1 := (by decide +kernel : decode prog_1_method_29_code 53 = .ok (.aaload, 1))
theorem d_C_coat_54 : m_D k_C_coat 54 (.iload_n 2) 1 := (by decide +kernel : decode prog_1_method_29_code 54 = .ok (.iload_n 2, 1))
theorem d_C_coat_55 : m_D k_C_coat 55 (.invokevirtual 282) 3 := (by decide +kernel : decode prog_1_method_29_code 55 = .ok (.invokevirtual 282, 3))
theorem d_C_coat_58 : m_D k_C_coat 58 (.aload_n 0) 1 := (by decide +kernel : decode prog_1_method_29_code 58 = .ok (.aload_n 0, 1))
theorem d_C_coat_59 : m_D k_C_coat 59 (.getfield 37) 3 := (by decide +kernel : decode prog_1_method_29_code 59 = .ok (.getfield 37, 3))
theorem d_C_coat_62 : m_D k_C_coat 62 (.getfield 236) 3 := (by decide +kernel : decode prog_1_method_29_code 62 = .ok (.getfield 236, 3))
theorem d_C_coat_65 : m_D k_C_coat 65 (.iload_n 1) 1 := (by decide +kernel : decode prog_1_method_29_code 65 = .ok (.iload_n 1, 1))
theorem d_C_coat_66 : m_D k_C_coat 66 (.aaload) 1 := (by decide +kernel : decode prog_1_method_29_code 66 = .ok (.aaload, 1))
theorem d_C_coat_67 : m_D k_C_coat 67 (.getfield 245) 3 := (by decide +kernel : decode prog_1_method_29_code 67 = .ok (.getfield 245, 3))
theorem d_C_coat_70 : m_D k_C_coat 70 (.ireturn) 1 := (by decide +kernel : decode prog_1_method_29_code 70 = .ok (.ireturn, 1))
def fn_C_coat (x0 : Option mA) (x1 : Int32) (x2 : Int32) : mP Int32 :=
  m_th 0 x0 <|
  m_bd (fn_C_isThing x0 x1) fun v1 =>
  m_bd (α := Int32) (
    if v1 = 0 then
      m_rt 2
    else
      m_bd (fn_C_isWithin x2 1 999) fun v2 =>
      if v2 = 0 then
        m_rt 5
      else
        m_bd (fn_C_wholeStatus x0 x1) fun v3 =>
        m_rt v3
    ) fun (t4 : Int32) =>
  m_bd (m_pI 0 0 x0 t4) fun _ =>
  m_bd (m_gI 0 0 x0) fun v5 =>
  if v5 = 0 then
    m_bd (m_gR 0 5 x0) fun v6 =>
    m_bd (m_gR 3 8 v6) fun v7 =>
    m_bd (m_aR 7 v7 x1) fun v8 =>
    m_bd (fn_Th_putCoat v8 x2) fun _ =>
    m_bd (m_gR 0 5 x0) fun v9 =>
    m_bd (m_gR 3 8 v9) fun v10 =>
    m_bd (m_aR 7 v10 x1) fun v11 =>
    m_bd (m_gI 5 2 v11) fun v12 =>
    m_rt v12
  else
    m_rt (-1)
set_option maxHeartbeats 4000000 in
set_option maxRecDepth 100000 in
theorem sd_C_coat (x0 : Option mA) (x1 : Int32) (x2 : Int32) : m_Sm k_C_coat 3 0 0 [.inr (.inr x0), .inl x1, .inl x2] (fn_C_coat x0 x1 x2) (fun b => some (.inl b)) := by
  refine ⟨Nat.le_of_ble_eq_true rfl, ?_⟩
  refine sm_th ?_
  refine sm_aload_n (i := 0) (j := 0) (pc' := 1) d_C_coat_0 rfl rfl rfl (sm_aload_n (i := 0) (j := 0) (pc' := 2) d_C_coat_1 rfl rfl rfl (sm_iload_n (i := 1) (j := 1) (pc' := 3) d_C_coat_2 rfl rfl rfl ?_))
  refine sm_callVi (ci := 0) (x := x0) (av := [.inl x1]) (st := [.inr (.inr x0)]) (mc := 0) (ms := 0) (pc' := 6) d_C_coat_3 rfl (sd_C_isThing x0 x1) m_lv rfl cv_C_isThing w_ml_C_233 rfl rfl (by decide) (Nat.le_of_ble_eq_true rfl) rfl rfl (fun v1 => ?_)
  refine sm_bd (mid := fun (t4 : Int32) => .inl (33, [(0, .inr (.inr x0)), (1, .inl x1), (2, .inl x2)], [.inl t4, .inr (.inr x0)])) ?_ (fun t4 => ?_)
  · refine sm_if_ne (tgt := 13) (pc' := 9) d_C_coat_6 rfl rfl ?_ ?_
    · refine sm_iload_n (i := 2) (j := 2) (pc' := 14) d_C_coat_13 rfl rfl rfl (sm_iconst (pc' := 15) d_C_coat_14 rfl ic_1 (sm_sipush (pc' := 18) d_C_coat_15 rfl is_999 ?_))
      refine sm_callSi (av := [.inl x2, .inl 1, .inl 999]) (st := [.inr (.inr x0)]) (mc := 0) (ms := 0) (pc' := 21) d_C_coat_18 rfl (sd_C_isWithin x2 1 999) cs_C_isWithin w_ml_C_269 rfl rfl (by decide) (Nat.le_of_ble_eq_true rfl) rfl rfl (fun v2 => ?_)
      refine sm_if_ne (tgt := 28) (pc' := 24) d_C_coat_21 rfl rfl ?_ ?_
      · refine sm_aload_n (i := 0) (j := 0) (pc' := 29) d_C_coat_28 rfl rfl rfl (sm_iload_n (i := 1) (j := 1) (pc' := 30) d_C_coat_29 rfl rfl rfl ?_)
        refine sm_callVi (ci := 0) (x := x0) (av := [.inl x1]) (st := [.inr (.inr x0)]) (mc := 0) (ms := 0) (pc' := 33) d_C_coat_30 rfl (sd_C_wholeStatus x0 x1) m_lv rfl cv_C_wholeStatus w_ml_C_276 rfl rfl (by decide) (Nat.le_of_ble_eq_true rfl) rfl rfl (fun v3 => ?_)
        refine sm_sub [0, 1, 2] rfl ?_
        exact sm_rt rfl
      · refine sm_iconst (pc' := 25) d_C_coat_24 rfl ic_5 (sm_goto (tgt := 33) d_C_coat_25 rfl (sm_sub [0, 1, 2] rfl ?_))
        exact sm_rt rfl
    · refine sm_iconst (pc' := 10) d_C_coat_9 rfl ic_2 (sm_goto (tgt := 33) d_C_coat_10 rfl (sm_sub [0, 1, 2] rfl ?_))
      exact sm_rt rfl
  · refine sm_putI (pc' := 36) d_C_coat_33 rfl fl_C_9 (Or.inl rfl) rfl (sm_aload_n (i := 0) (j := 0) (pc' := 37) d_C_coat_36 rfl rfl rfl ?_)
    refine sm_getI (pc' := 40) d_C_coat_37 rfl fl_C_9 rfl ⟨by decide, by decide⟩ (fun v5 => ?_)
    refine sm_if_eq (tgt := 45) (pc' := 43) d_C_coat_40 rfl rfl ?_ ?_
    · refine sm_aload_n (i := 0) (j := 0) (pc' := 46) d_C_coat_45 rfl rfl rfl ?_
      refine sm_getR (pc' := 49) d_C_coat_46 rfl fl_C_37 rfl rfl (fun v6 => ?_)
      refine sm_getR (pc' := 52) d_C_coat_49 rfl fl_C_236 rfl rfl (fun v7 => ?_)
      refine sm_iload_n (i := 1) (j := 1) (pc' := 53) d_C_coat_52 rfl rfl rfl ?_
      refine sm_aald (t := 7) ⟨by decide, by decide⟩ rfl (pc' := 54) d_C_coat_53 rfl (fun v8 => ?_)
      refine sm_iload_n (i := 2) (j := 2) (pc' := 55) d_C_coat_54 rfl rfl rfl ?_
      refine sm_callVv (ci := 5) (x := v8) (av := [.inl x2]) (st := []) (mc := 0) (ms := 0) (pc' := 58) d_C_coat_55 rfl (sd_Th_putCoat v8 x2) m_lv rfl cv_Th_putCoat w_ml_C_282 rfl rfl (by decide) (Nat.le_of_ble_eq_true rfl) rfl rfl ?_
      refine sm_aload_n (i := 0) (j := 0) (pc' := 59) d_C_coat_58 rfl rfl rfl ?_
      refine sm_getR (pc' := 62) d_C_coat_59 rfl fl_C_37 rfl rfl (fun v9 => ?_)
      refine sm_getR (pc' := 65) d_C_coat_62 rfl fl_C_236 rfl rfl (fun v10 => ?_)
      refine sm_iload_n (i := 1) (j := 1) (pc' := 66) d_C_coat_65 rfl rfl rfl ?_
      refine sm_aald (t := 7) ⟨by decide, by decide⟩ rfl (pc' := 67) d_C_coat_66 rfl (fun v11 => ?_)
      refine sm_getI (pc' := 70) d_C_coat_67 rfl fl_C_245 rfl ⟨by decide, by decide⟩ (fun v12 => ?_)
      exact sm_ireturn d_C_coat_70 rfl rfl
    · refine sm_iconst (pc' := 44) d_C_coat_43 rfl ic_m1 ?_
      exact sm_ireturn d_C_coat_44 rfl rfl
theorem d_Th_halveRust_0 : m_D k_Th_halveRust 0 (.aload_n 0) 1 := (by decide +kernel : decode prog_11_method_10_code 0 = .ok (.aload_n 0, 1))
theorem d_Th_halveRust_1 : m_D k_Th_halveRust 1 (.aload_n 0) 1 := (by decide +kernel : decode prog_11_method_10_code 1 = .ok (.aload_n 0, 1))
theorem d_Th_halveRust_2 : m_D k_Th_halveRust 2 (.getfield 22) 3 := (by decide +kernel : decode prog_11_method_10_code 2 = .ok (.getfield 22, 3))
theorem d_Th_halveRust_5 : m_D k_Th_halveRust 5 (.iconst 2) 1 := (by decide +kernel : decode prog_11_method_10_code 5 = .ok (.iconst 2, 1))
theorem d_Th_halveRust_6 : m_D k_Th_halveRust 6 (.idiv) 1 := (by decide +kernel : decode prog_11_method_10_code 6 = .ok (.idiv, 1))
theorem d_Th_halveRust_7 : m_D k_Th_halveRust 7 (.putfield 22) 3 := (by decide +kernel : decode prog_11_method_10_code 7 = .ok (.putfield 22, 3))
theorem d_Th_halveRust_10 : m_D k_Th_halveRust 10 (.return_) 1 := (by decide +kernel : decode prog_11_method_10_code 10 = .ok (.return_, 1))
def fn_Th_halveRust (x0 : Option mA) : mP Unit :=
  m_th 5 x0 <|
  m_bd (m_gI 5 3 x0) fun v1 =>
  m_bd (m_pI 5 3 x0 (v1 / 2)) fun _ =>
  m_rt ()
set_option maxHeartbeats 4000000 in
set_option maxRecDepth 100000 in
theorem sd_Th_halveRust (x0 : Option mA) : m_Sm k_Th_halveRust 1 0 0 [.inr (.inr x0)] (fn_Th_halveRust x0) (fun _ => none) := by
  refine ⟨Nat.le_of_ble_eq_true rfl, ?_⟩
  refine sm_th ?_
  refine sm_aload_n (i := 0) (j := 0) (pc' := 1) d_Th_halveRust_0 rfl rfl rfl (sm_aload_n (i := 0) (j := 0) (pc' := 2) d_Th_halveRust_1 rfl rfl rfl ?_)
  refine sm_getI (pc' := 5) d_Th_halveRust_2 rfl fl_Th_22 rfl ⟨by decide, by decide⟩ (fun v1 => ?_)
  refine sm_iconst (pc' := 6) d_Th_halveRust_5 rfl ic_2 (sm_idiv (pc' := 7) d_Th_halveRust_6 rfl (by decide) (sm_putI (pc' := 10) d_Th_halveRust_7 rfl fl_Th_22 (Or.inl rfl) rfl ?_))
  exact sm_return d_Th_halveRust_10 rfl rfl
theorem d_C_mend_0 : m_D k_C_mend 0 (.aload_n 0) 1 := (by decide +kernel : decode prog_1_method_30_code 0 = .ok (.aload_n 0, 1))
theorem d_C_mend_1 : m_D k_C_mend 1 (.aload_n 0) 1 := (by decide +kernel : decode prog_1_method_30_code 1 = .ok (.aload_n 0, 1))
theorem d_C_mend_2 : m_D k_C_mend 2 (.iload_n 1) 1 := (by decide +kernel : decode prog_1_method_30_code 2 = .ok (.iload_n 1, 1))
theorem d_C_mend_3 : m_D k_C_mend 3 (.invokevirtual 276) 3 := (by decide +kernel : decode prog_1_method_30_code 3 = .ok (.invokevirtual 276, 3))
theorem d_C_mend_6 : m_D k_C_mend 6 (.putfield 9) 3 := (by decide +kernel : decode prog_1_method_30_code 6 = .ok (.putfield 9, 3))
theorem d_C_mend_9 : m_D k_C_mend 9 (.aload_n 0) 1 := (by decide +kernel : decode prog_1_method_30_code 9 = .ok (.aload_n 0, 1))
theorem d_C_mend_10 : m_D k_C_mend 10 (.getfield 9) 3 := (by decide +kernel : decode prog_1_method_30_code 10 = .ok (.getfield 9, 3))
theorem d_C_mend_13 : m_D k_C_mend 13 (.ifCond .eq 5) 3 := (by decide +kernel : decode prog_1_method_30_code 13 = .ok (.ifCond .eq 5, 3))
theorem d_C_mend_16 : m_D k_C_mend 16 (.iconst (-1)) 1 := (by decide +kernel : decode prog_1_method_30_code 16 = .ok (.iconst (-1), 1))
theorem d_C_mend_17 : m_D k_C_mend 17 (.ireturn) 1 := (by decide +kernel : decode prog_1_method_30_code 17 = .ok (.ireturn, 1))
theorem d_C_mend_18 : m_D k_C_mend 18 (.aload_n 0) 1 := (by decide +kernel : decode prog_1_method_30_code 18 = .ok (.aload_n 0, 1))
theorem d_C_mend_19 : m_D k_C_mend 19 (.getfield 37) 3 := (by decide +kernel : decode prog_1_method_30_code 19 = .ok (.getfield 37, 3))
theorem d_C_mend_22 : m_D k_C_mend 22 (.getfield 236) 3 := (by decide +kernel : decode prog_1_method_30_code 22 = .ok (.getfield 236, 3))
theorem d_C_mend_25 : m_D k_C_mend 25 (.iload_n 1) 1 := (by decide +kernel : decode prog_1_method_30_code 25 = .ok (.iload_n 1, 1))
theorem d_C_mend_26 : m_D k_C_mend 26 (.aaload) 1 := (by decide +kernel : decode prog_1_method_30_code 26 = .ok (.aaload, 1))
theorem d_C_mend_27 : m_D k_C_mend 27 (.invokevirtual 285) 3 := (by decide +kernel : decode prog_1_method_30_code 27 = .ok (.invokevirtual 285, 3))
theorem d_C_mend_30 : m_D k_C_mend 30 (.aload_n 0) 1 := (by decide +kernel : decode prog_1_method_30_code 30 = .ok (.aload_n 0, 1))
theorem d_C_mend_31 : m_D k_C_mend 31 (.getfield 37) 3 := (by decide +kernel : decode prog_1_method_30_code 31 = .ok (.getfield 37, 3))
theorem d_C_mend_34 : m_D k_C_mend 34 (.getfield 236) 3 := (by decide +kernel : decode prog_1_method_30_code 34 = .ok (.getfield 236, 3))
theorem d_C_mend_37 : m_D k_C_mend 37 (.iload_n 1) 1 := (by decide +kernel : decode prog_1_method_30_code 37 = .ok (.iload_n 1, 1))
theorem d_C_mend_38 : m_D k_C_mend 38 (.aaload) 1 := (by decide +kernel : decode prog_1_method_30_code 38 = .ok (.aaload, 1))
theorem d_C_mend_39 : m_D k_C_mend 39 (.getfield 248) 3 := (by decide +kernel : decode prog_1_method_30_code 39 = .ok (.getfield 248, 3))
theorem d_C_mend_42 : m_D k_C_mend 42 (.ireturn) 1 := (by decide +kernel : decode prog_1_method_30_code 42 = .ok (.ireturn, 1))
def fn_C_mend (x0 : Option mA) (x1 : Int32) : mP Int32 :=
  m_th 0 x0 <|
  m_bd (fn_C_wholeStatus x0 x1) fun v1 =>
  m_bd (m_pI 0 0 x0 v1) fun _ =>
  m_bd (m_gI 0 0 x0) fun v2 =>
  if v2 = 0 then
    m_bd (m_gR 0 5 x0) fun v3 =>
    m_bd (m_gR 3 8 v3) fun v4 =>
    m_bd (m_aR 7 v4 x1) fun v5 =>
    m_bd (fn_Th_halveRust v5) fun _ =>
    m_bd (m_gR 0 5 x0) fun v6 =>
    m_bd (m_gR 3 8 v6) fun v7 =>
    m_bd (m_aR 7 v7 x1) fun v8 =>
    m_bd (m_gI 5 3 v8) fun v9 =>
    m_rt v9
  else
    m_rt (-1)
set_option maxHeartbeats 4000000 in
set_option maxRecDepth 100000 in
theorem sd_C_mend (x0 : Option mA) (x1 : Int32) : m_Sm k_C_mend 3 0 0 [.inr (.inr x0), .inl x1] (fn_C_mend x0 x1) (fun b => some (.inl b)) := by
  refine ⟨Nat.le_of_ble_eq_true rfl, ?_⟩
  refine sm_th ?_
  refine sm_aload_n (i := 0) (j := 0) (pc' := 1) d_C_mend_0 rfl rfl rfl (sm_aload_n (i := 0) (j := 0) (pc' := 2) d_C_mend_1 rfl rfl rfl (sm_iload_n (i := 1) (j := 1) (pc' := 3) d_C_mend_2 rfl rfl rfl ?_))
  refine sm_callVi (ci := 0) (x := x0) (av := [.inl x1]) (st := [.inr (.inr x0)]) (mc := 0) (ms := 0) (pc' := 6) d_C_mend_3 rfl (sd_C_wholeStatus x0 x1) m_lv rfl cv_C_wholeStatus w_ml_C_276 rfl rfl (by decide) (Nat.le_of_ble_eq_true rfl) rfl rfl (fun v1 => ?_)
  refine sm_putI (pc' := 9) d_C_mend_6 rfl fl_C_9 (Or.inl rfl) rfl (sm_aload_n (i := 0) (j := 0) (pc' := 10) d_C_mend_9 rfl rfl rfl ?_)
  refine sm_getI (pc' := 13) d_C_mend_10 rfl fl_C_9 rfl ⟨by decide, by decide⟩ (fun v2 => ?_)
  refine sm_if_eq (tgt := 18) (pc' := 16) d_C_mend_13 rfl rfl ?_ ?_
  · refine sm_aload_n (i := 0) (j := 0) (pc' := 19) d_C_mend_18 rfl rfl rfl ?_
    refine sm_getR (pc' := 22) d_C_mend_19 rfl fl_C_37 rfl rfl (fun v3 => ?_)
    refine sm_getR (pc' := 25) d_C_mend_22 rfl fl_C_236 rfl rfl (fun v4 => ?_)
    refine sm_iload_n (i := 1) (j := 1) (pc' := 26) d_C_mend_25 rfl rfl rfl ?_
    refine sm_aald (t := 7) ⟨by decide, by decide⟩ rfl (pc' := 27) d_C_mend_26 rfl (fun v5 => ?_)
    refine sm_callVv (ci := 5) (x := v5) (av := []) (st := []) (mc := 0) (ms := 0) (pc' := 30) d_C_mend_27 rfl (sd_Th_halveRust v5) m_lv rfl cv_Th_halveRust w_ml_C_285 rfl rfl (by decide) (Nat.le_of_ble_eq_true rfl) rfl rfl ?_
    refine sm_aload_n (i := 0) (j := 0) (pc' := 31) d_C_mend_30 rfl rfl rfl ?_
    refine sm_getR (pc' := 34) d_C_mend_31 rfl fl_C_37 rfl rfl (fun v6 => ?_)
    refine sm_getR (pc' := 37) d_C_mend_34 rfl fl_C_236 rfl rfl (fun v7 => ?_)
    refine sm_iload_n (i := 1) (j := 1) (pc' := 38) d_C_mend_37 rfl rfl rfl ?_
    refine sm_aald (t := 7) ⟨by decide, by decide⟩ rfl (pc' := 39) d_C_mend_38 rfl (fun v8 => ?_)
    refine sm_getI (pc' := 42) d_C_mend_39 rfl fl_C_248 rfl ⟨by decide, by decide⟩ (fun v9 => ?_)
    exact sm_ireturn d_C_mend_42 rfl rfl
  · refine sm_iconst (pc' := 17) d_C_mend_16 rfl ic_m1 ?_
    exact sm_ireturn d_C_mend_17 rfl rfl
theorem d_Th_takeBreath_0 : m_D k_Th_takeBreath 0 (.aload_n 0) 1 := (by decide +kernel : decode prog_11_method_7_code 0 = .ok (.aload_n 0, 1))
theorem d_Th_takeBreath_1 : m_D k_Th_takeBreath 1 (.sipush 999) 3 := (by decide +kernel : decode prog_11_method_7_code 1 = .ok (.sipush 999, 3))
theorem d_Th_takeBreath_4 : m_D k_Th_takeBreath 4 (.aload_n 0) 1 := (by decide +kernel : decode prog_11_method_7_code 4 = .ok (.aload_n 0, 1))
theorem d_Th_takeBreath_5 : m_D k_Th_takeBreath 5 (.getfield 22) 3 := (by decide +kernel : decode prog_11_method_7_code 5 = .ok (.getfield 22, 3))
theorem d_Th_takeBreath_8 : m_D k_Th_takeBreath 8 (.iload_n 1) 1 := (by decide +kernel : decode prog_11_method_7_code 8 = .ok (.iload_n 1, 1))
theorem d_Th_takeBreath_9 : m_D k_Th_takeBreath 9 (.iadd) 1 := (by decide +kernel : decode prog_11_method_7_code 9 = .ok (.iadd, 1))
theorem d_Th_takeBreath_10 : m_D k_Th_takeBreath 10 (.invokestatic 40) 3 := (by decide +kernel : decode prog_11_method_7_code 10 = .ok (.invokestatic 40, 3))
theorem d_Th_takeBreath_13 : m_D k_Th_takeBreath 13 (.putfield 22) 3 := (by decide +kernel : decode prog_11_method_7_code 13 = .ok (.putfield 22, 3))
theorem d_Th_takeBreath_16 : m_D k_Th_takeBreath 16 (.return_) 1 := (by decide +kernel : decode prog_11_method_7_code 16 = .ok (.return_, 1))
def fn_Th_takeBreath (x0 : Option mA) (x1 : Int32) : mP Unit :=
  m_th 5 x0 <|
  m_bd (m_gI 5 3 x0) fun v1 =>
  m_bd (m_pI 5 3 x0 (iMin 999 (v1 + x1))) fun _ =>
  m_rt ()
set_option maxHeartbeats 4000000 in
set_option maxRecDepth 100000 in
theorem sd_Th_takeBreath (x0 : Option mA) (x1 : Int32) : m_Sm k_Th_takeBreath 1 0 0 [.inr (.inr x0), .inl x1] (fn_Th_takeBreath x0 x1) (fun _ => none) := by
  refine ⟨Nat.le_of_ble_eq_true rfl, ?_⟩
  refine sm_th ?_
  refine sm_aload_n (i := 0) (j := 0) (pc' := 1) d_Th_takeBreath_0 rfl rfl rfl (sm_sipush (pc' := 4) d_Th_takeBreath_1 rfl is_999 (sm_aload_n (i := 0) (j := 0) (pc' := 5) d_Th_takeBreath_4 rfl rfl rfl ?_))
  refine sm_getI (pc' := 8) d_Th_takeBreath_5 rfl fl_Th_22 rfl ⟨by decide, by decide⟩ (fun v1 => ?_)
  refine sm_iload_n (i := 1) (j := 1) (pc' := 9) d_Th_takeBreath_8 rfl rfl rfl (sm_iadd (pc' := 10) d_Th_takeBreath_9 rfl (sm_mmin (pc' := 13) d_Th_takeBreath_10 rfl w_ml_Th_40 (by decide) (Nat.le_of_ble_eq_true rfl) (sm_putI (pc' := 16) d_Th_takeBreath_13 rfl fl_Th_22 (Or.inl rfl) rfl ?_)))
  exact sm_return d_Th_takeBreath_16 rfl rfl
theorem d_C_breathe_0 : m_D k_C_breathe 0 (.aload_n 0) 1 := (by decide +kernel : decode prog_1_method_31_code 0 = .ok (.aload_n 0, 1))
theorem d_C_breathe_1 : m_D k_C_breathe 1 (.aload_n 0) 1 := (by decide +kernel : decode prog_1_method_31_code 1 = .ok (.aload_n 0, 1))
theorem d_C_breathe_2 : m_D k_C_breathe 2 (.iload_n 1) 1 := (by decide +kernel : decode prog_1_method_31_code 2 = .ok (.iload_n 1, 1))
theorem d_C_breathe_3 : m_D k_C_breathe 3 (.invokevirtual 276) 3 := (by decide +kernel : decode prog_1_method_31_code 3 = .ok (.invokevirtual 276, 3))
theorem d_C_breathe_6 : m_D k_C_breathe 6 (.putfield 9) 3 := (by decide +kernel : decode prog_1_method_31_code 6 = .ok (.putfield 9, 3))
theorem d_C_breathe_9 : m_D k_C_breathe 9 (.aload_n 0) 1 := (by decide +kernel : decode prog_1_method_31_code 9 = .ok (.aload_n 0, 1))
theorem d_C_breathe_10 : m_D k_C_breathe 10 (.getfield 9) 3 := (by decide +kernel : decode prog_1_method_31_code 10 = .ok (.getfield 9, 3))
theorem d_C_breathe_13 : m_D k_C_breathe 13 (.ifCond .eq 5) 3 := (by decide +kernel : decode prog_1_method_31_code 13 = .ok (.ifCond .eq 5, 3))
theorem d_C_breathe_16 : m_D k_C_breathe 16 (.iconst (-1)) 1 := (by decide +kernel : decode prog_1_method_31_code 16 = .ok (.iconst (-1), 1))
theorem d_C_breathe_17 : m_D k_C_breathe 17 (.ireturn) 1 := (by decide +kernel : decode prog_1_method_31_code 17 = .ok (.ireturn, 1))
theorem d_C_breathe_18 : m_D k_C_breathe 18 (.aload_n 0) 1 := (by decide +kernel : decode prog_1_method_31_code 18 = .ok (.aload_n 0, 1))
theorem d_C_breathe_19 : m_D k_C_breathe 19 (.getfield 37) 3 := (by decide +kernel : decode prog_1_method_31_code 19 = .ok (.getfield 37, 3))
theorem d_C_breathe_22 : m_D k_C_breathe 22 (.getfield 236) 3 := (by decide +kernel : decode prog_1_method_31_code 22 = .ok (.getfield 236, 3))
theorem d_C_breathe_25 : m_D k_C_breathe 25 (.iload_n 1) 1 := (by decide +kernel : decode prog_1_method_31_code 25 = .ok (.iload_n 1, 1))
theorem d_C_breathe_26 : m_D k_C_breathe 26 (.aaload) 1 := (by decide +kernel : decode prog_1_method_31_code 26 = .ok (.aaload, 1))
theorem d_C_breathe_27 : m_D k_C_breathe 27 (.aload_n 0) 1 := (by decide +kernel : decode prog_1_method_31_code 27 = .ok (.aload_n 0, 1))
theorem d_C_breathe_28 : m_D k_C_breathe 28 (.getfield 37) 3 := (by decide +kernel : decode prog_1_method_31_code 28 = .ok (.getfield 37, 3))
theorem d_C_breathe_31 : m_D k_C_breathe 31 (.getfield 187) 3 := (by decide +kernel : decode prog_1_method_31_code 31 = .ok (.getfield 187, 3))
theorem d_C_breathe_34 : m_D k_C_breathe 34 (.invokevirtual 288) 3 := (by decide +kernel : decode prog_1_method_31_code 34 = .ok (.invokevirtual 288, 3))
theorem d_C_breathe_37 : m_D k_C_breathe 37 (.aload_n 0) 1 := (by decide +kernel : decode prog_1_method_31_code 37 = .ok (.aload_n 0, 1))
theorem d_C_breathe_38 : m_D k_C_breathe 38 (.getfield 37) 3 := (by decide +kernel : decode prog_1_method_31_code 38 = .ok (.getfield 37, 3))
theorem d_C_breathe_41 : m_D k_C_breathe 41 (.getfield 236) 3 := (by decide +kernel : decode prog_1_method_31_code 41 = .ok (.getfield 236, 3))
theorem d_C_breathe_44 : m_D k_C_breathe 44 (.iload_n 1) 1 := (by decide +kernel : decode prog_1_method_31_code 44 = .ok (.iload_n 1, 1))
theorem d_C_breathe_45 : m_D k_C_breathe 45 (.aaload) 1 := (by decide +kernel : decode prog_1_method_31_code 45 = .ok (.aaload, 1))
theorem d_C_breathe_46 : m_D k_C_breathe 46 (.getfield 248) 3 := (by decide +kernel : decode prog_1_method_31_code 46 = .ok (.getfield 248, 3))
theorem d_C_breathe_49 : m_D k_C_breathe 49 (.ireturn) 1 := (by decide +kernel : decode prog_1_method_31_code 49 = .ok (.ireturn, 1))
def fn_C_breathe (x0 : Option mA) (x1 : Int32) : mP Int32 :=
  m_th 0 x0 <|
  m_bd (fn_C_wholeStatus x0 x1) fun v1 =>
  m_bd (m_pI 0 0 x0 v1) fun _ =>
  m_bd (m_gI 0 0 x0) fun v2 =>
  if v2 = 0 then
    m_bd (m_gR 0 5 x0) fun v3 =>
    m_bd (m_gR 3 8 v3) fun v4 =>
    m_bd (m_aR 7 v4 x1) fun v5 =>
    m_bd (m_gR 0 5 x0) fun v6 =>
    m_bd (m_gI 3 5 v6) fun v7 =>
    m_bd (fn_Th_takeBreath v5 v7) fun _ =>
    m_bd (m_gR 0 5 x0) fun v8 =>
    m_bd (m_gR 3 8 v8) fun v9 =>
    m_bd (m_aR 7 v9 x1) fun v10 =>
    m_bd (m_gI 5 3 v10) fun v11 =>
    m_rt v11
  else
    m_rt (-1)
set_option maxHeartbeats 4000000 in
set_option maxRecDepth 100000 in
theorem sd_C_breathe (x0 : Option mA) (x1 : Int32) : m_Sm k_C_breathe 3 0 0 [.inr (.inr x0), .inl x1] (fn_C_breathe x0 x1) (fun b => some (.inl b)) := by
  refine ⟨Nat.le_of_ble_eq_true rfl, ?_⟩
  refine sm_th ?_
  refine sm_aload_n (i := 0) (j := 0) (pc' := 1) d_C_breathe_0 rfl rfl rfl (sm_aload_n (i := 0) (j := 0) (pc' := 2) d_C_breathe_1 rfl rfl rfl (sm_iload_n (i := 1) (j := 1) (pc' := 3) d_C_breathe_2 rfl rfl rfl ?_))
  refine sm_callVi (ci := 0) (x := x0) (av := [.inl x1]) (st := [.inr (.inr x0)]) (mc := 0) (ms := 0) (pc' := 6) d_C_breathe_3 rfl (sd_C_wholeStatus x0 x1) m_lv rfl cv_C_wholeStatus w_ml_C_276 rfl rfl (by decide) (Nat.le_of_ble_eq_true rfl) rfl rfl (fun v1 => ?_)
  refine sm_putI (pc' := 9) d_C_breathe_6 rfl fl_C_9 (Or.inl rfl) rfl (sm_aload_n (i := 0) (j := 0) (pc' := 10) d_C_breathe_9 rfl rfl rfl ?_)
  refine sm_getI (pc' := 13) d_C_breathe_10 rfl fl_C_9 rfl ⟨by decide, by decide⟩ (fun v2 => ?_)
  refine sm_if_eq (tgt := 18) (pc' := 16) d_C_breathe_13 rfl rfl ?_ ?_
  · refine sm_aload_n (i := 0) (j := 0) (pc' := 19) d_C_breathe_18 rfl rfl rfl ?_
    refine sm_getR (pc' := 22) d_C_breathe_19 rfl fl_C_37 rfl rfl (fun v3 => ?_)
    refine sm_getR (pc' := 25) d_C_breathe_22 rfl fl_C_236 rfl rfl (fun v4 => ?_)
    refine sm_iload_n (i := 1) (j := 1) (pc' := 26) d_C_breathe_25 rfl rfl rfl ?_
    refine sm_aald (t := 7) ⟨by decide, by decide⟩ rfl (pc' := 27) d_C_breathe_26 rfl (fun v5 => ?_)
    refine sm_aload_n (i := 0) (j := 0) (pc' := 28) d_C_breathe_27 rfl rfl rfl ?_
    refine sm_getR (pc' := 31) d_C_breathe_28 rfl fl_C_37 rfl rfl (fun v6 => ?_)
    refine sm_getI (pc' := 34) d_C_breathe_31 rfl fl_C_187 rfl ⟨by decide, by decide⟩ (fun v7 => ?_)
    refine sm_callVv (ci := 5) (x := v5) (av := [.inl v7]) (st := []) (mc := 0) (ms := 0) (pc' := 37) d_C_breathe_34 rfl (sd_Th_takeBreath v5 v7) m_lv rfl cv_Th_takeBreath w_ml_C_288 rfl rfl (by decide) (Nat.le_of_ble_eq_true rfl) rfl rfl ?_
    refine sm_aload_n (i := 0) (j := 0) (pc' := 38) d_C_breathe_37 rfl rfl rfl ?_
    refine sm_getR (pc' := 41) d_C_breathe_38 rfl fl_C_37 rfl rfl (fun v8 => ?_)
    refine sm_getR (pc' := 44) d_C_breathe_41 rfl fl_C_236 rfl rfl (fun v9 => ?_)
    refine sm_iload_n (i := 1) (j := 1) (pc' := 45) d_C_breathe_44 rfl rfl rfl ?_
    refine sm_aald (t := 7) ⟨by decide, by decide⟩ rfl (pc' := 46) d_C_breathe_45 rfl (fun v10 => ?_)
    refine sm_getI (pc' := 49) d_C_breathe_46 rfl fl_C_248 rfl ⟨by decide, by decide⟩ (fun v11 => ?_)
    exact sm_ireturn d_C_breathe_49 rfl rfl
  · refine sm_iconst (pc' := 17) d_C_breathe_16 rfl ic_m1 ?_
    exact sm_ireturn d_C_breathe_17 rfl rfl
theorem d_C_forge_0 : m_D k_C_forge 0 (.aload_n 0) 1 := (by decide +kernel : decode prog_1_method_32_code 0 = .ok (.aload_n 0, 1))
theorem d_C_forge_1 : m_D k_C_forge 1 (.iload_n 1) 1 := (by decide +kernel : decode prog_1_method_32_code 1 = .ok (.iload_n 1, 1))
theorem d_C_forge_2 : m_D k_C_forge 2 (.iconst 1) 1 := (by decide +kernel : decode prog_1_method_32_code 2 = .ok (.iconst 1, 1))
theorem d_C_forge_3 : m_D k_C_forge 3 (.sipush 999) 3 := (by decide +kernel : decode prog_1_method_32_code 3 = .ok (.sipush 999, 3))
theorem d_C_forge_6 : m_D k_C_forge 6 (.invokestatic 269) 3 := (by decide +kernel : decode prog_1_method_32_code 6 = .ok (.invokestatic 269, 3))
theorem d_C_forge_9 : m_D k_C_forge 9 (.ifCond .ne 7) 3 := (by decide +kernel : decode prog_1_method_32_code 9 = .ok (.ifCond .ne 7, 3))
theorem d_C_forge_12 : m_D k_C_forge 12 (.iconst 5) 1 := (by decide +kernel : decode prog_1_method_32_code 12 = .ok (.iconst 5, 1))
theorem d_C_forge_13 : m_D k_C_forge 13 (.goto 21) 3 := (by decide +kernel : decode prog_1_method_32_code 13 = .ok (.goto 21, 3))
theorem d_C_forge_16 : m_D k_C_forge 16 (.aload_n 0) 1 := (by decide +kernel : decode prog_1_method_32_code 16 = .ok (.aload_n 0, 1))
theorem d_C_forge_17 : m_D k_C_forge 17 (.getfield 37) 3 := (by decide +kernel : decode prog_1_method_32_code 17 = .ok (.getfield 37, 3))
theorem d_C_forge_20 : m_D k_C_forge 20 (.getfield 156) 3 := (by decide +kernel : decode prog_1_method_32_code 20 = .ok (.getfield 156, 3))
theorem d_C_forge_23 : m_D k_C_forge 23 (.bipush 8) 2 := (by decide +kernel : decode prog_1_method_32_code 23 = .ok (.bipush 8, 2))
theorem d_C_forge_25 : m_D k_C_forge 25 (.if_icmp .lt 8) 3 := (by decide +kernel : decode prog_1_method_32_code 25 = .ok (.if_icmp .lt 8, 3))
theorem d_C_forge_28 : m_D k_C_forge 28 (.bipush 7) 2 := (by decide +kernel : decode prog_1_method_32_code 28 = .ok (.bipush 7, 2))
theorem d_C_forge_30 : m_D k_C_forge 30 (.goto 4) 3 := (by decide +kernel : decode prog_1_method_32_code 30 = .ok (.goto 4, 3))
theorem d_C_forge_33 : m_D k_C_forge 33 (.iconst 0) 1 := (by decide +kernel : decode prog_1_method_32_code 33 = .ok (.iconst 0, 1))
theorem d_C_forge_34 : m_D k_C_forge 34 (.putfield 9) 3 := (by decide +kernel : decode prog_1_method_32_code 34 = .ok (.putfield 9, 3))
theorem d_C_forge_37 : m_D k_C_forge 37 (.aload_n 0) 1 := (by decide +kernel : decode prog_1_method_32_code 37 = .ok (.aload_n 0, 1))
theorem d_C_forge_38 : m_D k_C_forge 38 (.getfield 9) 3 := (by decide +kernel : decode prog_1_method_32_code 38 = .ok (.getfield 9, 3))
theorem d_C_forge_41 : m_D k_C_forge 41 (.ifCond .eq 5) 3 := (by decide +kernel : decode prog_1_method_32_code 41 = .ok (.ifCond .eq 5, 3))
theorem d_C_forge_44 : m_D k_C_forge 44 (.iconst (-1)) 1 := (by decide +kernel : decode prog_1_method_32_code 44 = .ok (.iconst (-1), 1))
theorem d_C_forge_45 : m_D k_C_forge 45 (.ireturn) 1 := (by decide +kernel : decode prog_1_method_32_code 45 = .ok (.ireturn, 1))
theorem d_C_forge_46 : m_D k_C_forge 46 (.aload_n 0) 1 := (by decide +kernel : decode prog_1_method_32_code 46 = .ok (.aload_n 0, 1))
theorem d_C_forge_47 : m_D k_C_forge 47 (.getfield 37) 3 := (by decide +kernel : decode prog_1_method_32_code 47 = .ok (.getfield 37, 3))
theorem d_C_forge_50 : m_D k_C_forge 50 (.lconst 0) 1 := (by decide +kernel : decode prog_1_method_32_code 50 = .ok (.lconst 0, 1))
theorem d_C_forge_51 : m_D k_C_forge 51 (.iload_n 1) 1 := (by decide +kernel : decode prog_1_method_32_code 51 = .ok (.iload_n 1, 1))
theorem d_C_forge_52 : m_D k_C_forge 52 (.iconst 0) 1 := (by decide +kernel : decode prog_1_method_32_code 52 = .ok (.iconst 0, 1))
theorem d_C_forge_53 : m_D k_C_forge 53 (.invokevirtual 291) 3 := (by decide +kernel : decode prog_1_method_32_code 53 = .ok (.invokevirtual 291, 3))
theorem d_C_forge_56 : m_D k_C_forge 56 (.aload_n 0) 1 := (by decide +kernel : decode prog_1_method_32_code 56 = .ok (.aload_n 0, 1))
theorem d_C_forge_57 : m_D k_C_forge 57 (.getfield 37) 3 := (by decide +kernel : decode prog_1_method_32_code 57 = .ok (.getfield 37, 3))
theorem d_C_forge_60 : m_D k_C_forge 60 (.getfield 156) 3 := (by decide +kernel : decode prog_1_method_32_code 60 = .ok (.getfield 156, 3))
theorem d_C_forge_63 : m_D k_C_forge 63 (.iconst 1) 1 := (by decide +kernel : decode prog_1_method_32_code 63 = .ok (.iconst 1, 1))
theorem d_C_forge_64 : m_D k_C_forge 64 (.isub) 1 := (by decide +kernel : decode prog_1_method_32_code 64 = .ok (.isub, 1))
theorem d_C_forge_65 : m_D k_C_forge 65 (.ireturn) 1 := (by decide +kernel : decode prog_1_method_32_code 65 = .ok (.ireturn, 1))
def fn_C_forge (x0 : Option mA) (x1 : Int32) : mP Int32 :=
  m_th 0 x0 <|
  m_bd (fn_C_isWithin x1 1 999) fun v1 =>
  m_bd (α := Int32) (
    if v1 = 0 then
      m_rt 5
    else
      m_bd (m_gR 0 5 x0) fun v2 =>
      m_bd (m_gI 3 1 v2) fun v3 =>
      if v3 < 8 then
        m_rt 0
      else
        m_rt 7
    ) fun (t4 : Int32) =>
  m_bd (m_pI 0 0 x0 t4) fun _ =>
  m_bd (m_gI 0 0 x0) fun v5 =>
  if v5 = 0 then
    m_bd (m_gR 0 5 x0) fun v6 =>
    m_bd (fn_Fa_addThing v6 0 x1 0) fun _ =>
    m_bd (m_gR 0 5 x0) fun v7 =>
    m_bd (m_gI 3 1 v7) fun v8 =>
    m_rt (v8 - 1)
  else
    m_rt (-1)
set_option maxHeartbeats 4000000 in
set_option maxRecDepth 100000 in
theorem sd_C_forge (x0 : Option mA) (x1 : Int32) : m_Sm k_C_forge 2 0 0 [.inr (.inr x0), .inl x1] (fn_C_forge x0 x1) (fun b => some (.inl b)) := by
  refine ⟨Nat.le_of_ble_eq_true rfl, ?_⟩
  refine sm_th ?_
  refine sm_aload_n (i := 0) (j := 0) (pc' := 1) d_C_forge_0 rfl rfl rfl (sm_iload_n (i := 1) (j := 1) (pc' := 2) d_C_forge_1 rfl rfl rfl (sm_iconst (pc' := 3) d_C_forge_2 rfl ic_1 (sm_sipush (pc' := 6) d_C_forge_3 rfl is_999 ?_)))
  refine sm_callSi (av := [.inl x1, .inl 1, .inl 999]) (st := [.inr (.inr x0)]) (mc := 0) (ms := 0) (pc' := 9) d_C_forge_6 rfl (sd_C_isWithin x1 1 999) cs_C_isWithin w_ml_C_269 rfl rfl (by decide) (Nat.le_of_ble_eq_true rfl) rfl rfl (fun v1 => ?_)
  refine sm_bd (mid := fun (t4 : Int32) => .inl (34, [(0, .inr (.inr x0)), (1, .inl x1)], [.inl t4, .inr (.inr x0)])) ?_ (fun t4 => ?_)
  · refine sm_if_ne (tgt := 16) (pc' := 12) d_C_forge_9 rfl rfl ?_ ?_
    · refine sm_aload_n (i := 0) (j := 0) (pc' := 17) d_C_forge_16 rfl rfl rfl ?_
      refine sm_getR (pc' := 20) d_C_forge_17 rfl fl_C_37 rfl rfl (fun v2 => ?_)
      refine sm_getI (pc' := 23) d_C_forge_20 rfl fl_C_156 rfl ⟨by decide, by decide⟩ (fun v3 => ?_)
      refine sm_bipush (pc' := 25) d_C_forge_23 rfl ib_8 ?_
      refine sm_icmp_lt (tgt := 33) (pc' := 28) d_C_forge_25 rfl rfl ?_ ?_
      · refine sm_iconst (pc' := 34) d_C_forge_33 rfl ic_0 (sm_sub [0, 1] rfl ?_)
        exact sm_rt rfl
      · refine sm_bipush (pc' := 30) d_C_forge_28 rfl ib_7 (sm_goto (tgt := 34) d_C_forge_30 rfl (sm_sub [0, 1] rfl ?_))
        exact sm_rt rfl
    · refine sm_iconst (pc' := 13) d_C_forge_12 rfl ic_5 (sm_goto (tgt := 34) d_C_forge_13 rfl (sm_sub [0, 1] rfl ?_))
      exact sm_rt rfl
  · refine sm_putI (pc' := 37) d_C_forge_34 rfl fl_C_9 (Or.inl rfl) rfl (sm_aload_n (i := 0) (j := 0) (pc' := 38) d_C_forge_37 rfl rfl rfl ?_)
    refine sm_getI (pc' := 41) d_C_forge_38 rfl fl_C_9 rfl ⟨by decide, by decide⟩ (fun v5 => ?_)
    refine sm_if_eq (tgt := 46) (pc' := 44) d_C_forge_41 rfl rfl ?_ ?_
    · refine sm_aload_n (i := 0) (j := 0) (pc' := 47) d_C_forge_46 rfl rfl rfl ?_
      refine sm_getR (pc' := 50) d_C_forge_47 rfl fl_C_37 rfl rfl (fun v6 => ?_)
      refine sm_lconst (pc' := 51) (v := 0) d_C_forge_50 rfl rfl (sm_iload_n (i := 1) (j := 1) (pc' := 52) d_C_forge_51 rfl rfl rfl (sm_iconst (pc' := 53) d_C_forge_52 rfl ic_0 ?_))
      refine sm_callVv (ci := 3) (x := v6) (av := [.inr (.inl 0), .inl x1, .inl 0]) (st := []) (mc := 0) (ms := 0) (pc' := 56) d_C_forge_53 rfl (sd_Fa_addThing v6 0 x1 0) m_lv rfl cv_Fa_addThing w_ml_C_291 rfl rfl (by decide) (Nat.le_of_ble_eq_true rfl) rfl rfl ?_
      refine sm_aload_n (i := 0) (j := 0) (pc' := 57) d_C_forge_56 rfl rfl rfl ?_
      refine sm_getR (pc' := 60) d_C_forge_57 rfl fl_C_37 rfl rfl (fun v7 => ?_)
      refine sm_getI (pc' := 63) d_C_forge_60 rfl fl_C_156 rfl ⟨by decide, by decide⟩ (fun v8 => ?_)
      refine sm_iconst (pc' := 64) d_C_forge_63 rfl ic_1 (sm_isub (pc' := 65) d_C_forge_64 rfl ?_)
      exact sm_ireturn d_C_forge_65 rfl rfl
    · refine sm_iconst (pc' := 45) d_C_forge_44 rfl ic_m1 ?_
      exact sm_ireturn d_C_forge_45 rfl rfl
theorem d_C_born_0 : m_D k_C_born 0 (.aload_n 0) 1 := (by decide +kernel : decode prog_1_method_33_code 0 = .ok (.aload_n 0, 1))
theorem d_C_born_1 : m_D k_C_born 1 (.iload_n 1) 1 := (by decide +kernel : decode prog_1_method_33_code 1 = .ok (.iload_n 1, 1))
theorem d_C_born_2 : m_D k_C_born 2 (.iconst 0) 1 := (by decide +kernel : decode prog_1_method_33_code 2 = .ok (.iconst 0, 1))
theorem d_C_born_3 : m_D k_C_born 3 (.bipush 119) 2 := (by decide +kernel : decode prog_1_method_33_code 3 = .ok (.bipush 119, 2))
theorem d_C_born_5 : m_D k_C_born 5 (.invokestatic 269) 3 := (by decide +kernel : decode prog_1_method_33_code 5 = .ok (.invokestatic 269, 3))
theorem d_C_born_8 : m_D k_C_born 8 (.ifCond .ne 7) 3 := (by decide +kernel : decode prog_1_method_33_code 8 = .ok (.ifCond .ne 7, 3))
theorem d_C_born_11 : m_D k_C_born 11 (.iconst 5) 1 := (by decide +kernel : decode prog_1_method_33_code 11 = .ok (.iconst 5, 1))
theorem d_C_born_12 : m_D k_C_born 12 (.goto 21) 3 := (by decide +kernel : decode prog_1_method_33_code 12 = .ok (.goto 21, 3))
theorem d_C_born_15 : m_D k_C_born 15 (.aload_n 0) 1 := (by decide +kernel : decode prog_1_method_33_code 15 = .ok (.aload_n 0, 1))
theorem d_C_born_16 : m_D k_C_born 16 (.getfield 37) 3 := (by decide +kernel : decode prog_1_method_33_code 16 = .ok (.getfield 37, 3))
theorem d_C_born_19 : m_D k_C_born 19 (.getfield 175) 3 := (by decide +kernel : decode prog_1_method_33_code 19 = .ok (.getfield 175, 3))
theorem d_C_born_22 : m_D k_C_born 22 (.bipush 6) 2 := (by decide +kernel : decode prog_1_method_33_code 22 = .ok (.bipush 6, 2))
theorem d_C_born_24 : m_D k_C_born 24 (.if_icmp .lt 8) 3 := (by decide +kernel : decode prog_1_method_33_code 24 = .ok (.if_icmp .lt 8, 3))
theorem d_C_born_27 : m_D k_C_born 27 (.bipush 7) 2 := (by decide +kernel : decode prog_1_method_33_code 27 = .ok (.bipush 7, 2))
theorem d_C_born_29 : m_D k_C_born 29 (.goto 4) 3 := (by decide +kernel : decode prog_1_method_33_code 29 = .ok (.goto 4, 3))
theorem d_C_born_32 : m_D k_C_born 32 (.iconst 0) 1 := (by decide +kernel : decode prog_1_method_33_code 32 = .ok (.iconst 0, 1))
theorem d_C_born_33 : m_D k_C_born 33 (.putfield 9) 3 := (by decide +kernel : decode prog_1_method_33_code 33 = .ok (.putfield 9, 3))
theorem d_C_born_36 : m_D k_C_born 36 (.aload_n 0) 1 := (by decide +kernel : decode prog_1_method_33_code 36 = .ok (.aload_n 0, 1))
theorem d_C_born_37 : m_D k_C_born 37 (.getfield 9) 3 := (by decide +kernel : decode prog_1_method_33_code 37 = .ok (.getfield 9, 3))
theorem d_C_born_40 : m_D k_C_born 40 (.ifCond .eq 5) 3 := (by decide +kernel : decode prog_1_method_33_code 40 = .ok (.ifCond .eq 5, 3))
theorem d_C_born_43 : m_D k_C_born 43 (.iconst (-1)) 1 := (by decide +kernel : decode prog_1_method_33_code 43 = .ok (.iconst (-1), 1))
theorem d_C_born_44 : m_D k_C_born 44 (.ireturn) 1 := (by decide +kernel : decode prog_1_method_33_code 44 = .ok (.ireturn, 1))
theorem d_C_born_45 : m_D k_C_born 45 (.aload_n 0) 1 := (by decide +kernel : decode prog_1_method_33_code 45 = .ok (.aload_n 0, 1))
theorem d_C_born_46 : m_D k_C_born 46 (.getfield 37) 3 := (by decide +kernel : decode prog_1_method_33_code 46 = .ok (.getfield 37, 3))
theorem d_C_born_49 : m_D k_C_born 49 (.lconst 0) 1 := (by decide +kernel : decode prog_1_method_33_code 49 = .ok (.lconst 0, 1))
theorem d_C_born_50 : m_D k_C_born 50 (.iload_n 1) 1 := (by decide +kernel : decode prog_1_method_33_code 50 = .ok (.iload_n 1, 1))
theorem d_C_born_51 : m_D k_C_born 51 (.iload_n 2) 1 := (by decide +kernel : decode prog_1_method_33_code 51 = .ok (.iload_n 2, 1))
theorem d_C_born_52 : m_D k_C_born 52 (.invokevirtual 295) 3 := (by decide +kernel : decode prog_1_method_33_code 52 = .ok (.invokevirtual 295, 3))
theorem d_C_born_55 : m_D k_C_born 55 (.aload_n 0) 1 := (by decide +kernel : decode prog_1_method_33_code 55 = .ok (.aload_n 0, 1))
theorem d_C_born_56 : m_D k_C_born 56 (.getfield 37) 3 := (by decide +kernel : decode prog_1_method_33_code 56 = .ok (.getfield 37, 3))
theorem d_C_born_59 : m_D k_C_born 59 (.getfield 175) 3 := (by decide +kernel : decode prog_1_method_33_code 59 = .ok (.getfield 175, 3))
theorem d_C_born_62 : m_D k_C_born 62 (.iconst 1) 1 := (by decide +kernel : decode prog_1_method_33_code 62 = .ok (.iconst 1, 1))
theorem d_C_born_63 : m_D k_C_born 63 (.isub) 1 := (by decide +kernel : decode prog_1_method_33_code 63 = .ok (.isub, 1))
theorem d_C_born_64 : m_D k_C_born 64 (.ireturn) 1 := (by decide +kernel : decode prog_1_method_33_code 64 = .ok (.ireturn, 1))
def fn_C_born (x0 : Option mA) (x1 : Int32) (x2 : Int32) : mP Int32 :=
  m_th 0 x0 <|
  m_bd (fn_C_isWithin x1 0 119) fun v1 =>
  m_bd (α := Int32) (
    if v1 = 0 then
      m_rt 5
    else
      m_bd (m_gR 0 5 x0) fun v2 =>
      m_bd (m_gI 3 0 v2) fun v3 =>
      if v3 < 6 then
        m_rt 0
      else
        m_rt 7
    ) fun (t4 : Int32) =>
  m_bd (m_pI 0 0 x0 t4) fun _ =>
  m_bd (m_gI 0 0 x0) fun v5 =>
  if v5 = 0 then
    m_bd (m_gR 0 5 x0) fun v6 =>
    m_bd (fn_Fa_addPerson v6 0 x1 x2) fun _ =>
    m_bd (m_gR 0 5 x0) fun v7 =>
    m_bd (m_gI 3 0 v7) fun v8 =>
    m_rt (v8 - 1)
  else
    m_rt (-1)
set_option maxHeartbeats 4000000 in
set_option maxRecDepth 100000 in
theorem sd_C_born (x0 : Option mA) (x1 : Int32) (x2 : Int32) : m_Sm k_C_born 3 0 0 [.inr (.inr x0), .inl x1, .inl x2] (fn_C_born x0 x1 x2) (fun b => some (.inl b)) := by
  refine ⟨Nat.le_of_ble_eq_true rfl, ?_⟩
  refine sm_th ?_
  refine sm_aload_n (i := 0) (j := 0) (pc' := 1) d_C_born_0 rfl rfl rfl (sm_iload_n (i := 1) (j := 1) (pc' := 2) d_C_born_1 rfl rfl rfl (sm_iconst (pc' := 3) d_C_born_2 rfl ic_0 (sm_bipush (pc' := 5) d_C_born_3 rfl ib_119 ?_)))
  refine sm_callSi (av := [.inl x1, .inl 0, .inl 119]) (st := [.inr (.inr x0)]) (mc := 0) (ms := 0) (pc' := 8) d_C_born_5 rfl (sd_C_isWithin x1 0 119) cs_C_isWithin w_ml_C_269 rfl rfl (by decide) (Nat.le_of_ble_eq_true rfl) rfl rfl (fun v1 => ?_)
  refine sm_bd (mid := fun (t4 : Int32) => .inl (33, [(0, .inr (.inr x0)), (1, .inl x1), (2, .inl x2)], [.inl t4, .inr (.inr x0)])) ?_ (fun t4 => ?_)
  · refine sm_if_ne (tgt := 15) (pc' := 11) d_C_born_8 rfl rfl ?_ ?_
    · refine sm_aload_n (i := 0) (j := 0) (pc' := 16) d_C_born_15 rfl rfl rfl ?_
      refine sm_getR (pc' := 19) d_C_born_16 rfl fl_C_37 rfl rfl (fun v2 => ?_)
      refine sm_getI (pc' := 22) d_C_born_19 rfl fl_C_175 rfl ⟨by decide, by decide⟩ (fun v3 => ?_)
      refine sm_bipush (pc' := 24) d_C_born_22 rfl ib_6 ?_
      refine sm_icmp_lt (tgt := 32) (pc' := 27) d_C_born_24 rfl rfl ?_ ?_
      · refine sm_iconst (pc' := 33) d_C_born_32 rfl ic_0 (sm_sub [0, 1, 2] rfl ?_)
        exact sm_rt rfl
      · refine sm_bipush (pc' := 29) d_C_born_27 rfl ib_7 (sm_goto (tgt := 33) d_C_born_29 rfl (sm_sub [0, 1, 2] rfl ?_))
        exact sm_rt rfl
    · refine sm_iconst (pc' := 12) d_C_born_11 rfl ic_5 (sm_goto (tgt := 33) d_C_born_12 rfl (sm_sub [0, 1, 2] rfl ?_))
      exact sm_rt rfl
  · refine sm_putI (pc' := 36) d_C_born_33 rfl fl_C_9 (Or.inl rfl) rfl (sm_aload_n (i := 0) (j := 0) (pc' := 37) d_C_born_36 rfl rfl rfl ?_)
    refine sm_getI (pc' := 40) d_C_born_37 rfl fl_C_9 rfl ⟨by decide, by decide⟩ (fun v5 => ?_)
    refine sm_if_eq (tgt := 45) (pc' := 43) d_C_born_40 rfl rfl ?_ ?_
    · refine sm_aload_n (i := 0) (j := 0) (pc' := 46) d_C_born_45 rfl rfl rfl ?_
      refine sm_getR (pc' := 49) d_C_born_46 rfl fl_C_37 rfl rfl (fun v6 => ?_)
      refine sm_lconst (pc' := 50) (v := 0) d_C_born_49 rfl rfl (sm_iload_n (i := 1) (j := 1) (pc' := 51) d_C_born_50 rfl rfl rfl (sm_iload_n (i := 2) (j := 2) (pc' := 52) d_C_born_51 rfl rfl rfl ?_))
      refine sm_callVv (ci := 3) (x := v6) (av := [.inr (.inl 0), .inl x1, .inl x2]) (st := []) (mc := 0) (ms := 0) (pc' := 55) d_C_born_52 rfl (sd_Fa_addPerson v6 0 x1 x2) m_lv rfl cv_Fa_addPerson w_ml_C_295 rfl rfl (by decide) (Nat.le_of_ble_eq_true rfl) rfl rfl ?_
      refine sm_aload_n (i := 0) (j := 0) (pc' := 56) d_C_born_55 rfl rfl rfl ?_
      refine sm_getR (pc' := 59) d_C_born_56 rfl fl_C_37 rfl rfl (fun v7 => ?_)
      refine sm_getI (pc' := 62) d_C_born_59 rfl fl_C_175 rfl ⟨by decide, by decide⟩ (fun v8 => ?_)
      refine sm_iconst (pc' := 63) d_C_born_62 rfl ic_1 (sm_isub (pc' := 64) d_C_born_63 rfl ?_)
      exact sm_ireturn d_C_born_64 rfl rfl
    · refine sm_iconst (pc' := 44) d_C_born_43 rfl ic_m1 ?_
      exact sm_ireturn d_C_born_44 rfl rfl
theorem d_C_canRule_0 : m_D k_C_canRule 0 (.iload_n 0) 1 := (by decide +kernel : decode prog_1_method_35_code 0 = .ok (.iload_n 0, 1))
theorem d_C_canRule_1 : m_D k_C_canRule 1 (.tableswitch 63 2 5 #[31, 39, 47, 55]) 31 := (by decide +kernel : decode prog_1_method_35_code 1 = .ok (.tableswitch 63 2 5 #[31, 39, 47, 55], 31))
theorem d_C_canRule_32 : m_D k_C_canRule 32 (.iload_n 1) 1 := (by decide +kernel : decode prog_1_method_35_code 32 = .ok (.iload_n 1, 1))
theorem d_C_canRule_33 : m_D k_C_canRule 33 (.iconst 0) 1 := (by decide +kernel : decode prog_1_method_35_code 33 = .ok (.iconst 0, 1))
theorem d_C_canRule_34 : m_D k_C_canRule 34 (.bipush 99) 2 := (by decide +kernel : decode prog_1_method_35_code 34 = .ok (.bipush 99, 2))
theorem d_C_canRule_36 : m_D k_C_canRule 36 (.invokestatic 269) 3 := (by decide +kernel : decode prog_1_method_35_code 36 = .ok (.invokestatic 269, 3))
theorem d_C_canRule_39 : m_D k_C_canRule 39 (.ireturn) 1 := (by decide +kernel : decode prog_1_method_35_code 39 = .ok (.ireturn, 1))
theorem d_C_canRule_40 : m_D k_C_canRule 40 (.iload_n 1) 1 := (by decide +kernel : decode prog_1_method_35_code 40 = .ok (.iload_n 1, 1))
theorem d_C_canRule_41 : m_D k_C_canRule 41 (.iconst 1) 1 := (by decide +kernel : decode prog_1_method_35_code 41 = .ok (.iconst 1, 1))
theorem d_C_canRule_42 : m_D k_C_canRule 42 (.bipush 120) 2 := (by decide +kernel : decode prog_1_method_35_code 42 = .ok (.bipush 120, 2))
theorem d_C_canRule_44 : m_D k_C_canRule 44 (.invokestatic 269) 3 := (by decide +kernel : decode prog_1_method_35_code 44 = .ok (.invokestatic 269, 3))
theorem d_C_canRule_47 : m_D k_C_canRule 47 (.ireturn) 1 := (by decide +kernel : decode prog_1_method_35_code 47 = .ok (.ireturn, 1))
theorem d_C_canRule_48 : m_D k_C_canRule 48 (.iload_n 1) 1 := (by decide +kernel : decode prog_1_method_35_code 48 = .ok (.iload_n 1, 1))
theorem d_C_canRule_49 : m_D k_C_canRule 49 (.iconst 0) 1 := (by decide +kernel : decode prog_1_method_35_code 49 = .ok (.iconst 0, 1))
theorem d_C_canRule_50 : m_D k_C_canRule 50 (.bipush 9) 2 := (by decide +kernel : decode prog_1_method_35_code 50 = .ok (.bipush 9, 2))
theorem d_C_canRule_52 : m_D k_C_canRule 52 (.invokestatic 269) 3 := (by decide +kernel : decode prog_1_method_35_code 52 = .ok (.invokestatic 269, 3))
theorem d_C_canRule_55 : m_D k_C_canRule 55 (.ireturn) 1 := (by decide +kernel : decode prog_1_method_35_code 55 = .ok (.ireturn, 1))
theorem d_C_canRule_56 : m_D k_C_canRule 56 (.iload_n 1) 1 := (by decide +kernel : decode prog_1_method_35_code 56 = .ok (.iload_n 1, 1))
theorem d_C_canRule_57 : m_D k_C_canRule 57 (.iconst 0) 1 := (by decide +kernel : decode prog_1_method_35_code 57 = .ok (.iconst 0, 1))
theorem d_C_canRule_58 : m_D k_C_canRule 58 (.bipush 99) 2 := (by decide +kernel : decode prog_1_method_35_code 58 = .ok (.bipush 99, 2))
theorem d_C_canRule_60 : m_D k_C_canRule 60 (.invokestatic 269) 3 := (by decide +kernel : decode prog_1_method_35_code 60 = .ok (.invokestatic 269, 3))
theorem d_C_canRule_63 : m_D k_C_canRule 63 (.ireturn) 1 := (by decide +kernel : decode prog_1_method_35_code 63 = .ok (.ireturn, 1))
theorem d_C_canRule_64 : m_D k_C_canRule 64 (.iconst 0) 1 := (by decide +kernel : decode prog_1_method_35_code 64 = .ok (.iconst 0, 1))
theorem d_C_canRule_65 : m_D k_C_canRule 65 (.ireturn) 1 := (by decide +kernel : decode prog_1_method_35_code 65 = .ok (.ireturn, 1))
def fn_C_canRule (x0 : Int32) (x1 : Int32) : mP Int32 :=
  if x0 = 2 then
    m_bd (fn_C_isWithin x1 0 99) fun v1 =>
    m_bd (m_cz v1) fun _ => m_rt v1
  else if x0 = 3 then
    m_bd (fn_C_isWithin x1 1 120) fun v2 =>
    m_bd (m_cz v2) fun _ => m_rt v2
  else if x0 = 4 then
    m_bd (fn_C_isWithin x1 0 9) fun v3 =>
    m_bd (m_cz v3) fun _ => m_rt v3
  else if x0 = 5 then
    m_bd (fn_C_isWithin x1 0 99) fun v4 =>
    m_bd (m_cz v4) fun _ => m_rt v4
  else
    m_rt 0
set_option maxHeartbeats 4000000 in
set_option maxRecDepth 100000 in
theorem sd_C_canRule (x0 : Int32) (x1 : Int32) : m_Sm k_C_canRule 2 0 0 [.inl x0, .inl x1] (fn_C_canRule x0 x1) (fun b => some (.inl b)) := by
  refine ⟨Nat.le_of_ble_eq_true rfl, ?_⟩
  refine sm_iload_n (i := 0) (j := 0) (pc' := 1) d_C_canRule_0 rfl rfl rfl ?_
  refine sm_ite (fun hs1_2 => ?_) (fun hs1_2 => ?_)
  · refine sm_tabIn (off := 31) (tgt := 32) d_C_canRule_1 (by rw [hs1_2]; decide) (by rw [hs1_2]; decide) (by rw [hs1_2]; rfl) rfl ?_
    refine sm_iload_n (i := 1) (j := 1) (pc' := 33) d_C_canRule_32 rfl rfl rfl (sm_iconst (pc' := 34) d_C_canRule_33 rfl ic_0 (sm_bipush (pc' := 36) d_C_canRule_34 rfl ib_99 ?_))
    refine sm_callSi (av := [.inl x1, .inl 0, .inl 99]) (st := []) (mc := 0) (ms := 0) (pc' := 39) d_C_canRule_36 rfl (sd_C_isWithin x1 0 99) cs_C_isWithin w_ml_C_269 rfl rfl (by decide) (Nat.le_of_ble_eq_true rfl) rfl rfl (fun v1 => ?_)
    exact sm_zretC d_C_canRule_39 rfl rfl
  refine sm_ite (fun hs1_3 => ?_) (fun hs1_3 => ?_)
  · refine sm_tabIn (off := 39) (tgt := 40) d_C_canRule_1 (by rw [hs1_3]; decide) (by rw [hs1_3]; decide) (by rw [hs1_3]; rfl) rfl ?_
    refine sm_iload_n (i := 1) (j := 1) (pc' := 41) d_C_canRule_40 rfl rfl rfl (sm_iconst (pc' := 42) d_C_canRule_41 rfl ic_1 (sm_bipush (pc' := 44) d_C_canRule_42 rfl ib_120 ?_))
    refine sm_callSi (av := [.inl x1, .inl 1, .inl 120]) (st := []) (mc := 0) (ms := 0) (pc' := 47) d_C_canRule_44 rfl (sd_C_isWithin x1 1 120) cs_C_isWithin w_ml_C_269 rfl rfl (by decide) (Nat.le_of_ble_eq_true rfl) rfl rfl (fun v2 => ?_)
    exact sm_zretC d_C_canRule_47 rfl rfl
  refine sm_ite (fun hs1_4 => ?_) (fun hs1_4 => ?_)
  · refine sm_tabIn (off := 47) (tgt := 48) d_C_canRule_1 (by rw [hs1_4]; decide) (by rw [hs1_4]; decide) (by rw [hs1_4]; rfl) rfl ?_
    refine sm_iload_n (i := 1) (j := 1) (pc' := 49) d_C_canRule_48 rfl rfl rfl (sm_iconst (pc' := 50) d_C_canRule_49 rfl ic_0 (sm_bipush (pc' := 52) d_C_canRule_50 rfl ib_9 ?_))
    refine sm_callSi (av := [.inl x1, .inl 0, .inl 9]) (st := []) (mc := 0) (ms := 0) (pc' := 55) d_C_canRule_52 rfl (sd_C_isWithin x1 0 9) cs_C_isWithin w_ml_C_269 rfl rfl (by decide) (Nat.le_of_ble_eq_true rfl) rfl rfl (fun v3 => ?_)
    exact sm_zretC d_C_canRule_55 rfl rfl
  refine sm_ite (fun hs1_5 => ?_) (fun hs1_5 => ?_)
  · refine sm_tabIn (off := 55) (tgt := 56) d_C_canRule_1 (by rw [hs1_5]; decide) (by rw [hs1_5]; decide) (by rw [hs1_5]; rfl) rfl ?_
    refine sm_iload_n (i := 1) (j := 1) (pc' := 57) d_C_canRule_56 rfl rfl rfl (sm_iconst (pc' := 58) d_C_canRule_57 rfl ic_0 (sm_bipush (pc' := 60) d_C_canRule_58 rfl ib_99 ?_))
    refine sm_callSi (av := [.inl x1, .inl 0, .inl 99]) (st := []) (mc := 0) (ms := 0) (pc' := 63) d_C_canRule_60 rfl (sd_C_isWithin x1 0 99) cs_C_isWithin w_ml_C_269 rfl rfl (by decide) (Nat.le_of_ble_eq_true rfl) rfl rfl (fun v4 => ?_)
    exact sm_zretC d_C_canRule_63 rfl rfl
  refine sm_tabOut (tgt := 64) d_C_canRule_1 (by have z0 : (x0).toInt ≠ 2 := fun e => hs1_2 (Int32.toInt_inj.mp (by rw [e]; rfl)); have z1 : (x0).toInt ≠ 3 := fun e => hs1_3 (Int32.toInt_inj.mp (by rw [e]; rfl)); have z2 : (x0).toInt ≠ 4 := fun e => hs1_4 (Int32.toInt_inj.mp (by rw [e]; rfl)); have z3 : (x0).toInt ≠ 5 := fun e => hs1_5 (Int32.toInt_inj.mp (by rw [e]; rfl)); omega) rfl ?_
  refine sm_iconst (pc' := 65) d_C_canRule_64 rfl ic_0 ?_
  exact sm_zreturn d_C_canRule_65 rfl (by decide) rfl
theorem d_C_rule_0 : m_D k_C_rule 0 (.aload_n 0) 1 := (by decide +kernel : decode prog_1_method_34_code 0 = .ok (.aload_n 0, 1))
theorem d_C_rule_1 : m_D k_C_rule 1 (.iload_n 1) 1 := (by decide +kernel : decode prog_1_method_34_code 1 = .ok (.iload_n 1, 1))
theorem d_C_rule_2 : m_D k_C_rule 2 (.iload_n 2) 1 := (by decide +kernel : decode prog_1_method_34_code 2 = .ok (.iload_n 2, 1))
theorem d_C_rule_3 : m_D k_C_rule 3 (.invokestatic 299) 3 := (by decide +kernel : decode prog_1_method_34_code 3 = .ok (.invokestatic 299, 3))
theorem d_C_rule_6 : m_D k_C_rule 6 (.ifCond .eq 7) 3 := (by decide +kernel : decode prog_1_method_34_code 6 = .ok (.ifCond .eq 7, 3))
theorem d_C_rule_9 : m_D k_C_rule 9 (.iconst 0) 1 := (by decide +kernel : decode prog_1_method_34_code 9 = .ok (.iconst 0, 1))
theorem d_C_rule_10 : m_D k_C_rule 10 (.goto 4) 3 := (by decide +kernel : decode prog_1_method_34_code 10 = .ok (.goto 4, 3))
theorem d_C_rule_13 : m_D k_C_rule 13 (.iconst 5) 1 := (by decide +kernel : decode prog_1_method_34_code 13 = .ok (.iconst 5, 1))
theorem d_C_rule_14 : m_D k_C_rule 14 (.putfield 9) 3 := (by decide +kernel : decode prog_1_method_34_code 14 = .ok (.putfield 9, 3))
theorem d_C_rule_17 : m_D k_C_rule 17 (.aload_n 0) 1 := (by decide +kernel : decode prog_1_method_34_code 17 = .ok (.aload_n 0, 1))
theorem d_C_rule_18 : m_D k_C_rule 18 (.getfield 9) 3 := (by decide +kernel : decode prog_1_method_34_code 18 = .ok (.getfield 9, 3))
theorem d_C_rule_21 : m_D k_C_rule 21 (.ifCond .eq 5) 3 := (by decide +kernel : decode prog_1_method_34_code 21 = .ok (.ifCond .eq 5, 3))
theorem d_C_rule_24 : m_D k_C_rule 24 (.iconst 0) 1 := (by decide +kernel : decode prog_1_method_34_code 24 = .ok (.iconst 0, 1))
theorem d_C_rule_25 : m_D k_C_rule 25 (.ireturn) 1 := (by decide +kernel : decode prog_1_method_34_code 25 = .ok (.ireturn, 1))
theorem d_C_rule_26 : m_D k_C_rule 26 (.iload_n 1) 1 := (by decide +kernel : decode prog_1_method_34_code 26 = .ok (.iload_n 1, 1))
theorem d_C_rule_27 : m_D k_C_rule 27 (.tableswitch 58 2 4 #[25, 36, 47]) 25 := (by decide +kernel : decode prog_1_method_34_code 27 = .ok (.tableswitch 58 2 4 #[25, 36, 47], 25))
theorem d_C_rule_52 : m_D k_C_rule 52 (.aload_n 0) 1 := (by decide +kernel : decode prog_1_method_34_code 52 = .ok (.aload_n 0, 1))
theorem d_C_rule_53 : m_D k_C_rule 53 (.getfield 37) 3 := (by decide +kernel : decode prog_1_method_34_code 53 = .ok (.getfield 37, 3))
theorem d_C_rule_56 : m_D k_C_rule 56 (.iload_n 2) 1 := (by decide +kernel : decode prog_1_method_34_code 56 = .ok (.iload_n 2, 1))
theorem d_C_rule_57 : m_D k_C_rule 57 (.putfield 178) 3 := (by decide +kernel : decode prog_1_method_34_code 57 = .ok (.putfield 178, 3))
theorem d_C_rule_60 : m_D k_C_rule 60 (.goto 33) 3 := (by decide +kernel : decode prog_1_method_34_code 60 = .ok (.goto 33, 3))
theorem d_C_rule_63 : m_D k_C_rule 63 (.aload_n 0) 1 := (by decide +kernel : decode prog_1_method_34_code 63 = .ok (.aload_n 0, 1))
theorem d_C_rule_64 : m_D k_C_rule 64 (.getfield 37) 3 := (by decide +kernel : decode prog_1_method_34_code 64 = .ok (.getfield 37, 3))
theorem d_C_rule_67 : m_D k_C_rule 67 (.iload_n 2) 1 := (by decide +kernel : decode prog_1_method_34_code 67 = .ok (.iload_n 2, 1))
theorem d_C_rule_68 : m_D k_C_rule 68 (.putfield 181) 3 := (by decide +kernel : decode prog_1_method_34_code 68 = .ok (.putfield 181, 3))
theorem d_C_rule_71 : m_D k_C_rule 71 (.goto 22) 3 := (by decide +kernel : decode prog_1_method_34_code 71 = .ok (.goto 22, 3))
theorem d_C_rule_74 : m_D k_C_rule 74 (.aload_n 0) 1 := (by decide +kernel : decode prog_1_method_34_code 74 = .ok (.aload_n 0, 1))
theorem d_C_rule_75 : m_D k_C_rule 75 (.getfield 37) 3 := (by decide +kernel : decode prog_1_method_34_code 75 = .ok (.getfield 37, 3))
theorem d_C_rule_78 : m_D k_C_rule 78 (.iload_n 2) 1 := (by decide +kernel : decode prog_1_method_34_code 78 = .ok (.iload_n 2, 1))
theorem d_C_rule_79 : m_D k_C_rule 79 (.putfield 184) 3 := (by decide +kernel : decode prog_1_method_34_code 79 = .ok (.putfield 184, 3))
theorem d_C_rule_82 : m_D k_C_rule 82 (.goto 11) 3 := (by decide +kernel : decode prog_1_method_34_code 82 = .ok (.goto 11, 3))
theorem d_C_rule_85 : m_D k_C_rule 85 (.aload_n 0) 1 := (by decide +kernel : decode prog_1_method_34_code 85 = .ok (.aload_n 0, 1))
theorem d_C_rule_86 : m_D k_C_rule 86 (.getfield 37) 3 := (by decide +kernel : decode prog_1_method_34_code 86 = .ok (.getfield 37, 3))
theorem d_C_rule_89 : m_D k_C_rule 89 (.iload_n 2) 1 := (by decide +kernel : decode prog_1_method_34_code 89 = .ok (.iload_n 2, 1))
theorem d_C_rule_90 : m_D k_C_rule 90 (.putfield 187) 3 := (by decide +kernel : decode prog_1_method_34_code 90 = .ok (.putfield 187, 3))
theorem d_C_rule_93 : m_D k_C_rule 93 (.iconst 1) 1 := (by decide +kernel : decode prog_1_method_34_code 93 = .ok (.iconst 1, 1))
theorem d_C_rule_94 : m_D k_C_rule 94 (.ireturn) 1 := (by decide +kernel : decode prog_1_method_34_code 94 = .ok (.ireturn, 1))
def fn_C_rule (x0 : Option mA) (x1 : Int32) (x2 : Int32) : mP Int32 :=
  m_th 0 x0 <|
  m_bd (fn_C_canRule x1 x2) fun v1 =>
  m_bd (α := Int32) (
    if v1 = 0 then
      m_rt 5
    else
      m_rt 0
    ) fun (t2 : Int32) =>
  m_bd (m_pI 0 0 x0 t2) fun _ =>
  m_bd (m_gI 0 0 x0) fun v3 =>
  if v3 = 0 then
    if x1 = 2 then
      m_bd (m_gR 0 5 x0) fun v4 =>
      m_bd (m_pI 3 2 v4 x2) fun _ =>
      m_rt 1
    else if x1 = 3 then
      m_bd (m_gR 0 5 x0) fun v5 =>
      m_bd (m_pI 3 3 v5 x2) fun _ =>
      m_rt 1
    else if x1 = 4 then
      m_bd (m_gR 0 5 x0) fun v6 =>
      m_bd (m_pI 3 4 v6 x2) fun _ =>
      m_rt 1
    else
      m_bd (m_gR 0 5 x0) fun v7 =>
      m_bd (m_pI 3 5 v7 x2) fun _ =>
      m_rt 1
  else
    m_rt 0
set_option maxHeartbeats 4000000 in
set_option maxRecDepth 100000 in
theorem sd_C_rule (x0 : Option mA) (x1 : Int32) (x2 : Int32) : m_Sm k_C_rule 3 0 0 [.inr (.inr x0), .inl x1, .inl x2] (fn_C_rule x0 x1 x2) (fun b => some (.inl b)) := by
  refine ⟨Nat.le_of_ble_eq_true rfl, ?_⟩
  refine sm_th ?_
  refine sm_aload_n (i := 0) (j := 0) (pc' := 1) d_C_rule_0 rfl rfl rfl (sm_iload_n (i := 1) (j := 1) (pc' := 2) d_C_rule_1 rfl rfl rfl (sm_iload_n (i := 2) (j := 2) (pc' := 3) d_C_rule_2 rfl rfl rfl ?_))
  refine sm_callSi (av := [.inl x1, .inl x2]) (st := [.inr (.inr x0)]) (mc := 0) (ms := 0) (pc' := 6) d_C_rule_3 rfl (sd_C_canRule x1 x2) cs_C_canRule w_ml_C_299 rfl rfl (by decide) (Nat.le_of_ble_eq_true rfl) rfl rfl (fun v1 => ?_)
  refine sm_bd (mid := fun (t2 : Int32) => .inl (14, [(0, .inr (.inr x0)), (1, .inl x1), (2, .inl x2)], [.inl t2, .inr (.inr x0)])) ?_ (fun t2 => ?_)
  · refine sm_if_eq (tgt := 13) (pc' := 9) d_C_rule_6 rfl rfl ?_ ?_
    · refine sm_iconst (pc' := 14) d_C_rule_13 rfl ic_5 (sm_sub [0, 1, 2] rfl ?_)
      exact sm_rt rfl
    · refine sm_iconst (pc' := 10) d_C_rule_9 rfl ic_0 (sm_goto (tgt := 14) d_C_rule_10 rfl (sm_sub [0, 1, 2] rfl ?_))
      exact sm_rt rfl
  · refine sm_putI (pc' := 17) d_C_rule_14 rfl fl_C_9 (Or.inl rfl) rfl (sm_aload_n (i := 0) (j := 0) (pc' := 18) d_C_rule_17 rfl rfl rfl ?_)
    refine sm_getI (pc' := 21) d_C_rule_18 rfl fl_C_9 rfl ⟨by decide, by decide⟩ (fun v3 => ?_)
    refine sm_if_eq (tgt := 26) (pc' := 24) d_C_rule_21 rfl rfl ?_ ?_
    · refine sm_iload_n (i := 1) (j := 1) (pc' := 27) d_C_rule_26 rfl rfl rfl ?_
      refine sm_ite (fun hs27_2 => ?_) (fun hs27_2 => ?_)
      · refine sm_tabIn (off := 25) (tgt := 52) d_C_rule_27 (by rw [hs27_2]; decide) (by rw [hs27_2]; decide) (by rw [hs27_2]; rfl) rfl ?_
        refine sm_aload_n (i := 0) (j := 0) (pc' := 53) d_C_rule_52 rfl rfl rfl ?_
        refine sm_getR (pc' := 56) d_C_rule_53 rfl fl_C_37 rfl rfl (fun v4 => ?_)
        refine sm_iload_n (i := 2) (j := 2) (pc' := 57) d_C_rule_56 rfl rfl rfl (sm_putI (pc' := 60) d_C_rule_57 rfl fl_C_178 (Or.inl rfl) rfl (sm_goto (tgt := 93) d_C_rule_60 rfl (sm_iconst (pc' := 94) d_C_rule_93 rfl ic_1 ?_)))
        exact sm_zreturn d_C_rule_94 rfl (by decide) rfl
      refine sm_ite (fun hs27_3 => ?_) (fun hs27_3 => ?_)
      · refine sm_tabIn (off := 36) (tgt := 63) d_C_rule_27 (by rw [hs27_3]; decide) (by rw [hs27_3]; decide) (by rw [hs27_3]; rfl) rfl ?_
        refine sm_aload_n (i := 0) (j := 0) (pc' := 64) d_C_rule_63 rfl rfl rfl ?_
        refine sm_getR (pc' := 67) d_C_rule_64 rfl fl_C_37 rfl rfl (fun v5 => ?_)
        refine sm_iload_n (i := 2) (j := 2) (pc' := 68) d_C_rule_67 rfl rfl rfl (sm_putI (pc' := 71) d_C_rule_68 rfl fl_C_181 (Or.inl rfl) rfl (sm_goto (tgt := 93) d_C_rule_71 rfl (sm_iconst (pc' := 94) d_C_rule_93 rfl ic_1 ?_)))
        exact sm_zreturn d_C_rule_94 rfl (by decide) rfl
      refine sm_ite (fun hs27_4 => ?_) (fun hs27_4 => ?_)
      · refine sm_tabIn (off := 47) (tgt := 74) d_C_rule_27 (by rw [hs27_4]; decide) (by rw [hs27_4]; decide) (by rw [hs27_4]; rfl) rfl ?_
        refine sm_aload_n (i := 0) (j := 0) (pc' := 75) d_C_rule_74 rfl rfl rfl ?_
        refine sm_getR (pc' := 78) d_C_rule_75 rfl fl_C_37 rfl rfl (fun v6 => ?_)
        refine sm_iload_n (i := 2) (j := 2) (pc' := 79) d_C_rule_78 rfl rfl rfl (sm_putI (pc' := 82) d_C_rule_79 rfl fl_C_184 (Or.inl rfl) rfl (sm_goto (tgt := 93) d_C_rule_82 rfl (sm_iconst (pc' := 94) d_C_rule_93 rfl ic_1 ?_)))
        exact sm_zreturn d_C_rule_94 rfl (by decide) rfl
      refine sm_tabOut (tgt := 85) d_C_rule_27 (by have z0 : (x1).toInt ≠ 2 := fun e => hs27_2 (Int32.toInt_inj.mp (by rw [e]; rfl)); have z1 : (x1).toInt ≠ 3 := fun e => hs27_3 (Int32.toInt_inj.mp (by rw [e]; rfl)); have z2 : (x1).toInt ≠ 4 := fun e => hs27_4 (Int32.toInt_inj.mp (by rw [e]; rfl)); omega) rfl ?_
      refine sm_aload_n (i := 0) (j := 0) (pc' := 86) d_C_rule_85 rfl rfl rfl ?_
      refine sm_getR (pc' := 89) d_C_rule_86 rfl fl_C_37 rfl rfl (fun v7 => ?_)
      refine sm_iload_n (i := 2) (j := 2) (pc' := 90) d_C_rule_89 rfl rfl rfl (sm_putI (pc' := 93) d_C_rule_90 rfl fl_C_187 (Or.inl rfl) rfl (sm_iconst (pc' := 94) d_C_rule_93 rfl ic_1 ?_))
      exact sm_zreturn d_C_rule_94 rfl (by decide) rfl
    · refine sm_iconst (pc' := 25) d_C_rule_24 rfl ic_0 ?_
      exact sm_zreturn d_C_rule_25 rfl (by decide) rfl
theorem d_Th_copyFrom_0 : m_D k_Th_copyFrom 0 (.aload_n 0) 1 := (by decide +kernel : decode prog_11_method_2_code 0 = .ok (.aload_n 0, 1))
theorem d_Th_copyFrom_1 : m_D k_Th_copyFrom 1 (.aload_n 1) 1 := (by decide +kernel : decode prog_11_method_2_code 1 = .ok (.aload_n 1, 1))
theorem d_Th_copyFrom_2 : m_D k_Th_copyFrom 2 (.getfield 9) 3 := (by decide +kernel : decode prog_11_method_2_code 2 = .ok (.getfield 9, 3))
theorem d_Th_copyFrom_5 : m_D k_Th_copyFrom 5 (.putfield 9) 3 := (by decide +kernel : decode prog_11_method_2_code 5 = .ok (.putfield 9, 3))
theorem d_Th_copyFrom_8 : m_D k_Th_copyFrom 8 (.aload_n 0) 1 := (by decide +kernel : decode prog_11_method_2_code 8 = .ok (.aload_n 0, 1))
theorem d_Th_copyFrom_9 : m_D k_Th_copyFrom 9 (.aload_n 1) 1 := (by decide +kernel : decode prog_11_method_2_code 9 = .ok (.aload_n 1, 1))
theorem d_Th_copyFrom_10 : m_D k_Th_copyFrom 10 (.getfield 15) 3 := (by decide +kernel : decode prog_11_method_2_code 10 = .ok (.getfield 15, 3))
theorem d_Th_copyFrom_13 : m_D k_Th_copyFrom 13 (.putfield 15) 3 := (by decide +kernel : decode prog_11_method_2_code 13 = .ok (.putfield 15, 3))
theorem d_Th_copyFrom_16 : m_D k_Th_copyFrom 16 (.aload_n 0) 1 := (by decide +kernel : decode prog_11_method_2_code 16 = .ok (.aload_n 0, 1))
theorem d_Th_copyFrom_17 : m_D k_Th_copyFrom 17 (.aload_n 1) 1 := (by decide +kernel : decode prog_11_method_2_code 17 = .ok (.aload_n 1, 1))
theorem d_Th_copyFrom_18 : m_D k_Th_copyFrom 18 (.getfield 19) 3 := (by decide +kernel : decode prog_11_method_2_code 18 = .ok (.getfield 19, 3))
theorem d_Th_copyFrom_21 : m_D k_Th_copyFrom 21 (.putfield 19) 3 := (by decide +kernel : decode prog_11_method_2_code 21 = .ok (.putfield 19, 3))
theorem d_Th_copyFrom_24 : m_D k_Th_copyFrom 24 (.aload_n 0) 1 := (by decide +kernel : decode prog_11_method_2_code 24 = .ok (.aload_n 0, 1))
theorem d_Th_copyFrom_25 : m_D k_Th_copyFrom 25 (.aload_n 1) 1 := (by decide +kernel : decode prog_11_method_2_code 25 = .ok (.aload_n 1, 1))
theorem d_Th_copyFrom_26 : m_D k_Th_copyFrom 26 (.getfield 22) 3 := (by decide +kernel : decode prog_11_method_2_code 26 = .ok (.getfield 22, 3))
theorem d_Th_copyFrom_29 : m_D k_Th_copyFrom 29 (.putfield 22) 3 := (by decide +kernel : decode prog_11_method_2_code 29 = .ok (.putfield 22, 3))
theorem d_Th_copyFrom_32 : m_D k_Th_copyFrom 32 (.aload_n 0) 1 := (by decide +kernel : decode prog_11_method_2_code 32 = .ok (.aload_n 0, 1))
theorem d_Th_copyFrom_33 : m_D k_Th_copyFrom 33 (.aload_n 1) 1 := (by decide +kernel : decode prog_11_method_2_code 33 = .ok (.aload_n 1, 1))
theorem d_Th_copyFrom_34 : m_D k_Th_copyFrom 34 (.getfield 25) 3 := (by decide +kernel : decode prog_11_method_2_code 34 = .ok (.getfield 25, 3))
theorem d_Th_copyFrom_37 : m_D k_Th_copyFrom 37 (.putfield 25) 3 := (by decide +kernel : decode prog_11_method_2_code 37 = .ok (.putfield 25, 3))
theorem d_Th_copyFrom_40 : m_D k_Th_copyFrom 40 (.return_) 1 := (by decide +kernel : decode prog_11_method_2_code 40 = .ok (.return_, 1))
def fn_Th_copyFrom (x0 : Option mA) (x1 : Option mA) : mP Unit :=
  m_th 5 x0 <|
  m_bd (m_gJ 5 0 x1) fun v1 =>
  m_bd (m_pJ 5 0 x0 v1) fun _ =>
  m_bd (m_gI 5 1 x1) fun v2 =>
  m_bd (m_pI 5 1 x0 v2) fun _ =>
  m_bd (m_gI 5 2 x1) fun v3 =>
  m_bd (m_pI 5 2 x0 v3) fun _ =>
  m_bd (m_gI 5 3 x1) fun v4 =>
  m_bd (m_pI 5 3 x0 v4) fun _ =>
  m_bd (m_gI 5 4 x1) fun v5 =>
  m_bd (m_pI 5 4 x0 v5) fun _ =>
  m_rt ()
set_option maxHeartbeats 4000000 in
set_option maxRecDepth 100000 in
theorem sd_Th_copyFrom (x0 : Option mA) (x1 : Option mA) : m_Sm k_Th_copyFrom 1 0 0 [.inr (.inr x0), .inr (.inr x1)] (fn_Th_copyFrom x0 x1) (fun _ => none) := by
  refine ⟨Nat.le_of_ble_eq_true rfl, ?_⟩
  refine sm_th ?_
  refine sm_aload_n (i := 0) (j := 0) (pc' := 1) d_Th_copyFrom_0 rfl rfl rfl (sm_aload_n (i := 1) (j := 1) (pc' := 2) d_Th_copyFrom_1 rfl rfl rfl ?_)
  refine sm_getJ (pc' := 5) d_Th_copyFrom_2 rfl fl_Th_9 rfl rfl (fun v1 => ?_)
  refine sm_putJ (pc' := 8) d_Th_copyFrom_5 rfl fl_Th_9 (Or.inl rfl) rfl (sm_aload_n (i := 0) (j := 0) (pc' := 9) d_Th_copyFrom_8 rfl rfl rfl (sm_aload_n (i := 1) (j := 1) (pc' := 10) d_Th_copyFrom_9 rfl rfl rfl ?_))
  refine sm_getI (pc' := 13) d_Th_copyFrom_10 rfl fl_Th_15 rfl ⟨by decide, by decide⟩ (fun v2 => ?_)
  refine sm_putI (pc' := 16) d_Th_copyFrom_13 rfl fl_Th_15 (Or.inl rfl) rfl (sm_aload_n (i := 0) (j := 0) (pc' := 17) d_Th_copyFrom_16 rfl rfl rfl (sm_aload_n (i := 1) (j := 1) (pc' := 18) d_Th_copyFrom_17 rfl rfl rfl ?_))
  refine sm_getI (pc' := 21) d_Th_copyFrom_18 rfl fl_Th_19 rfl ⟨by decide, by decide⟩ (fun v3 => ?_)
  refine sm_putI (pc' := 24) d_Th_copyFrom_21 rfl fl_Th_19 (Or.inl rfl) rfl (sm_aload_n (i := 0) (j := 0) (pc' := 25) d_Th_copyFrom_24 rfl rfl rfl (sm_aload_n (i := 1) (j := 1) (pc' := 26) d_Th_copyFrom_25 rfl rfl rfl ?_))
  refine sm_getI (pc' := 29) d_Th_copyFrom_26 rfl fl_Th_22 rfl ⟨by decide, by decide⟩ (fun v4 => ?_)
  refine sm_putI (pc' := 32) d_Th_copyFrom_29 rfl fl_Th_22 (Or.inl rfl) rfl (sm_aload_n (i := 0) (j := 0) (pc' := 33) d_Th_copyFrom_32 rfl rfl rfl (sm_aload_n (i := 1) (j := 1) (pc' := 34) d_Th_copyFrom_33 rfl rfl rfl ?_))
  refine sm_getI (pc' := 37) d_Th_copyFrom_34 rfl fl_Th_25 rfl ⟨by decide, by decide⟩ (fun v5 => ?_)
  refine sm_putI (pc' := 40) d_Th_copyFrom_37 rfl fl_Th_25 (Or.inl rfl) rfl ?_
  exact sm_return d_Th_copyFrom_40 rfl rfl
theorem d_Ah_walk_0 : m_D k_Ah_walk 0 (.aload_n 0) 1 := (by decide +kernel : decode prog_2_method_2_code 0 = .ok (.aload_n 0, 1))
theorem d_Ah_walk_1 : m_D k_Ah_walk 1 (.getfield 12) 3 := (by decide +kernel : decode prog_2_method_2_code 1 = .ok (.getfield 12, 3))
theorem d_Ah_walk_4 : m_D k_Ah_walk 4 (.aload_n 1) 1 := (by decide +kernel : decode prog_2_method_2_code 4 = .ok (.aload_n 1, 1))
theorem d_Ah_walk_5 : m_D k_Ah_walk 5 (.getfield 25) 3 := (by decide +kernel : decode prog_2_method_2_code 5 = .ok (.getfield 25, 3))
theorem d_Ah_walk_8 : m_D k_Ah_walk 8 (.iload_n 2) 1 := (by decide +kernel : decode prog_2_method_2_code 8 = .ok (.iload_n 2, 1))
theorem d_Ah_walk_9 : m_D k_Ah_walk 9 (.aaload) 1 := (by decide +kernel : decode prog_2_method_2_code 9 = .ok (.aaload, 1))
theorem d_Ah_walk_10 : m_D k_Ah_walk 10 (.invokevirtual 31) 3 := (by decide +kernel : decode prog_2_method_2_code 10 = .ok (.invokevirtual 31, 3))
theorem d_Ah_walk_13 : m_D k_Ah_walk 13 (.aload_n 0) 1 := (by decide +kernel : decode prog_2_method_2_code 13 = .ok (.aload_n 0, 1))
theorem d_Ah_walk_14 : m_D k_Ah_walk 14 (.getfield 12) 3 := (by decide +kernel : decode prog_2_method_2_code 14 = .ok (.getfield 12, 3))
theorem d_Ah_walk_17 : m_D k_Ah_walk 17 (.invokevirtual 35) 3 := (by decide +kernel : decode prog_2_method_2_code 17 = .ok (.invokevirtual 35, 3))
theorem d_Ah_walk_20 : m_D k_Ah_walk 20 (.ifCond .eq 5) 3 := (by decide +kernel : decode prog_2_method_2_code 20 = .ok (.ifCond .eq 5, 3))
theorem d_Ah_walk_23 : m_D k_Ah_walk 23 (.iconst 0) 1 := (by decide +kernel : decode prog_2_method_2_code 23 = .ok (.iconst 0, 1))
theorem d_Ah_walk_24 : m_D k_Ah_walk 24 (.ireturn) 1 := (by decide +kernel : decode prog_2_method_2_code 24 = .ok (.ireturn, 1))
theorem d_Ah_walk_25 : m_D k_Ah_walk 25 (.iconst 1) 1 := (by decide +kernel : decode prog_2_method_2_code 25 = .ok (.iconst 1, 1))
theorem d_Ah_walk_26 : m_D k_Ah_walk 26 (.istore 6) 2 := (by decide +kernel : decode prog_2_method_2_code 26 = .ok (.istore 6, 2))
theorem d_Ah_walk_28 : m_D k_Ah_walk 28 (.iload 6) 2 := (by decide +kernel : decode prog_2_method_2_code 28 = .ok (.iload 6, 2))
theorem d_Ah_walk_30 : m_D k_Ah_walk 30 (.iload_n 3) 1 := (by decide +kernel : decode prog_2_method_2_code 30 = .ok (.iload_n 3, 1))
theorem d_Ah_walk_31 : m_D k_Ah_walk 31 (.if_icmp .gt 74) 3 := (by decide +kernel : decode prog_2_method_2_code 31 = .ok (.if_icmp .gt 74, 3))
theorem d_Ah_walk_34 : m_D k_Ah_walk 34 (.aload_n 1) 1 := (by decide +kernel : decode prog_2_method_2_code 34 = .ok (.aload_n 1, 1))
theorem d_Ah_walk_35 : m_D k_Ah_walk 35 (.iload 6) 2 := (by decide +kernel : decode prog_2_method_2_code 35 = .ok (.iload 6, 2))
theorem d_Ah_walk_37 : m_D k_Ah_walk 37 (.invokevirtual 39) 3 := (by decide +kernel : decode prog_2_method_2_code 37 = .ok (.invokevirtual 39, 3))
theorem d_Ah_walk_40 : m_D k_Ah_walk 40 (.istore 7) 2 := (by decide +kernel : decode prog_2_method_2_code 40 = .ok (.istore 7, 2))
theorem d_Ah_walk_42 : m_D k_Ah_walk 42 (.aload_n 1) 1 := (by decide +kernel : decode prog_2_method_2_code 42 = .ok (.aload_n 1, 1))
theorem d_Ah_walk_43 : m_D k_Ah_walk 43 (.iload_n 2) 1 := (by decide +kernel : decode prog_2_method_2_code 43 = .ok (.iload_n 2, 1))
theorem d_Ah_walk_44 : m_D k_Ah_walk 44 (.iload 7) 2 := (by decide +kernel : decode prog_2_method_2_code 44 = .ok (.iload 7, 2))
theorem d_Ah_walk_46 : m_D k_Ah_walk 46 (.invokevirtual 43) 3 := (by decide +kernel : decode prog_2_method_2_code 46 = .ok (.invokevirtual 43, 3))
theorem d_Ah_walk_49 : m_D k_Ah_walk 49 (.istore 8) 2 := (by decide +kernel : decode prog_2_method_2_code 49 = .ok (.istore 8, 2))
theorem d_Ah_walk_51 : m_D k_Ah_walk 51 (.iload 5) 2 := (by decide +kernel : decode prog_2_method_2_code 51 = .ok (.iload 5, 2))
theorem d_Ah_walk_53 : m_D k_Ah_walk 53 (.ifCond .le 20) 3 := (by decide +kernel : decode prog_2_method_2_code 53 = .ok (.ifCond .le 20, 3))
theorem d_Ah_walk_56 : m_D k_Ah_walk 56 (.iload 7) 2 := (by decide +kernel : decode prog_2_method_2_code 56 = .ok (.iload 7, 2))
theorem d_Ah_walk_58 : m_D k_Ah_walk 58 (.iload 4) 2 := (by decide +kernel : decode prog_2_method_2_code 58 = .ok (.iload 4, 2))
theorem d_Ah_walk_60 : m_D k_Ah_walk 60 (.ishr) 1 := (by decide +kernel : decode prog_2_method_2_code 60 = .ok (.ishr, 1))
theorem d_Ah_walk_61 : m_D k_Ah_walk 61 (.iconst 1) 1 := (by decide +kernel : decode prog_2_method_2_code 61 = .ok (.iconst 1, 1))
theorem d_Ah_walk_62 : m_D k_Ah_walk 62 (.iand) 1 := (by decide +kernel : decode prog_2_method_2_code 62 = .ok (.iand, 1))
theorem d_Ah_walk_63 : m_D k_Ah_walk 63 (.ifCond .eq 10) 3 := (by decide +kernel : decode prog_2_method_2_code 63 = .ok (.ifCond .eq 10, 3))
theorem d_Ah_walk_66 : m_D k_Ah_walk 66 (.iload 8) 2 := (by decide +kernel : decode prog_2_method_2_code 66 = .ok (.iload 8, 2))
theorem d_Ah_walk_68 : m_D k_Ah_walk 68 (.iload 5) 2 := (by decide +kernel : decode prog_2_method_2_code 68 = .ok (.iload 5, 2))
theorem d_Ah_walk_70 : m_D k_Ah_walk 70 (.isub) 1 := (by decide +kernel : decode prog_2_method_2_code 70 = .ok (.isub, 1))
theorem d_Ah_walk_71 : m_D k_Ah_walk 71 (.istore 8) 2 := (by decide +kernel : decode prog_2_method_2_code 71 = .ok (.istore 8, 2))
theorem d_Ah_walk_73 : m_D k_Ah_walk 73 (.aload_n 0) 1 := (by decide +kernel : decode prog_2_method_2_code 73 = .ok (.aload_n 0, 1))
theorem d_Ah_walk_74 : m_D k_Ah_walk 74 (.getfield 12) 3 := (by decide +kernel : decode prog_2_method_2_code 74 = .ok (.getfield 12, 3))
theorem d_Ah_walk_77 : m_D k_Ah_walk 77 (.iload 8) 2 := (by decide +kernel : decode prog_2_method_2_code 77 = .ok (.iload 8, 2))
theorem d_Ah_walk_79 : m_D k_Ah_walk 79 (.aload_n 1) 1 := (by decide +kernel : decode prog_2_method_2_code 79 = .ok (.aload_n 1, 1))
theorem d_Ah_walk_80 : m_D k_Ah_walk 80 (.getfield 47) 3 := (by decide +kernel : decode prog_2_method_2_code 80 = .ok (.getfield 47, 3))
theorem d_Ah_walk_83 : m_D k_Ah_walk 83 (.invokevirtual 51) 3 := (by decide +kernel : decode prog_2_method_2_code 83 = .ok (.invokevirtual 51, 3))
theorem d_Ah_walk_86 : m_D k_Ah_walk 86 (.aload_n 0) 1 := (by decide +kernel : decode prog_2_method_2_code 86 = .ok (.aload_n 0, 1))
theorem d_Ah_walk_87 : m_D k_Ah_walk 87 (.getfield 12) 3 := (by decide +kernel : decode prog_2_method_2_code 87 = .ok (.getfield 12, 3))
theorem d_Ah_walk_90 : m_D k_Ah_walk 90 (.invokevirtual 35) 3 := (by decide +kernel : decode prog_2_method_2_code 90 = .ok (.invokevirtual 35, 3))
theorem d_Ah_walk_93 : m_D k_Ah_walk 93 (.ifCond .eq 6) 3 := (by decide +kernel : decode prog_2_method_2_code 93 = .ok (.ifCond .eq 6, 3))
theorem d_Ah_walk_96 : m_D k_Ah_walk 96 (.iload 6) 2 := (by decide +kernel : decode prog_2_method_2_code 96 = .ok (.iload 6, 2))
theorem d_Ah_walk_98 : m_D k_Ah_walk 98 (.ireturn) 1 := (by decide +kernel : decode prog_2_method_2_code 98 = .ok (.ireturn, 1))
theorem d_Ah_walk_99 : m_D k_Ah_walk 99 (.iinc 6 1) 3 := (by decide +kernel : decode prog_2_method_2_code 99 = .ok (.iinc 6 1, 3))
theorem d_Ah_walk_102 : m_D k_Ah_walk 102 (.goto (-74)) 3 := (by decide +kernel : decode prog_2_method_2_code 102 = .ok (.goto (-74), 3))
theorem d_Ah_walk_105 : m_D k_Ah_walk 105 (.iconst (-1)) 1 := (by decide +kernel : decode prog_2_method_2_code 105 = .ok (.iconst (-1), 1))
theorem d_Ah_walk_106 : m_D k_Ah_walk 106 (.ireturn) 1 := (by decide +kernel : decode prog_2_method_2_code 106 = .ok (.ireturn, 1))
def fn_Ah_walk_l28 (x0 : Option mA) (x1 : Option mA) (x2 : Int32) (x3 : Int32) (x4 : Int32) (x5 : Int32) (t6 : Int32) : mP ((Int32) ⊕ (Int32)) :=
  if x3 < t6 then
    m_rt (.inr (-1))
  else
    m_bd (fn_Fa_showingSet x1 t6) fun v7 =>
    m_bd (fn_Fa_lovedBy x1 x2 v7) fun v8 =>
    m_bd (α := Int32) (
      if x5 ≤ 0 then
        m_rt v8
      else
        if ((v7 >>> (x4 &&& 31)) &&& 1) = 0 then
          m_rt v8
        else
          m_rt (v8 - x5)
      ) fun (t9 : Int32) =>
    m_bd (m_gR 7 1 x0) fun v10 =>
    m_bd (m_gI 3 4 x1) fun v11 =>
    m_bd (fn_Th_passYear v10 t9 v11) fun _ =>
    m_bd (m_gR 7 1 x0) fun v12 =>
    m_bd (fn_Th_isThrough v12) fun v13 =>
    if v13 = 0 then
      m_rt (.inl (t6 + 1))
    else
      m_rt (.inr t6)
def fn_Ah_walk (x0 : Option mA) (x1 : Option mA) (x2 : Int32) (x3 : Int32) (x4 : Int32) (x5 : Int32) : mP Int32 :=
  m_th 7 x0 <|
  m_bd (m_gR 7 1 x0) fun v1 =>
  m_bd (m_gR 3 8 x1) fun v2 =>
  m_bd (m_aR 7 v2 x2) fun v3 =>
  m_bd (fn_Th_copyFrom v1 v3) fun _ =>
  m_bd (m_gR 7 1 x0) fun v4 =>
  m_bd (fn_Th_isThrough v4) fun v5 =>
  if v5 = 0 then
    m_lp (fn_Ah_walk_l28 x0 x1 x2 x3 x4 x5) m_F 1
  else
    m_rt 0
set_option maxHeartbeats 4000000 in
set_option maxRecDepth 100000 in
theorem sd_Ah_walk (x0 : Option mA) (x1 : Option mA) (x2 : Int32) (x3 : Int32) (x4 : Int32) (x5 : Int32) : m_Sm k_Ah_walk 4 0 0 [.inr (.inr x0), .inr (.inr x1), .inl x2, .inl x3, .inl x4, .inl x5] (fn_Ah_walk x0 x1 x2 x3 x4 x5) (fun b => some (.inl b)) := by
  refine ⟨Nat.le_of_ble_eq_true rfl, ?_⟩
  refine sm_th ?_
  refine sm_aload_n (i := 0) (j := 0) (pc' := 1) d_Ah_walk_0 rfl rfl rfl ?_
  refine sm_getR (pc' := 4) d_Ah_walk_1 rfl fl_Ah_12 rfl rfl (fun v1 => ?_)
  refine sm_aload_n (i := 1) (j := 1) (pc' := 5) d_Ah_walk_4 rfl rfl rfl ?_
  refine sm_getR (pc' := 8) d_Ah_walk_5 rfl fl_Ah_25 rfl rfl (fun v2 => ?_)
  refine sm_iload_n (i := 2) (j := 2) (pc' := 9) d_Ah_walk_8 rfl rfl rfl ?_
  refine sm_aald (t := 7) ⟨by decide, by decide⟩ rfl (pc' := 10) d_Ah_walk_9 rfl (fun v3 => ?_)
  refine sm_callVv (ci := 5) (x := v1) (av := [.inr (.inr v3)]) (st := []) (mc := 0) (ms := 0) (pc' := 13) d_Ah_walk_10 rfl (sd_Th_copyFrom v1 v3) m_lv rfl cv_Th_copyFrom w_ml_Ah_31 rfl rfl (by decide) (Nat.le_of_ble_eq_true rfl) rfl rfl ?_
  refine sm_aload_n (i := 0) (j := 0) (pc' := 14) d_Ah_walk_13 rfl rfl rfl ?_
  refine sm_getR (pc' := 17) d_Ah_walk_14 rfl fl_Ah_12 rfl rfl (fun v4 => ?_)
  refine sm_callVi (ci := 5) (x := v4) (av := []) (st := []) (mc := 0) (ms := 0) (pc' := 20) d_Ah_walk_17 rfl (sd_Th_isThrough v4) m_lv rfl cv_Th_isThrough w_ml_Ah_35 rfl rfl (by decide) (Nat.le_of_ble_eq_true rfl) rfl rfl (fun v5 => ?_)
  refine sm_if_eq (tgt := 25) (pc' := 23) d_Ah_walk_20 rfl rfl ?_ ?_
  · refine sm_iconst (pc' := 26) d_Ah_walk_25 rfl ic_1 (sm_istore (L' := [(6, .inl 1), (0, .inr (.inr x0)), (1, .inr (.inr x1)), (2, .inl x2), (3, .inl x3), (4, .inl x4), (5, .inl x5)]) (pc' := 28) d_Ah_walk_26 rfl (Nat.le_of_ble_eq_true rfl) rfl ?_)
    refine sm_sub [0, 1, 2, 3, 4, 5, 6] rfl ?_
    refine sm_lp (hd := fun (t6 : Int32) => (.inl (28, [(6, .inl t6), (0, .inr (.inr x0)), (1, .inr (.inr x1)), (2, .inl x2), (3, .inl x3), (4, .inl x4), (5, .inl x5)], []) : mC)) (fun t6 => ?_) m_F 1
    refine sm_iload (j := 0) (pc' := 30) d_Ah_walk_28 rfl rfl (sm_iload_n (i := 3) (j := 4) (pc' := 31) d_Ah_walk_30 rfl rfl rfl ?_)
    refine sm_icmp_gt (tgt := 105) (pc' := 34) d_Ah_walk_31 rfl rfl ?_ ?_
    · refine sm_iconst (pc' := 106) d_Ah_walk_105 rfl ic_m1 ?_
      exact sm_ireturn d_Ah_walk_106 rfl rfl
    · refine sm_aload_n (i := 1) (j := 2) (pc' := 35) d_Ah_walk_34 rfl rfl rfl (sm_iload (j := 0) (pc' := 37) d_Ah_walk_35 rfl rfl ?_)
      refine sm_callVi (ci := 3) (x := x1) (av := [.inl t6]) (st := []) (mc := 0) (ms := 0) (pc' := 40) d_Ah_walk_37 rfl (sd_Fa_showingSet x1 t6) m_lv rfl cv_Fa_showingSet w_ml_Ah_39 rfl rfl (by decide) (Nat.le_of_ble_eq_true rfl) rfl rfl (fun v7 => ?_)
      refine sm_istore (L' := [(7, .inl v7), (6, .inl t6), (0, .inr (.inr x0)), (1, .inr (.inr x1)), (2, .inl x2), (3, .inl x3), (4, .inl x4), (5, .inl x5)]) (pc' := 42) d_Ah_walk_40 rfl (Nat.le_of_ble_eq_true rfl) rfl (sm_aload_n (i := 1) (j := 3) (pc' := 43) d_Ah_walk_42 rfl rfl rfl (sm_iload_n (i := 2) (j := 4) (pc' := 44) d_Ah_walk_43 rfl rfl rfl (sm_iload (j := 0) (pc' := 46) d_Ah_walk_44 rfl rfl ?_)))
      refine sm_callVi (ci := 3) (x := x1) (av := [.inl x2, .inl v7]) (st := []) (mc := 0) (ms := 0) (pc' := 49) d_Ah_walk_46 rfl (sd_Fa_lovedBy x1 x2 v7) m_lv rfl cv_Fa_lovedBy w_ml_Ah_43 rfl rfl (by decide) (Nat.le_of_ble_eq_true rfl) rfl rfl (fun v8 => ?_)
      refine sm_istore (L' := [(8, .inl v8), (7, .inl v7), (6, .inl t6), (0, .inr (.inr x0)), (1, .inr (.inr x1)), (2, .inl x2), (3, .inl x3), (4, .inl x4), (5, .inl x5)]) (pc' := 51) d_Ah_walk_49 rfl (Nat.le_of_ble_eq_true rfl) rfl (sm_iload (j := 8) (pc' := 53) d_Ah_walk_51 rfl rfl ?_)
      refine sm_bd (mid := fun (t9 : Int32) => .inl (73, [(0, .inr (.inr x0)), (1, .inr (.inr x1)), (2, .inl x2), (3, .inl x3), (4, .inl x4), (5, .inl x5), (6, .inl t6), (8, .inl t9)], [])) ?_ (fun t9 => ?_)
      · refine sm_if_le (tgt := 73) (pc' := 56) d_Ah_walk_53 rfl rfl ?_ ?_
        · refine sm_sub [3, 4, 5, 6, 7, 8, 2, 0] rfl ?_
          exact sm_rt rfl
        · refine sm_iload (j := 1) (pc' := 58) d_Ah_walk_56 rfl rfl (sm_iload (j := 7) (pc' := 60) d_Ah_walk_58 rfl rfl (sm_ishr (pc' := 61) d_Ah_walk_60 rfl (sm_iconst (pc' := 62) d_Ah_walk_61 rfl ic_1 (sm_iand (pc' := 63) d_Ah_walk_62 rfl ?_))))
          refine sm_if_eq (tgt := 73) (pc' := 66) d_Ah_walk_63 rfl rfl ?_ ?_
          · refine sm_sub [3, 4, 5, 6, 7, 8, 2, 0] rfl ?_
            exact sm_rt rfl
          · refine sm_iload (j := 0) (pc' := 68) d_Ah_walk_66 rfl rfl (sm_iload (j := 8) (pc' := 70) d_Ah_walk_68 rfl rfl (sm_isub (pc' := 71) d_Ah_walk_70 rfl (sm_istore (L' := [(8, .inl (v8 - x5)), (7, .inl v7), (6, .inl t6), (0, .inr (.inr x0)), (1, .inr (.inr x1)), (2, .inl x2), (3, .inl x3), (4, .inl x4), (5, .inl x5)]) (pc' := 73) d_Ah_walk_71 rfl (Nat.le_of_ble_eq_true rfl) rfl (sm_sub [3, 4, 5, 6, 7, 8, 2, 0] rfl ?_))))
            exact sm_rt rfl
      · refine sm_aload_n (i := 0) (j := 0) (pc' := 74) d_Ah_walk_73 rfl rfl rfl ?_
        refine sm_getR (pc' := 77) d_Ah_walk_74 rfl fl_Ah_12 rfl rfl (fun v10 => ?_)
        refine sm_iload (j := 7) (pc' := 79) d_Ah_walk_77 rfl rfl (sm_aload_n (i := 1) (j := 1) (pc' := 80) d_Ah_walk_79 rfl rfl rfl ?_)
        refine sm_getI (pc' := 83) d_Ah_walk_80 rfl fl_Ah_47 rfl ⟨by decide, by decide⟩ (fun v11 => ?_)
        refine sm_callVv (ci := 5) (x := v10) (av := [.inl t9, .inl v11]) (st := []) (mc := 0) (ms := 0) (pc' := 86) d_Ah_walk_83 rfl (sd_Th_passYear v10 t9 v11) m_lv rfl cv_Th_passYear w_ml_Ah_51 rfl rfl (by decide) (Nat.le_of_ble_eq_true rfl) rfl rfl ?_
        refine sm_aload_n (i := 0) (j := 0) (pc' := 87) d_Ah_walk_86 rfl rfl rfl ?_
        refine sm_getR (pc' := 90) d_Ah_walk_87 rfl fl_Ah_12 rfl rfl (fun v12 => ?_)
        refine sm_callVi (ci := 5) (x := v12) (av := []) (st := []) (mc := 0) (ms := 0) (pc' := 93) d_Ah_walk_90 rfl (sd_Th_isThrough v12) m_lv rfl cv_Th_isThrough w_ml_Ah_35 rfl rfl (by decide) (Nat.le_of_ble_eq_true rfl) rfl rfl (fun v13 => ?_)
        refine sm_if_eq (tgt := 99) (pc' := 96) d_Ah_walk_93 rfl rfl ?_ ?_
        · refine sm_iinc (j := 6) (L' := [(6, .inl (t6 + 1)), (0, .inr (.inr x0)), (1, .inr (.inr x1)), (2, .inl x2), (3, .inl x3), (4, .inl x4), (5, .inl x5), (8, .inl t9)]) (pc' := 102) d_Ah_walk_99 rfl (v := (t6 + 1)) rfl (ix_1 _) (Nat.le_of_ble_eq_true rfl) rfl (sm_goto (tgt := 28) d_Ah_walk_102 rfl (sm_sub [0, 1, 2, 3, 4, 5, 6] rfl ?_))
          exact sm_rt rfl
        · refine sm_iload (j := 6) (pc' := 98) d_Ah_walk_96 rfl rfl ?_
          exact sm_ireturn d_Ah_walk_98 rfl rfl
  · refine sm_iconst (pc' := 24) d_Ah_walk_23 rfl ic_0 ?_
    exact sm_ireturn d_Ah_walk_24 rfl rfl
theorem d_Ah_rustAfter_0 : m_D k_Ah_rustAfter 0 (.aload_n 0) 1 := (by decide +kernel : decode prog_2_method_3_code 0 = .ok (.aload_n 0, 1))
theorem d_Ah_rustAfter_1 : m_D k_Ah_rustAfter 1 (.aload_n 1) 1 := (by decide +kernel : decode prog_2_method_3_code 1 = .ok (.aload_n 1, 1))
theorem d_Ah_rustAfter_2 : m_D k_Ah_rustAfter 2 (.iload_n 2) 1 := (by decide +kernel : decode prog_2_method_3_code 2 = .ok (.iload_n 2, 1))
theorem d_Ah_rustAfter_3 : m_D k_Ah_rustAfter 3 (.iload_n 3) 1 := (by decide +kernel : decode prog_2_method_3_code 3 = .ok (.iload_n 3, 1))
theorem d_Ah_rustAfter_4 : m_D k_Ah_rustAfter 4 (.iconst (-1)) 1 := (by decide +kernel : decode prog_2_method_3_code 4 = .ok (.iconst (-1), 1))
theorem d_Ah_rustAfter_5 : m_D k_Ah_rustAfter 5 (.iconst 0) 1 := (by decide +kernel : decode prog_2_method_3_code 5 = .ok (.iconst 0, 1))
theorem d_Ah_rustAfter_6 : m_D k_Ah_rustAfter 6 (.invokevirtual 55) 3 := (by decide +kernel : decode prog_2_method_3_code 6 = .ok (.invokevirtual 55, 3))
theorem d_Ah_rustAfter_9 : m_D k_Ah_rustAfter 9 (.pop) 1 := (by decide +kernel : decode prog_2_method_3_code 9 = .ok (.pop, 1))
theorem d_Ah_rustAfter_10 : m_D k_Ah_rustAfter 10 (.aload_n 0) 1 := (by decide +kernel : decode prog_2_method_3_code 10 = .ok (.aload_n 0, 1))
theorem d_Ah_rustAfter_11 : m_D k_Ah_rustAfter 11 (.getfield 12) 3 := (by decide +kernel : decode prog_2_method_3_code 11 = .ok (.getfield 12, 3))
theorem d_Ah_rustAfter_14 : m_D k_Ah_rustAfter 14 (.getfield 59) 3 := (by decide +kernel : decode prog_2_method_3_code 14 = .ok (.getfield 59, 3))
theorem d_Ah_rustAfter_17 : m_D k_Ah_rustAfter 17 (.ireturn) 1 := (by decide +kernel : decode prog_2_method_3_code 17 = .ok (.ireturn, 1))
def fn_Ah_rustAfter (x0 : Option mA) (x1 : Option mA) (x2 : Int32) (x3 : Int32) : mP Int32 :=
  m_th 7 x0 <|
  m_bd (fn_Ah_walk x0 x1 x2 x3 (-1) 0) fun v1 =>
  m_bd (m_gR 7 1 x0) fun v2 =>
  m_bd (m_gI 5 3 v2) fun v3 =>
  m_rt v3
set_option maxHeartbeats 4000000 in
set_option maxRecDepth 100000 in
theorem sd_Ah_rustAfter (x0 : Option mA) (x1 : Option mA) (x2 : Int32) (x3 : Int32) : m_Sm k_Ah_rustAfter 5 0 0 [.inr (.inr x0), .inr (.inr x1), .inl x2, .inl x3] (fn_Ah_rustAfter x0 x1 x2 x3) (fun b => some (.inl b)) := by
  refine ⟨Nat.le_of_ble_eq_true rfl, ?_⟩
  refine sm_th ?_
  refine sm_aload_n (i := 0) (j := 0) (pc' := 1) d_Ah_rustAfter_0 rfl rfl rfl (sm_aload_n (i := 1) (j := 1) (pc' := 2) d_Ah_rustAfter_1 rfl rfl rfl (sm_iload_n (i := 2) (j := 2) (pc' := 3) d_Ah_rustAfter_2 rfl rfl rfl (sm_iload_n (i := 3) (j := 3) (pc' := 4) d_Ah_rustAfter_3 rfl rfl rfl (sm_iconst (pc' := 5) d_Ah_rustAfter_4 rfl ic_m1 (sm_iconst (pc' := 6) d_Ah_rustAfter_5 rfl ic_0 ?_)))))
  refine sm_callVi (ci := 7) (x := x0) (av := [.inr (.inr x1), .inl x2, .inl x3, .inl (-1), .inl 0]) (st := []) (mc := 0) (ms := 0) (pc' := 9) d_Ah_rustAfter_6 rfl (sd_Ah_walk x0 x1 x2 x3 (-1) 0) m_lv rfl cv_Ah_walk w_ml_Ah_55 rfl rfl (by decide) (Nat.le_of_ble_eq_true rfl) rfl rfl (fun v1 => ?_)
  refine sm_pop (pc' := 10) d_Ah_rustAfter_9 rfl rfl (sm_aload_n (i := 0) (j := 0) (pc' := 11) d_Ah_rustAfter_10 rfl rfl rfl ?_)
  refine sm_getR (pc' := 14) d_Ah_rustAfter_11 rfl fl_Ah_12 rfl rfl (fun v2 => ?_)
  refine sm_getI (pc' := 17) d_Ah_rustAfter_14 rfl fl_Ah_59 rfl ⟨by decide, by decide⟩ (fun v3 => ?_)
  exact sm_ireturn d_Ah_rustAfter_17 rfl rfl
theorem d_C_rustIn_0 : m_D k_C_rustIn 0 (.aload_n 0) 1 := (by decide +kernel : decode prog_1_method_37_code 0 = .ok (.aload_n 0, 1))
theorem d_C_rustIn_1 : m_D k_C_rustIn 1 (.aload_n 0) 1 := (by decide +kernel : decode prog_1_method_37_code 1 = .ok (.aload_n 0, 1))
theorem d_C_rustIn_2 : m_D k_C_rustIn 2 (.iload_n 1) 1 := (by decide +kernel : decode prog_1_method_37_code 2 = .ok (.iload_n 1, 1))
theorem d_C_rustIn_3 : m_D k_C_rustIn 3 (.invokevirtual 233) 3 := (by decide +kernel : decode prog_1_method_37_code 3 = .ok (.invokevirtual 233, 3))
theorem d_C_rustIn_6 : m_D k_C_rustIn 6 (.ifCond .ne 7) 3 := (by decide +kernel : decode prog_1_method_37_code 6 = .ok (.ifCond .ne 7, 3))
theorem d_C_rustIn_9 : m_D k_C_rustIn 9 (.iconst 2) 1 := (by decide +kernel : decode prog_1_method_37_code 9 = .ok (.iconst 2, 1))
theorem d_C_rustIn_10 : m_D k_C_rustIn 10 (.goto 19) 3 := (by decide +kernel : decode prog_1_method_37_code 10 = .ok (.goto 19, 3))
theorem d_C_rustIn_13 : m_D k_C_rustIn 13 (.iload_n 2) 1 := (by decide +kernel : decode prog_1_method_37_code 13 = .ok (.iload_n 2, 1))
theorem d_C_rustIn_14 : m_D k_C_rustIn 14 (.iconst 0) 1 := (by decide +kernel : decode prog_1_method_37_code 14 = .ok (.iconst 0, 1))
theorem d_C_rustIn_15 : m_D k_C_rustIn 15 (.sipush 200) 3 := (by decide +kernel : decode prog_1_method_37_code 15 = .ok (.sipush 200, 3))
theorem d_C_rustIn_18 : m_D k_C_rustIn 18 (.invokestatic 269) 3 := (by decide +kernel : decode prog_1_method_37_code 18 = .ok (.invokestatic 269, 3))
theorem d_C_rustIn_21 : m_D k_C_rustIn 21 (.ifCond .ne 7) 3 := (by decide +kernel : decode prog_1_method_37_code 21 = .ok (.ifCond .ne 7, 3))
theorem d_C_rustIn_24 : m_D k_C_rustIn 24 (.iconst 5) 1 := (by decide +kernel : decode prog_1_method_37_code 24 = .ok (.iconst 5, 1))
theorem d_C_rustIn_25 : m_D k_C_rustIn 25 (.goto 4) 3 := (by decide +kernel : decode prog_1_method_37_code 25 = .ok (.goto 4, 3))
theorem d_C_rustIn_28 : m_D k_C_rustIn 28 (.iconst 0) 1 := (by decide +kernel : decode prog_1_method_37_code 28 = .ok (.iconst 0, 1))
theorem d_C_rustIn_29 : m_D k_C_rustIn 29 (.putfield 9) 3 := (by decide +kernel : decode prog_1_method_37_code 29 = .ok (.putfield 9, 3))
theorem d_C_rustIn_32 : m_D k_C_rustIn 32 (.aload_n 0) 1 := (by decide +kernel : decode prog_1_method_37_code 32 = .ok (.aload_n 0, 1))
theorem d_C_rustIn_33 : m_D k_C_rustIn 33 (.getfield 9) 3 := (by decide +kernel : decode prog_1_method_37_code 33 = .ok (.getfield 9, 3))
theorem d_C_rustIn_36 : m_D k_C_rustIn 36 (.ifCond .eq 5) 3 := (by decide +kernel : decode prog_1_method_37_code 36 = .ok (.ifCond .eq 5, 3))
theorem d_C_rustIn_39 : m_D k_C_rustIn 39 (.iconst (-1)) 1 := (by decide +kernel : decode prog_1_method_37_code 39 = .ok (.iconst (-1), 1))
theorem d_C_rustIn_40 : m_D k_C_rustIn 40 (.ireturn) 1 := (by decide +kernel : decode prog_1_method_37_code 40 = .ok (.ireturn, 1))
theorem d_C_rustIn_41 : m_D k_C_rustIn 41 (.aload_n 0) 1 := (by decide +kernel : decode prog_1_method_37_code 41 = .ok (.aload_n 0, 1))
theorem d_C_rustIn_42 : m_D k_C_rustIn 42 (.getfield 61) 3 := (by decide +kernel : decode prog_1_method_37_code 42 = .ok (.getfield 61, 3))
theorem d_C_rustIn_45 : m_D k_C_rustIn 45 (.aload_n 0) 1 := (by decide +kernel : decode prog_1_method_37_code 45 = .ok (.aload_n 0, 1))
theorem d_C_rustIn_46 : m_D k_C_rustIn 46 (.getfield 37) 3 := (by decide +kernel : decode prog_1_method_37_code 46 = .ok (.getfield 37, 3))
theorem d_C_rustIn_49 : m_D k_C_rustIn 49 (.iload_n 1) 1 := (by decide +kernel : decode prog_1_method_37_code 49 = .ok (.iload_n 1, 1))
theorem d_C_rustIn_50 : m_D k_C_rustIn 50 (.iload_n 2) 1 := (by decide +kernel : decode prog_1_method_37_code 50 = .ok (.iload_n 2, 1))
theorem d_C_rustIn_51 : m_D k_C_rustIn 51 (.invokevirtual 302) 3 := (by decide +kernel : decode prog_1_method_37_code 51 = .ok (.invokevirtual 302, 3))
theorem d_C_rustIn_54 : m_D k_C_rustIn 54 (.ireturn) 1 := (by decide +kernel : decode prog_1_method_37_code 54 = .ok (.ireturn, 1))
def fn_C_rustIn (x0 : Option mA) (x1 : Int32) (x2 : Int32) : mP Int32 :=
  m_th 0 x0 <|
  m_bd (fn_C_isThing x0 x1) fun v1 =>
  m_bd (α := Int32) (
    if v1 = 0 then
      m_rt 2
    else
      m_bd (fn_C_isWithin x2 0 200) fun v2 =>
      if v2 = 0 then
        m_rt 5
      else
        m_rt 0
    ) fun (t3 : Int32) =>
  m_bd (m_pI 0 0 x0 t3) fun _ =>
  m_bd (m_gI 0 0 x0) fun v4 =>
  if v4 = 0 then
    m_bd (m_gR 0 10 x0) fun v5 =>
    m_bd (m_gR 0 5 x0) fun v6 =>
    m_bd (fn_Ah_rustAfter v5 v6 x1 x2) fun v7 =>
    m_rt v7
  else
    m_rt (-1)
set_option maxHeartbeats 4000000 in
set_option maxRecDepth 100000 in
theorem sd_C_rustIn (x0 : Option mA) (x1 : Int32) (x2 : Int32) : m_Sm k_C_rustIn 6 0 0 [.inr (.inr x0), .inl x1, .inl x2] (fn_C_rustIn x0 x1 x2) (fun b => some (.inl b)) := by
  refine ⟨Nat.le_of_ble_eq_true rfl, ?_⟩
  refine sm_th ?_
  refine sm_aload_n (i := 0) (j := 0) (pc' := 1) d_C_rustIn_0 rfl rfl rfl (sm_aload_n (i := 0) (j := 0) (pc' := 2) d_C_rustIn_1 rfl rfl rfl (sm_iload_n (i := 1) (j := 1) (pc' := 3) d_C_rustIn_2 rfl rfl rfl ?_))
  refine sm_callVi (ci := 0) (x := x0) (av := [.inl x1]) (st := [.inr (.inr x0)]) (mc := 0) (ms := 0) (pc' := 6) d_C_rustIn_3 rfl (sd_C_isThing x0 x1) m_lv rfl cv_C_isThing w_ml_C_233 rfl rfl (by decide) (Nat.le_of_ble_eq_true rfl) rfl rfl (fun v1 => ?_)
  refine sm_bd (mid := fun (t3 : Int32) => .inl (29, [(0, .inr (.inr x0)), (1, .inl x1), (2, .inl x2)], [.inl t3, .inr (.inr x0)])) ?_ (fun t3 => ?_)
  · refine sm_if_ne (tgt := 13) (pc' := 9) d_C_rustIn_6 rfl rfl ?_ ?_
    · refine sm_iload_n (i := 2) (j := 2) (pc' := 14) d_C_rustIn_13 rfl rfl rfl (sm_iconst (pc' := 15) d_C_rustIn_14 rfl ic_0 (sm_sipush (pc' := 18) d_C_rustIn_15 rfl is_200 ?_))
      refine sm_callSi (av := [.inl x2, .inl 0, .inl 200]) (st := [.inr (.inr x0)]) (mc := 0) (ms := 0) (pc' := 21) d_C_rustIn_18 rfl (sd_C_isWithin x2 0 200) cs_C_isWithin w_ml_C_269 rfl rfl (by decide) (Nat.le_of_ble_eq_true rfl) rfl rfl (fun v2 => ?_)
      refine sm_if_ne (tgt := 28) (pc' := 24) d_C_rustIn_21 rfl rfl ?_ ?_
      · refine sm_iconst (pc' := 29) d_C_rustIn_28 rfl ic_0 (sm_sub [0, 1, 2] rfl ?_)
        exact sm_rt rfl
      · refine sm_iconst (pc' := 25) d_C_rustIn_24 rfl ic_5 (sm_goto (tgt := 29) d_C_rustIn_25 rfl (sm_sub [0, 1, 2] rfl ?_))
        exact sm_rt rfl
    · refine sm_iconst (pc' := 10) d_C_rustIn_9 rfl ic_2 (sm_goto (tgt := 29) d_C_rustIn_10 rfl (sm_sub [0, 1, 2] rfl ?_))
      exact sm_rt rfl
  · refine sm_putI (pc' := 32) d_C_rustIn_29 rfl fl_C_9 (Or.inl rfl) rfl (sm_aload_n (i := 0) (j := 0) (pc' := 33) d_C_rustIn_32 rfl rfl rfl ?_)
    refine sm_getI (pc' := 36) d_C_rustIn_33 rfl fl_C_9 rfl ⟨by decide, by decide⟩ (fun v4 => ?_)
    refine sm_if_eq (tgt := 41) (pc' := 39) d_C_rustIn_36 rfl rfl ?_ ?_
    · refine sm_aload_n (i := 0) (j := 0) (pc' := 42) d_C_rustIn_41 rfl rfl rfl ?_
      refine sm_getR (pc' := 45) d_C_rustIn_42 rfl fl_C_61 rfl rfl (fun v5 => ?_)
      refine sm_aload_n (i := 0) (j := 0) (pc' := 46) d_C_rustIn_45 rfl rfl rfl ?_
      refine sm_getR (pc' := 49) d_C_rustIn_46 rfl fl_C_37 rfl rfl (fun v6 => ?_)
      refine sm_iload_n (i := 1) (j := 1) (pc' := 50) d_C_rustIn_49 rfl rfl rfl (sm_iload_n (i := 2) (j := 2) (pc' := 51) d_C_rustIn_50 rfl rfl rfl ?_)
      refine sm_callVi (ci := 7) (x := v5) (av := [.inr (.inr v6), .inl x1, .inl x2]) (st := []) (mc := 0) (ms := 0) (pc' := 54) d_C_rustIn_51 rfl (sd_Ah_rustAfter v5 v6 x1 x2) m_lv rfl cv_Ah_rustAfter w_ml_C_302 rfl rfl (by decide) (Nat.le_of_ble_eq_true rfl) rfl rfl (fun v7 => ?_)
      exact sm_ireturn d_C_rustIn_54 rfl rfl
    · refine sm_iconst (pc' := 40) d_C_rustIn_39 rfl ic_m1 ?_
      exact sm_ireturn d_C_rustIn_40 rfl rfl
theorem d_C_orNone_0 : m_D k_C_orNone 0 (.iload_n 1) 1 := (by decide +kernel : decode prog_1_method_44_code 0 = .ok (.iload_n 1, 1))
theorem d_C_orNone_1 : m_D k_C_orNone 1 (.iconst (-1)) 1 := (by decide +kernel : decode prog_1_method_44_code 1 = .ok (.iconst (-1), 1))
theorem d_C_orNone_2 : m_D k_C_orNone 2 (.if_icmp .ne 9) 3 := (by decide +kernel : decode prog_1_method_44_code 2 = .ok (.if_icmp .ne 9, 3))
theorem d_C_orNone_5 : m_D k_C_orNone 5 (.aload_n 0) 1 := (by decide +kernel : decode prog_1_method_44_code 5 = .ok (.aload_n 0, 1))
theorem d_C_orNone_6 : m_D k_C_orNone 6 (.bipush 8) 2 := (by decide +kernel : decode prog_1_method_44_code 6 = .ok (.bipush 8, 2))
theorem d_C_orNone_8 : m_D k_C_orNone 8 (.putfield 9) 3 := (by decide +kernel : decode prog_1_method_44_code 8 = .ok (.putfield 9, 3))
theorem d_C_orNone_11 : m_D k_C_orNone 11 (.iload_n 1) 1 := (by decide +kernel : decode prog_1_method_44_code 11 = .ok (.iload_n 1, 1))
theorem d_C_orNone_12 : m_D k_C_orNone 12 (.ireturn) 1 := (by decide +kernel : decode prog_1_method_44_code 12 = .ok (.ireturn, 1))
def fn_C_orNone (x0 : Option mA) (x1 : Int32) : mP Int32 :=
  m_th 0 x0 <|
  if x1 = (-1) then
    m_bd (m_pI 0 0 x0 8) fun _ =>
    m_rt x1
  else
    m_rt x1
set_option maxHeartbeats 4000000 in
set_option maxRecDepth 100000 in
theorem sd_C_orNone (x0 : Option mA) (x1 : Int32) : m_Sm k_C_orNone 1 0 0 [.inr (.inr x0), .inl x1] (fn_C_orNone x0 x1) (fun b => some (.inl b)) := by
  refine ⟨Nat.le_of_ble_eq_true rfl, ?_⟩
  refine sm_th ?_
  refine sm_iload_n (i := 1) (j := 1) (pc' := 1) d_C_orNone_0 rfl rfl rfl (sm_iconst (pc' := 2) d_C_orNone_1 rfl ic_m1 ?_)
  refine sm_icmp_ne (tgt := 11) (pc' := 5) d_C_orNone_2 rfl rfl ?_ ?_
  · refine sm_iload_n (i := 1) (j := 1) (pc' := 12) d_C_orNone_11 rfl rfl rfl ?_
    exact sm_ireturn d_C_orNone_12 rfl rfl
  · refine sm_aload_n (i := 0) (j := 0) (pc' := 6) d_C_orNone_5 rfl rfl rfl (sm_bipush (pc' := 8) d_C_orNone_6 rfl ib_8 (sm_putI (pc' := 11) d_C_orNone_8 rfl fl_C_9 (Or.inl rfl) rfl (sm_iload_n (i := 1) (j := 1) (pc' := 12) d_C_orNone_11 rfl rfl rfl ?_)))
    exact sm_ireturn d_C_orNone_12 rfl rfl
theorem d_C_throughIn_0 : m_D k_C_throughIn 0 (.aload_n 0) 1 := (by decide +kernel : decode prog_1_method_38_code 0 = .ok (.aload_n 0, 1))
theorem d_C_throughIn_1 : m_D k_C_throughIn 1 (.aload_n 0) 1 := (by decide +kernel : decode prog_1_method_38_code 1 = .ok (.aload_n 0, 1))
theorem d_C_throughIn_2 : m_D k_C_throughIn 2 (.iload_n 1) 1 := (by decide +kernel : decode prog_1_method_38_code 2 = .ok (.iload_n 1, 1))
theorem d_C_throughIn_3 : m_D k_C_throughIn 3 (.invokevirtual 233) 3 := (by decide +kernel : decode prog_1_method_38_code 3 = .ok (.invokevirtual 233, 3))
theorem d_C_throughIn_6 : m_D k_C_throughIn 6 (.ifCond .eq 7) 3 := (by decide +kernel : decode prog_1_method_38_code 6 = .ok (.ifCond .eq 7, 3))
theorem d_C_throughIn_9 : m_D k_C_throughIn 9 (.iconst 0) 1 := (by decide +kernel : decode prog_1_method_38_code 9 = .ok (.iconst 0, 1))
theorem d_C_throughIn_10 : m_D k_C_throughIn 10 (.goto 4) 3 := (by decide +kernel : decode prog_1_method_38_code 10 = .ok (.goto 4, 3))
theorem d_C_throughIn_13 : m_D k_C_throughIn 13 (.iconst 2) 1 := (by decide +kernel : decode prog_1_method_38_code 13 = .ok (.iconst 2, 1))
theorem d_C_throughIn_14 : m_D k_C_throughIn 14 (.putfield 9) 3 := (by decide +kernel : decode prog_1_method_38_code 14 = .ok (.putfield 9, 3))
theorem d_C_throughIn_17 : m_D k_C_throughIn 17 (.aload_n 0) 1 := (by decide +kernel : decode prog_1_method_38_code 17 = .ok (.aload_n 0, 1))
theorem d_C_throughIn_18 : m_D k_C_throughIn 18 (.getfield 9) 3 := (by decide +kernel : decode prog_1_method_38_code 18 = .ok (.getfield 9, 3))
theorem d_C_throughIn_21 : m_D k_C_throughIn 21 (.ifCond .eq 5) 3 := (by decide +kernel : decode prog_1_method_38_code 21 = .ok (.ifCond .eq 5, 3))
theorem d_C_throughIn_24 : m_D k_C_throughIn 24 (.iconst (-1)) 1 := (by decide +kernel : decode prog_1_method_38_code 24 = .ok (.iconst (-1), 1))
theorem d_C_throughIn_25 : m_D k_C_throughIn 25 (.ireturn) 1 := (by decide +kernel : decode prog_1_method_38_code 25 = .ok (.ireturn, 1))
theorem d_C_throughIn_26 : m_D k_C_throughIn 26 (.aload_n 0) 1 := (by decide +kernel : decode prog_1_method_38_code 26 = .ok (.aload_n 0, 1))
theorem d_C_throughIn_27 : m_D k_C_throughIn 27 (.aload_n 0) 1 := (by decide +kernel : decode prog_1_method_38_code 27 = .ok (.aload_n 0, 1))
theorem d_C_throughIn_28 : m_D k_C_throughIn 28 (.getfield 61) 3 := (by decide +kernel : decode prog_1_method_38_code 28 = .ok (.getfield 61, 3))
theorem d_C_throughIn_31 : m_D k_C_throughIn 31 (.aload_n 0) 1 := (by decide +kernel : decode prog_1_method_38_code 31 = .ok (.aload_n 0, 1))
theorem d_C_throughIn_32 : m_D k_C_throughIn 32 (.getfield 37) 3 := (by decide +kernel : decode prog_1_method_38_code 32 = .ok (.getfield 37, 3))
theorem d_C_throughIn_35 : m_D k_C_throughIn 35 (.iload_n 1) 1 := (by decide +kernel : decode prog_1_method_38_code 35 = .ok (.iload_n 1, 1))
theorem d_C_throughIn_36 : m_D k_C_throughIn 36 (.sipush 200) 3 := (by decide +kernel : decode prog_1_method_38_code 36 = .ok (.sipush 200, 3))
theorem d_C_throughIn_39 : m_D k_C_throughIn 39 (.iconst (-1)) 1 := (by decide +kernel : decode prog_1_method_38_code 39 = .ok (.iconst (-1), 1))
theorem d_C_throughIn_40 : m_D k_C_throughIn 40 (.iconst 0) 1 := (by decide +kernel : decode prog_1_method_38_code 40 = .ok (.iconst 0, 1))
theorem d_C_throughIn_41 : m_D k_C_throughIn 41 (.invokevirtual 306) 3 := (by decide +kernel : decode prog_1_method_38_code 41 = .ok (.invokevirtual 306, 3))
theorem d_C_throughIn_44 : m_D k_C_throughIn 44 (.invokevirtual 310) 3 := (by decide +kernel : decode prog_1_method_38_code 44 = .ok (.invokevirtual 310, 3))
theorem d_C_throughIn_47 : m_D k_C_throughIn 47 (.ireturn) 1 := (by decide +kernel : decode prog_1_method_38_code 47 = .ok (.ireturn, 1))
def fn_C_throughIn (x0 : Option mA) (x1 : Int32) : mP Int32 :=
  m_th 0 x0 <|
  m_bd (fn_C_isThing x0 x1) fun v1 =>
  m_bd (α := Int32) (
    if v1 = 0 then
      m_rt 2
    else
      m_rt 0
    ) fun (t2 : Int32) =>
  m_bd (m_pI 0 0 x0 t2) fun _ =>
  m_bd (m_gI 0 0 x0) fun v3 =>
  if v3 = 0 then
    m_bd (m_gR 0 10 x0) fun v4 =>
    m_bd (m_gR 0 5 x0) fun v5 =>
    m_bd (fn_Ah_walk v4 v5 x1 200 (-1) 0) fun v6 =>
    m_bd (fn_C_orNone x0 v6) fun v7 =>
    m_rt v7
  else
    m_rt (-1)
set_option maxHeartbeats 4000000 in
set_option maxRecDepth 100000 in
theorem sd_C_throughIn (x0 : Option mA) (x1 : Int32) : m_Sm k_C_throughIn 5 0 0 [.inr (.inr x0), .inl x1] (fn_C_throughIn x0 x1) (fun b => some (.inl b)) := by
  refine ⟨Nat.le_of_ble_eq_true rfl, ?_⟩
  refine sm_th ?_
  refine sm_aload_n (i := 0) (j := 0) (pc' := 1) d_C_throughIn_0 rfl rfl rfl (sm_aload_n (i := 0) (j := 0) (pc' := 2) d_C_throughIn_1 rfl rfl rfl (sm_iload_n (i := 1) (j := 1) (pc' := 3) d_C_throughIn_2 rfl rfl rfl ?_))
  refine sm_callVi (ci := 0) (x := x0) (av := [.inl x1]) (st := [.inr (.inr x0)]) (mc := 0) (ms := 0) (pc' := 6) d_C_throughIn_3 rfl (sd_C_isThing x0 x1) m_lv rfl cv_C_isThing w_ml_C_233 rfl rfl (by decide) (Nat.le_of_ble_eq_true rfl) rfl rfl (fun v1 => ?_)
  refine sm_bd (mid := fun (t2 : Int32) => .inl (14, [(0, .inr (.inr x0)), (1, .inl x1)], [.inl t2, .inr (.inr x0)])) ?_ (fun t2 => ?_)
  · refine sm_if_eq (tgt := 13) (pc' := 9) d_C_throughIn_6 rfl rfl ?_ ?_
    · refine sm_iconst (pc' := 14) d_C_throughIn_13 rfl ic_2 (sm_sub [0, 1] rfl ?_)
      exact sm_rt rfl
    · refine sm_iconst (pc' := 10) d_C_throughIn_9 rfl ic_0 (sm_goto (tgt := 14) d_C_throughIn_10 rfl (sm_sub [0, 1] rfl ?_))
      exact sm_rt rfl
  · refine sm_putI (pc' := 17) d_C_throughIn_14 rfl fl_C_9 (Or.inl rfl) rfl (sm_aload_n (i := 0) (j := 0) (pc' := 18) d_C_throughIn_17 rfl rfl rfl ?_)
    refine sm_getI (pc' := 21) d_C_throughIn_18 rfl fl_C_9 rfl ⟨by decide, by decide⟩ (fun v3 => ?_)
    refine sm_if_eq (tgt := 26) (pc' := 24) d_C_throughIn_21 rfl rfl ?_ ?_
    · refine sm_aload_n (i := 0) (j := 0) (pc' := 27) d_C_throughIn_26 rfl rfl rfl (sm_aload_n (i := 0) (j := 0) (pc' := 28) d_C_throughIn_27 rfl rfl rfl ?_)
      refine sm_getR (pc' := 31) d_C_throughIn_28 rfl fl_C_61 rfl rfl (fun v4 => ?_)
      refine sm_aload_n (i := 0) (j := 0) (pc' := 32) d_C_throughIn_31 rfl rfl rfl ?_
      refine sm_getR (pc' := 35) d_C_throughIn_32 rfl fl_C_37 rfl rfl (fun v5 => ?_)
      refine sm_iload_n (i := 1) (j := 1) (pc' := 36) d_C_throughIn_35 rfl rfl rfl (sm_sipush (pc' := 39) d_C_throughIn_36 rfl is_200 (sm_iconst (pc' := 40) d_C_throughIn_39 rfl ic_m1 (sm_iconst (pc' := 41) d_C_throughIn_40 rfl ic_0 ?_)))
      refine sm_callVi (ci := 7) (x := v4) (av := [.inr (.inr v5), .inl x1, .inl 200, .inl (-1), .inl 0]) (st := [.inr (.inr x0)]) (mc := 0) (ms := 0) (pc' := 44) d_C_throughIn_41 rfl (sd_Ah_walk v4 v5 x1 200 (-1) 0) m_lv rfl cv_Ah_walk w_ml_C_306 rfl rfl (by decide) (Nat.le_of_ble_eq_true rfl) rfl rfl (fun v6 => ?_)
      refine sm_callVi (ci := 0) (x := x0) (av := [.inl v6]) (st := []) (mc := 0) (ms := 0) (pc' := 47) d_C_throughIn_44 rfl (sd_C_orNone x0 v6) m_lv rfl cv_C_orNone w_ml_C_310 rfl rfl (by decide) (Nat.le_of_ble_eq_true rfl) rfl rfl (fun v7 => ?_)
      exact sm_ireturn d_C_throughIn_47 rfl rfl
    · refine sm_iconst (pc' := 25) d_C_throughIn_24 rfl ic_m1 ?_
      exact sm_ireturn d_C_throughIn_25 rfl rfl
theorem d_C_firstThrough_0 : m_D k_C_firstThrough 0 (.aload_n 0) 1 := (by decide +kernel : decode prog_1_method_39_code 0 = .ok (.aload_n 0, 1))
theorem d_C_firstThrough_1 : m_D k_C_firstThrough 1 (.iconst 0) 1 := (by decide +kernel : decode prog_1_method_39_code 1 = .ok (.iconst 0, 1))
theorem d_C_firstThrough_2 : m_D k_C_firstThrough 2 (.putfield 9) 3 := (by decide +kernel : decode prog_1_method_39_code 2 = .ok (.putfield 9, 3))
theorem d_C_firstThrough_5 : m_D k_C_firstThrough 5 (.iconst (-1)) 1 := (by decide +kernel : decode prog_1_method_39_code 5 = .ok (.iconst (-1), 1))
theorem d_C_firstThrough_6 : m_D k_C_firstThrough 6 (.istore_n 1) 1 := (by decide +kernel : decode prog_1_method_39_code 6 = .ok (.istore_n 1, 1))
theorem d_C_firstThrough_7 : m_D k_C_firstThrough 7 (.sipush 201) 3 := (by decide +kernel : decode prog_1_method_39_code 7 = .ok (.sipush 201, 3))
theorem d_C_firstThrough_10 : m_D k_C_firstThrough 10 (.istore_n 2) 1 := (by decide +kernel : decode prog_1_method_39_code 10 = .ok (.istore_n 2, 1))
theorem d_C_firstThrough_11 : m_D k_C_firstThrough 11 (.iconst 0) 1 := (by decide +kernel : decode prog_1_method_39_code 11 = .ok (.iconst 0, 1))
theorem d_C_firstThrough_12 : m_D k_C_firstThrough 12 (.istore_n 3) 1 := (by decide +kernel : decode prog_1_method_39_code 12 = .ok (.istore_n 3, 1))
theorem d_C_firstThrough_13 : m_D k_C_firstThrough 13 (.iload_n 3) 1 := (by decide +kernel : decode prog_1_method_39_code 13 = .ok (.iload_n 3, 1))
theorem d_C_firstThrough_14 : m_D k_C_firstThrough 14 (.aload_n 0) 1 := (by decide +kernel : decode prog_1_method_39_code 14 = .ok (.aload_n 0, 1))
theorem d_C_firstThrough_15 : m_D k_C_firstThrough 15 (.getfield 37) 3 := (by decide +kernel : decode prog_1_method_39_code 15 = .ok (.getfield 37, 3))
theorem d_C_firstThrough_18 : m_D k_C_firstThrough 18 (.getfield 156) 3 := (by decide +kernel : decode prog_1_method_39_code 18 = .ok (.getfield 156, 3))
theorem d_C_firstThrough_21 : m_D k_C_firstThrough 21 (.if_icmp .ge 45) 3 := (by decide +kernel : decode prog_1_method_39_code 21 = .ok (.if_icmp .ge 45, 3))
theorem d_C_firstThrough_24 : m_D k_C_firstThrough 24 (.aload_n 0) 1 := (by decide +kernel : decode prog_1_method_39_code 24 = .ok (.aload_n 0, 1))
theorem d_C_firstThrough_25 : m_D k_C_firstThrough 25 (.getfield 61) 3 := (by decide +kernel : decode prog_1_method_39_code 25 = .ok (.getfield 61, 3))
theorem d_C_firstThrough_28 : m_D k_C_firstThrough 28 (.aload_n 0) 1 := (by decide +kernel : decode prog_1_method_39_code 28 = .ok (.aload_n 0, 1))
theorem d_C_firstThrough_29 : m_D k_C_firstThrough 29 (.getfield 37) 3 := (by decide +kernel : decode prog_1_method_39_code 29 = .ok (.getfield 37, 3))
theorem d_C_firstThrough_32 : m_D k_C_firstThrough 32 (.iload_n 3) 1 := (by decide +kernel : decode prog_1_method_39_code 32 = .ok (.iload_n 3, 1))
theorem d_C_firstThrough_33 : m_D k_C_firstThrough 33 (.sipush 200) 3 := (by decide +kernel : decode prog_1_method_39_code 33 = .ok (.sipush 200, 3))
theorem d_C_firstThrough_36 : m_D k_C_firstThrough 36 (.iconst (-1)) 1 := (by decide +kernel : decode prog_1_method_39_code 36 = .ok (.iconst (-1), 1))
theorem d_C_firstThrough_37 : m_D k_C_firstThrough 37 (.iconst 0) 1 := (by decide +kernel : decode prog_1_method_39_code 37 = .ok (.iconst 0, 1))
theorem d_C_firstThrough_38 : m_D k_C_firstThrough 38 (.invokevirtual 306) 3 := (by decide +kernel : decode prog_1_method_39_code 38 = .ok (.invokevirtual 306, 3))
theorem d_C_firstThrough_41 : m_D k_C_firstThrough 41 (.istore 4) 2 := (by decide +kernel : decode prog_1_method_39_code 41 = .ok (.istore 4, 2))
theorem d_C_firstThrough_43 : m_D k_C_firstThrough 43 (.iload 4) 2 := (by decide +kernel : decode prog_1_method_39_code 43 = .ok (.iload 4, 2))
theorem d_C_firstThrough_45 : m_D k_C_firstThrough 45 (.iconst (-1)) 1 := (by decide +kernel : decode prog_1_method_39_code 45 = .ok (.iconst (-1), 1))
theorem d_C_firstThrough_46 : m_D k_C_firstThrough 46 (.if_icmp .eq 14) 3 := (by decide +kernel : decode prog_1_method_39_code 46 = .ok (.if_icmp .eq 14, 3))
theorem d_C_firstThrough_49 : m_D k_C_firstThrough 49 (.iload 4) 2 := (by decide +kernel : decode prog_1_method_39_code 49 = .ok (.iload 4, 2))
theorem d_C_firstThrough_51 : m_D k_C_firstThrough 51 (.iload_n 2) 1 := (by decide +kernel : decode prog_1_method_39_code 51 = .ok (.iload_n 2, 1))
theorem d_C_firstThrough_52 : m_D k_C_firstThrough 52 (.if_icmp .ge 8) 3 := (by decide +kernel : decode prog_1_method_39_code 52 = .ok (.if_icmp .ge 8, 3))
theorem d_C_firstThrough_55 : m_D k_C_firstThrough 55 (.iload_n 3) 1 := (by decide +kernel : decode prog_1_method_39_code 55 = .ok (.iload_n 3, 1))
theorem d_C_firstThrough_56 : m_D k_C_firstThrough 56 (.istore_n 1) 1 := (by decide +kernel : decode prog_1_method_39_code 56 = .ok (.istore_n 1, 1))
theorem d_C_firstThrough_57 : m_D k_C_firstThrough 57 (.iload 4) 2 := (by decide +kernel : decode prog_1_method_39_code 57 = .ok (.iload 4, 2))
theorem d_C_firstThrough_59 : m_D k_C_firstThrough 59 (.istore_n 2) 1 := (by decide +kernel : decode prog_1_method_39_code 59 = .ok (.istore_n 2, 1))
theorem d_C_firstThrough_60 : m_D k_C_firstThrough 60 (.iinc 3 1) 3 := (by decide +kernel : decode prog_1_method_39_code 60 = .ok (.iinc 3 1, 3))
theorem d_C_firstThrough_63 : m_D k_C_firstThrough 63 (.goto (-50)) 3 := (by decide +kernel : decode prog_1_method_39_code 63 = .ok (.goto (-50), 3))
theorem d_C_firstThrough_66 : m_D k_C_firstThrough 66 (.aload_n 0) 1 := (by decide +kernel : decode prog_1_method_39_code 66 = .ok (.aload_n 0, 1))
theorem d_C_firstThrough_67 : m_D k_C_firstThrough 67 (.iload_n 1) 1 := (by decide +kernel : decode prog_1_method_39_code 67 = .ok (.iload_n 1, 1))
theorem d_C_firstThrough_68 : m_D k_C_firstThrough 68 (.invokevirtual 310) 3 := (by decide +kernel : decode prog_1_method_39_code 68 = .ok (.invokevirtual 310, 3))
theorem d_C_firstThrough_71 : m_D k_C_firstThrough 71 (.ireturn) 1 := (by decide +kernel : decode prog_1_method_39_code 71 = .ok (.ireturn, 1))
def fn_C_firstThrough_l13 (x0 : Option mA) (t1 : Int32 × Int32 × Int32) : mP ((Int32 × Int32 × Int32) ⊕ (Int32)) :=
  m_bd (m_gR 0 5 x0) fun v2 =>
  m_bd (m_gI 3 1 v2) fun v3 =>
  if v3 ≤ t1.2.2 then
    m_rt (.inr t1.1)
  else
    m_bd (m_gR 0 10 x0) fun v4 =>
    m_bd (m_gR 0 5 x0) fun v5 =>
    m_bd (fn_Ah_walk v4 v5 t1.2.2 200 (-1) 0) fun v6 =>
    m_bd (α := Int32 × Int32) (
      if v6 = (-1) then
        m_rt (t1.1, t1.2.1)
      else
        if t1.2.1 ≤ v6 then
          m_rt (t1.1, t1.2.1)
        else
          m_rt (t1.2.2, v6)
      ) fun (t7 : Int32 × Int32) =>
    m_rt (.inl (t7.1, t7.2, (t1.2.2 + 1)))
def fn_C_firstThrough (x0 : Option mA) : mP Int32 :=
  m_th 0 x0 <|
  m_bd (m_pI 0 0 x0 0) fun _ =>
  m_bd (m_lp (fn_C_firstThrough_l13 x0) m_F ((-1), 201, 0)) fun (t8 : Int32) =>
  m_bd (fn_C_orNone x0 t8) fun v9 =>
  m_rt v9
set_option maxHeartbeats 4000000 in
set_option maxRecDepth 100000 in
theorem sd_C_firstThrough (x0 : Option mA) : m_Sm k_C_firstThrough 5 0 0 [.inr (.inr x0)] (fn_C_firstThrough x0) (fun b => some (.inl b)) := by
  refine ⟨Nat.le_of_ble_eq_true rfl, ?_⟩
  refine sm_th ?_
  refine sm_aload_n (i := 0) (j := 0) (pc' := 1) d_C_firstThrough_0 rfl rfl rfl (sm_iconst (pc' := 2) d_C_firstThrough_1 rfl ic_0 (sm_putI (pc' := 5) d_C_firstThrough_2 rfl fl_C_9 (Or.inl rfl) rfl (sm_iconst (pc' := 6) d_C_firstThrough_5 rfl ic_m1 (sm_istore_n (i := 1) (L' := [(1, .inl (-1)), (0, .inr (.inr x0))]) (pc' := 7) d_C_firstThrough_6 rfl rfl (Nat.le_of_ble_eq_true rfl) rfl (sm_sipush (pc' := 10) d_C_firstThrough_7 rfl is_201 (sm_istore_n (i := 2) (L' := [(2, .inl 201), (1, .inl (-1)), (0, .inr (.inr x0))]) (pc' := 11) d_C_firstThrough_10 rfl rfl (Nat.le_of_ble_eq_true rfl) rfl (sm_iconst (pc' := 12) d_C_firstThrough_11 rfl ic_0 (sm_istore_n (i := 3) (L' := [(3, .inl 0), (2, .inl 201), (1, .inl (-1)), (0, .inr (.inr x0))]) (pc' := 13) d_C_firstThrough_12 rfl rfl (Nat.le_of_ble_eq_true rfl) rfl ?_))))))))
  refine sm_sub [2, 1, 0, 3] rfl ?_
  refine sm_bd (mid := fun (t8 : Int32) => .inl (66, [(1, .inl t8), (0, .inr (.inr x0))], [])) (sm_lp (hd := fun (t1 : Int32 × Int32 × Int32) => (.inl (13, [(1, .inl t1.1), (2, .inl t1.2.1), (3, .inl t1.2.2), (0, .inr (.inr x0))], []) : mC)) (fun t1 => ?_) m_F ((-1), 201, 0)) (fun t8 => ?_)
  · refine sm_iload_n (i := 3) (j := 2) (pc' := 14) d_C_firstThrough_13 rfl rfl rfl (sm_aload_n (i := 0) (j := 3) (pc' := 15) d_C_firstThrough_14 rfl rfl rfl ?_)
    refine sm_getR (pc' := 18) d_C_firstThrough_15 rfl fl_C_37 rfl rfl (fun v2 => ?_)
    refine sm_getI (pc' := 21) d_C_firstThrough_18 rfl fl_C_156 rfl ⟨by decide, by decide⟩ (fun v3 => ?_)
    refine sm_icmp_ge (tgt := 66) (pc' := 24) d_C_firstThrough_21 rfl rfl ?_ ?_
    · refine sm_sub [0, 3] rfl ?_
      exact sm_rt rfl
    · refine sm_aload_n (i := 0) (j := 3) (pc' := 25) d_C_firstThrough_24 rfl rfl rfl ?_
      refine sm_getR (pc' := 28) d_C_firstThrough_25 rfl fl_C_61 rfl rfl (fun v4 => ?_)
      refine sm_aload_n (i := 0) (j := 3) (pc' := 29) d_C_firstThrough_28 rfl rfl rfl ?_
      refine sm_getR (pc' := 32) d_C_firstThrough_29 rfl fl_C_37 rfl rfl (fun v5 => ?_)
      refine sm_iload_n (i := 3) (j := 2) (pc' := 33) d_C_firstThrough_32 rfl rfl rfl (sm_sipush (pc' := 36) d_C_firstThrough_33 rfl is_200 (sm_iconst (pc' := 37) d_C_firstThrough_36 rfl ic_m1 (sm_iconst (pc' := 38) d_C_firstThrough_37 rfl ic_0 ?_)))
      refine sm_callVi (ci := 7) (x := v4) (av := [.inr (.inr v5), .inl t1.2.2, .inl 200, .inl (-1), .inl 0]) (st := []) (mc := 0) (ms := 0) (pc' := 41) d_C_firstThrough_38 rfl (sd_Ah_walk v4 v5 t1.2.2 200 (-1) 0) m_lv rfl cv_Ah_walk w_ml_C_306 rfl rfl (by decide) (Nat.le_of_ble_eq_true rfl) rfl rfl (fun v6 => ?_)
      refine sm_istore (L' := [(4, .inl v6), (1, .inl t1.1), (2, .inl t1.2.1), (3, .inl t1.2.2), (0, .inr (.inr x0))]) (pc' := 43) d_C_firstThrough_41 rfl (Nat.le_of_ble_eq_true rfl) rfl (sm_iload (j := 0) (pc' := 45) d_C_firstThrough_43 rfl rfl (sm_iconst (pc' := 46) d_C_firstThrough_45 rfl ic_m1 ?_))
      refine sm_bd (mid := fun (t7 : Int32 × Int32) => .inl (60, [(0, .inr (.inr x0)), (1, .inl t7.1), (2, .inl t7.2), (3, .inl t1.2.2)], [])) ?_ (fun t7 => ?_)
      · refine sm_icmp_eq (tgt := 60) (pc' := 49) d_C_firstThrough_46 rfl rfl ?_ ?_
        · refine sm_sub [4, 1, 2, 3] rfl ?_
          exact sm_rt rfl
        · refine sm_iload (j := 0) (pc' := 51) d_C_firstThrough_49 rfl rfl (sm_iload_n (i := 2) (j := 2) (pc' := 52) d_C_firstThrough_51 rfl rfl rfl ?_)
          refine sm_icmp_ge (tgt := 60) (pc' := 55) d_C_firstThrough_52 rfl rfl ?_ ?_
          · refine sm_sub [4, 1, 2, 3] rfl ?_
            exact sm_rt rfl
          · refine sm_iload_n (i := 3) (j := 3) (pc' := 56) d_C_firstThrough_55 rfl rfl rfl (sm_istore_n (i := 1) (L' := [(1, .inl t1.2.2), (4, .inl v6), (2, .inl t1.2.1), (3, .inl t1.2.2), (0, .inr (.inr x0))]) (pc' := 57) d_C_firstThrough_56 rfl rfl (Nat.le_of_ble_eq_true rfl) rfl (sm_iload (j := 1) (pc' := 59) d_C_firstThrough_57 rfl rfl (sm_istore_n (i := 2) (L' := [(2, .inl v6), (1, .inl t1.2.2), (4, .inl v6), (3, .inl t1.2.2), (0, .inr (.inr x0))]) (pc' := 60) d_C_firstThrough_59 rfl rfl (Nat.le_of_ble_eq_true rfl) rfl (sm_sub [4, 1, 0, 3] rfl ?_))))
            exact sm_rt rfl
      · refine sm_iinc (j := 3) (L' := [(3, .inl (t1.2.2 + 1)), (0, .inr (.inr x0)), (1, .inl t7.1), (2, .inl t7.2)]) (pc' := 63) d_C_firstThrough_60 rfl (v := (t1.2.2 + 1)) rfl (ix_1 _) (Nat.le_of_ble_eq_true rfl) rfl (sm_goto (tgt := 13) d_C_firstThrough_63 rfl (sm_sub [2, 3, 0, 1] rfl ?_))
        exact sm_rt rfl
  · refine sm_aload_n (i := 0) (j := 1) (pc' := 67) d_C_firstThrough_66 rfl rfl rfl (sm_iload_n (i := 1) (j := 0) (pc' := 68) d_C_firstThrough_67 rfl rfl rfl ?_)
    refine sm_callVi (ci := 0) (x := x0) (av := [.inl t8]) (st := []) (mc := 0) (ms := 0) (pc' := 71) d_C_firstThrough_68 rfl (sd_C_orNone x0 t8) m_lv rfl cv_C_orNone w_ml_C_310 rfl rfl (by decide) (Nat.le_of_ble_eq_true rfl) rfl rfl (fun v9 => ?_)
    exact sm_ireturn d_C_firstThrough_71 rfl rfl
theorem d_C_throughBy_0 : m_D k_C_throughBy 0 (.aload_n 0) 1 := (by decide +kernel : decode prog_1_method_40_code 0 = .ok (.aload_n 0, 1))
theorem d_C_throughBy_1 : m_D k_C_throughBy 1 (.iload_n 1) 1 := (by decide +kernel : decode prog_1_method_40_code 1 = .ok (.iload_n 1, 1))
theorem d_C_throughBy_2 : m_D k_C_throughBy 2 (.iconst 0) 1 := (by decide +kernel : decode prog_1_method_40_code 2 = .ok (.iconst 0, 1))
theorem d_C_throughBy_3 : m_D k_C_throughBy 3 (.sipush 200) 3 := (by decide +kernel : decode prog_1_method_40_code 3 = .ok (.sipush 200, 3))
theorem d_C_throughBy_6 : m_D k_C_throughBy 6 (.invokestatic 269) 3 := (by decide +kernel : decode prog_1_method_40_code 6 = .ok (.invokestatic 269, 3))
theorem d_C_throughBy_9 : m_D k_C_throughBy 9 (.ifCond .eq 7) 3 := (by decide +kernel : decode prog_1_method_40_code 9 = .ok (.ifCond .eq 7, 3))
theorem d_C_throughBy_12 : m_D k_C_throughBy 12 (.iconst 0) 1 := (by decide +kernel : decode prog_1_method_40_code 12 = .ok (.iconst 0, 1))
theorem d_C_throughBy_13 : m_D k_C_throughBy 13 (.goto 4) 3 := (by decide +kernel : decode prog_1_method_40_code 13 = .ok (.goto 4, 3))
theorem d_C_throughBy_16 : m_D k_C_throughBy 16 (.iconst 5) 1 := (by decide +kernel : decode prog_1_method_40_code 16 = .ok (.iconst 5, 1))
theorem d_C_throughBy_17 : m_D k_C_throughBy 17 (.putfield 9) 3 := (by decide +kernel : decode prog_1_method_40_code 17 = .ok (.putfield 9, 3))
theorem d_C_throughBy_20 : m_D k_C_throughBy 20 (.aload_n 0) 1 := (by decide +kernel : decode prog_1_method_40_code 20 = .ok (.aload_n 0, 1))
theorem d_C_throughBy_21 : m_D k_C_throughBy 21 (.getfield 9) 3 := (by decide +kernel : decode prog_1_method_40_code 21 = .ok (.getfield 9, 3))
theorem d_C_throughBy_24 : m_D k_C_throughBy 24 (.ifCond .eq 5) 3 := (by decide +kernel : decode prog_1_method_40_code 24 = .ok (.ifCond .eq 5, 3))
theorem d_C_throughBy_27 : m_D k_C_throughBy 27 (.iconst (-1)) 1 := (by decide +kernel : decode prog_1_method_40_code 27 = .ok (.iconst (-1), 1))
theorem d_C_throughBy_28 : m_D k_C_throughBy 28 (.ireturn) 1 := (by decide +kernel : decode prog_1_method_40_code 28 = .ok (.ireturn, 1))
theorem d_C_throughBy_29 : m_D k_C_throughBy 29 (.iconst 0) 1 := (by decide +kernel : decode prog_1_method_40_code 29 = .ok (.iconst 0, 1))
theorem d_C_throughBy_30 : m_D k_C_throughBy 30 (.istore_n 2) 1 := (by decide +kernel : decode prog_1_method_40_code 30 = .ok (.istore_n 2, 1))
theorem d_C_throughBy_31 : m_D k_C_throughBy 31 (.iconst 0) 1 := (by decide +kernel : decode prog_1_method_40_code 31 = .ok (.iconst 0, 1))
theorem d_C_throughBy_32 : m_D k_C_throughBy 32 (.istore_n 3) 1 := (by decide +kernel : decode prog_1_method_40_code 32 = .ok (.istore_n 3, 1))
theorem d_C_throughBy_33 : m_D k_C_throughBy 33 (.iload_n 3) 1 := (by decide +kernel : decode prog_1_method_40_code 33 = .ok (.iload_n 3, 1))
theorem d_C_throughBy_34 : m_D k_C_throughBy 34 (.aload_n 0) 1 := (by decide +kernel : decode prog_1_method_40_code 34 = .ok (.aload_n 0, 1))
theorem d_C_throughBy_35 : m_D k_C_throughBy 35 (.getfield 37) 3 := (by decide +kernel : decode prog_1_method_40_code 35 = .ok (.getfield 37, 3))
theorem d_C_throughBy_38 : m_D k_C_throughBy 38 (.getfield 156) 3 := (by decide +kernel : decode prog_1_method_40_code 38 = .ok (.getfield 156, 3))
theorem d_C_throughBy_41 : m_D k_C_throughBy 41 (.if_icmp .ge 34) 3 := (by decide +kernel : decode prog_1_method_40_code 41 = .ok (.if_icmp .ge 34, 3))
theorem d_C_throughBy_44 : m_D k_C_throughBy 44 (.aload_n 0) 1 := (by decide +kernel : decode prog_1_method_40_code 44 = .ok (.aload_n 0, 1))
theorem d_C_throughBy_45 : m_D k_C_throughBy 45 (.getfield 61) 3 := (by decide +kernel : decode prog_1_method_40_code 45 = .ok (.getfield 61, 3))
theorem d_C_throughBy_48 : m_D k_C_throughBy 48 (.aload_n 0) 1 := (by decide +kernel : decode prog_1_method_40_code 48 = .ok (.aload_n 0, 1))
theorem d_C_throughBy_49 : m_D k_C_throughBy 49 (.getfield 37) 3 := (by decide +kernel : decode prog_1_method_40_code 49 = .ok (.getfield 37, 3))
theorem d_C_throughBy_52 : m_D k_C_throughBy 52 (.iload_n 3) 1 := (by decide +kernel : decode prog_1_method_40_code 52 = .ok (.iload_n 3, 1))
theorem d_C_throughBy_53 : m_D k_C_throughBy 53 (.iload_n 1) 1 := (by decide +kernel : decode prog_1_method_40_code 53 = .ok (.iload_n 1, 1))
theorem d_C_throughBy_54 : m_D k_C_throughBy 54 (.iconst (-1)) 1 := (by decide +kernel : decode prog_1_method_40_code 54 = .ok (.iconst (-1), 1))
theorem d_C_throughBy_55 : m_D k_C_throughBy 55 (.iconst 0) 1 := (by decide +kernel : decode prog_1_method_40_code 55 = .ok (.iconst 0, 1))
theorem d_C_throughBy_56 : m_D k_C_throughBy 56 (.invokevirtual 306) 3 := (by decide +kernel : decode prog_1_method_40_code 56 = .ok (.invokevirtual 306, 3))
theorem d_C_throughBy_59 : m_D k_C_throughBy 59 (.iconst (-1)) 1 := (by decide +kernel : decode prog_1_method_40_code 59 = .ok (.iconst (-1), 1))
theorem d_C_throughBy_60 : m_D k_C_throughBy 60 (.if_icmp .eq 9) 3 := (by decide +kernel : decode prog_1_method_40_code 60 = .ok (.if_icmp .eq 9, 3))
theorem d_C_throughBy_63 : m_D k_C_throughBy 63 (.iload_n 2) 1 := (by decide +kernel : decode prog_1_method_40_code 63 = .ok (.iload_n 2, 1))
theorem d_C_throughBy_64 : m_D k_C_throughBy 64 (.iconst 1) 1 := (by decide +kernel : decode prog_1_method_40_code 64 = .ok (.iconst 1, 1))
theorem d_C_throughBy_65 : m_D k_C_throughBy 65 (.iload_n 3) 1 := (by decide +kernel : decode prog_1_method_40_code 65 = .ok (.iload_n 3, 1))
theorem d_C_throughBy_66 : m_D k_C_throughBy 66 (.ishl) 1 := (by decide +kernel : decode prog_1_method_40_code 66 = .ok (.ishl, 1))
theorem d_C_throughBy_67 : m_D k_C_throughBy 67 (.ior) 1 := (by decide +kernel : decode prog_1_method_40_code 67 = .ok (.ior, 1))
theorem d_C_throughBy_68 : m_D k_C_throughBy 68 (.istore_n 2) 1 := (by decide +kernel : decode prog_1_method_40_code 68 = .ok (.istore_n 2, 1))
theorem d_C_throughBy_69 : m_D k_C_throughBy 69 (.iinc 3 1) 3 := (by decide +kernel : decode prog_1_method_40_code 69 = .ok (.iinc 3 1, 3))
theorem d_C_throughBy_72 : m_D k_C_throughBy 72 (.goto (-39)) 3 := (by decide +kernel : decode prog_1_method_40_code 72 = .ok (.goto (-39), 3))
theorem d_C_throughBy_75 : m_D k_C_throughBy 75 (.iload_n 2) 1 := (by decide +kernel : decode prog_1_method_40_code 75 = .ok (.iload_n 2, 1))
theorem d_C_throughBy_76 : m_D k_C_throughBy 76 (.ireturn) 1 := (by decide +kernel : decode prog_1_method_40_code 76 = .ok (.ireturn, 1))
def fn_C_throughBy_l33 (x0 : Option mA) (x1 : Int32) (t4 : Int32 × Int32) : mP ((Int32 × Int32) ⊕ (Int32)) :=
  m_bd (m_gR 0 5 x0) fun v5 =>
  m_bd (m_gI 3 1 v5) fun v6 =>
  if v6 ≤ t4.2 then
    m_rt (.inr t4.1)
  else
    m_bd (m_gR 0 10 x0) fun v7 =>
    m_bd (m_gR 0 5 x0) fun v8 =>
    m_bd (fn_Ah_walk v7 v8 t4.2 x1 (-1) 0) fun v9 =>
    m_bd (α := Int32) (
      if v9 = (-1) then
        m_rt t4.1
      else
        m_rt (t4.1 ||| (1 <<< (t4.2 &&& 31)))
      ) fun (t10 : Int32) =>
    m_rt (.inl (t10, (t4.2 + 1)))
def fn_C_throughBy (x0 : Option mA) (x1 : Int32) : mP Int32 :=
  m_th 0 x0 <|
  m_bd (fn_C_isWithin x1 0 200) fun v1 =>
  m_bd (α := Int32) (
    if v1 = 0 then
      m_rt 5
    else
      m_rt 0
    ) fun (t2 : Int32) =>
  m_bd (m_pI 0 0 x0 t2) fun _ =>
  m_bd (m_gI 0 0 x0) fun v3 =>
  if v3 = 0 then
    m_bd (m_lp (fn_C_throughBy_l33 x0 x1) m_F (0, 0)) fun (t11 : Int32) =>
    m_rt t11
  else
    m_rt (-1)
set_option maxHeartbeats 4000000 in
set_option maxRecDepth 100000 in
theorem sd_C_throughBy (x0 : Option mA) (x1 : Int32) : m_Sm k_C_throughBy 5 0 0 [.inr (.inr x0), .inl x1] (fn_C_throughBy x0 x1) (fun b => some (.inl b)) := by
  refine ⟨Nat.le_of_ble_eq_true rfl, ?_⟩
  refine sm_th ?_
  refine sm_aload_n (i := 0) (j := 0) (pc' := 1) d_C_throughBy_0 rfl rfl rfl (sm_iload_n (i := 1) (j := 1) (pc' := 2) d_C_throughBy_1 rfl rfl rfl (sm_iconst (pc' := 3) d_C_throughBy_2 rfl ic_0 (sm_sipush (pc' := 6) d_C_throughBy_3 rfl is_200 ?_)))
  refine sm_callSi (av := [.inl x1, .inl 0, .inl 200]) (st := [.inr (.inr x0)]) (mc := 0) (ms := 0) (pc' := 9) d_C_throughBy_6 rfl (sd_C_isWithin x1 0 200) cs_C_isWithin w_ml_C_269 rfl rfl (by decide) (Nat.le_of_ble_eq_true rfl) rfl rfl (fun v1 => ?_)
  refine sm_bd (mid := fun (t2 : Int32) => .inl (17, [(0, .inr (.inr x0)), (1, .inl x1)], [.inl t2, .inr (.inr x0)])) ?_ (fun t2 => ?_)
  · refine sm_if_eq (tgt := 16) (pc' := 12) d_C_throughBy_9 rfl rfl ?_ ?_
    · refine sm_iconst (pc' := 17) d_C_throughBy_16 rfl ic_5 (sm_sub [0, 1] rfl ?_)
      exact sm_rt rfl
    · refine sm_iconst (pc' := 13) d_C_throughBy_12 rfl ic_0 (sm_goto (tgt := 17) d_C_throughBy_13 rfl (sm_sub [0, 1] rfl ?_))
      exact sm_rt rfl
  · refine sm_putI (pc' := 20) d_C_throughBy_17 rfl fl_C_9 (Or.inl rfl) rfl (sm_aload_n (i := 0) (j := 0) (pc' := 21) d_C_throughBy_20 rfl rfl rfl ?_)
    refine sm_getI (pc' := 24) d_C_throughBy_21 rfl fl_C_9 rfl ⟨by decide, by decide⟩ (fun v3 => ?_)
    refine sm_if_eq (tgt := 29) (pc' := 27) d_C_throughBy_24 rfl rfl ?_ ?_
    · refine sm_iconst (pc' := 30) d_C_throughBy_29 rfl ic_0 (sm_istore_n (i := 2) (L' := [(2, .inl 0), (0, .inr (.inr x0)), (1, .inl x1)]) (pc' := 31) d_C_throughBy_30 rfl rfl (Nat.le_of_ble_eq_true rfl) rfl (sm_iconst (pc' := 32) d_C_throughBy_31 rfl ic_0 (sm_istore_n (i := 3) (L' := [(3, .inl 0), (2, .inl 0), (0, .inr (.inr x0)), (1, .inl x1)]) (pc' := 33) d_C_throughBy_32 rfl rfl (Nat.le_of_ble_eq_true rfl) rfl ?_)))
      refine sm_sub [1, 0, 2, 3] rfl ?_
      refine sm_bd (mid := fun (t11 : Int32) => .inl (75, [(2, .inl t11)], [])) (sm_lp (hd := fun (t4 : Int32 × Int32) => (.inl (33, [(2, .inl t4.1), (3, .inl t4.2), (0, .inr (.inr x0)), (1, .inl x1)], []) : mC)) (fun t4 => ?_) m_F (0, 0)) (fun t11 => ?_)
      · refine sm_iload_n (i := 3) (j := 1) (pc' := 34) d_C_throughBy_33 rfl rfl rfl (sm_aload_n (i := 0) (j := 2) (pc' := 35) d_C_throughBy_34 rfl rfl rfl ?_)
        refine sm_getR (pc' := 38) d_C_throughBy_35 rfl fl_C_37 rfl rfl (fun v5 => ?_)
        refine sm_getI (pc' := 41) d_C_throughBy_38 rfl fl_C_156 rfl ⟨by decide, by decide⟩ (fun v6 => ?_)
        refine sm_icmp_ge (tgt := 75) (pc' := 44) d_C_throughBy_41 rfl rfl ?_ ?_
        · refine sm_sub [0] rfl ?_
          exact sm_rt rfl
        · refine sm_aload_n (i := 0) (j := 2) (pc' := 45) d_C_throughBy_44 rfl rfl rfl ?_
          refine sm_getR (pc' := 48) d_C_throughBy_45 rfl fl_C_61 rfl rfl (fun v7 => ?_)
          refine sm_aload_n (i := 0) (j := 2) (pc' := 49) d_C_throughBy_48 rfl rfl rfl ?_
          refine sm_getR (pc' := 52) d_C_throughBy_49 rfl fl_C_37 rfl rfl (fun v8 => ?_)
          refine sm_iload_n (i := 3) (j := 1) (pc' := 53) d_C_throughBy_52 rfl rfl rfl (sm_iload_n (i := 1) (j := 3) (pc' := 54) d_C_throughBy_53 rfl rfl rfl (sm_iconst (pc' := 55) d_C_throughBy_54 rfl ic_m1 (sm_iconst (pc' := 56) d_C_throughBy_55 rfl ic_0 ?_)))
          refine sm_callVi (ci := 7) (x := v7) (av := [.inr (.inr v8), .inl t4.2, .inl x1, .inl (-1), .inl 0]) (st := []) (mc := 0) (ms := 0) (pc' := 59) d_C_throughBy_56 rfl (sd_Ah_walk v7 v8 t4.2 x1 (-1) 0) m_lv rfl cv_Ah_walk w_ml_C_306 rfl rfl (by decide) (Nat.le_of_ble_eq_true rfl) rfl rfl (fun v9 => ?_)
          refine sm_iconst (pc' := 60) d_C_throughBy_59 rfl ic_m1 ?_
          refine sm_bd (mid := fun (t10 : Int32) => .inl (69, [(0, .inr (.inr x0)), (1, .inl x1), (2, .inl t10), (3, .inl t4.2)], [])) ?_ (fun t10 => ?_)
          · refine sm_icmp_eq (tgt := 69) (pc' := 63) d_C_throughBy_60 rfl rfl ?_ ?_
            · refine sm_sub [2, 3, 0, 1] rfl ?_
              exact sm_rt rfl
            · refine sm_iload_n (i := 2) (j := 0) (pc' := 64) d_C_throughBy_63 rfl rfl rfl (sm_iconst (pc' := 65) d_C_throughBy_64 rfl ic_1 (sm_iload_n (i := 3) (j := 1) (pc' := 66) d_C_throughBy_65 rfl rfl rfl (sm_ishl (pc' := 67) d_C_throughBy_66 rfl (sm_ior (pc' := 68) d_C_throughBy_67 rfl (sm_istore_n (i := 2) (L' := [(2, .inl (t4.1 ||| (1 <<< (t4.2 &&& 31)))), (3, .inl t4.2), (0, .inr (.inr x0)), (1, .inl x1)]) (pc' := 69) d_C_throughBy_68 rfl rfl (Nat.le_of_ble_eq_true rfl) rfl (sm_sub [2, 3, 0, 1] rfl ?_))))))
              exact sm_rt rfl
          · refine sm_iinc (j := 3) (L' := [(3, .inl (t4.2 + 1)), (0, .inr (.inr x0)), (1, .inl x1), (2, .inl t10)]) (pc' := 72) d_C_throughBy_69 rfl (v := (t4.2 + 1)) rfl (ix_1 _) (Nat.le_of_ble_eq_true rfl) rfl (sm_goto (tgt := 33) d_C_throughBy_72 rfl (sm_sub [3, 0, 1, 2] rfl ?_))
            exact sm_rt rfl
      · refine sm_iload_n (i := 2) (j := 0) (pc' := 76) d_C_throughBy_75 rfl rfl rfl ?_
        exact sm_ireturn d_C_throughBy_76 rfl rfl
    · refine sm_iconst (pc' := 28) d_C_throughBy_27 rfl ic_m1 ?_
      exact sm_ireturn d_C_throughBy_28 rfl rfl
theorem d_C_showsIn_0 : m_D k_C_showsIn 0 (.aload_n 0) 1 := (by decide +kernel : decode prog_1_method_41_code 0 = .ok (.aload_n 0, 1))
theorem d_C_showsIn_1 : m_D k_C_showsIn 1 (.aload_n 0) 1 := (by decide +kernel : decode prog_1_method_41_code 1 = .ok (.aload_n 0, 1))
theorem d_C_showsIn_2 : m_D k_C_showsIn 2 (.iload_n 1) 1 := (by decide +kernel : decode prog_1_method_41_code 2 = .ok (.iload_n 1, 1))
theorem d_C_showsIn_3 : m_D k_C_showsIn 3 (.invokevirtual 209) 3 := (by decide +kernel : decode prog_1_method_41_code 3 = .ok (.invokevirtual 209, 3))
theorem d_C_showsIn_6 : m_D k_C_showsIn 6 (.ifCond .eq 7) 3 := (by decide +kernel : decode prog_1_method_41_code 6 = .ok (.ifCond .eq 7, 3))
theorem d_C_showsIn_9 : m_D k_C_showsIn 9 (.iconst 0) 1 := (by decide +kernel : decode prog_1_method_41_code 9 = .ok (.iconst 0, 1))
theorem d_C_showsIn_10 : m_D k_C_showsIn 10 (.goto 4) 3 := (by decide +kernel : decode prog_1_method_41_code 10 = .ok (.goto 4, 3))
theorem d_C_showsIn_13 : m_D k_C_showsIn 13 (.iconst 2) 1 := (by decide +kernel : decode prog_1_method_41_code 13 = .ok (.iconst 2, 1))
theorem d_C_showsIn_14 : m_D k_C_showsIn 14 (.putfield 9) 3 := (by decide +kernel : decode prog_1_method_41_code 14 = .ok (.putfield 9, 3))
theorem d_C_showsIn_17 : m_D k_C_showsIn 17 (.aload_n 0) 1 := (by decide +kernel : decode prog_1_method_41_code 17 = .ok (.aload_n 0, 1))
theorem d_C_showsIn_18 : m_D k_C_showsIn 18 (.getfield 9) 3 := (by decide +kernel : decode prog_1_method_41_code 18 = .ok (.getfield 9, 3))
theorem d_C_showsIn_21 : m_D k_C_showsIn 21 (.ifCond .eq 5) 3 := (by decide +kernel : decode prog_1_method_41_code 21 = .ok (.ifCond .eq 5, 3))
theorem d_C_showsIn_24 : m_D k_C_showsIn 24 (.iconst (-1)) 1 := (by decide +kernel : decode prog_1_method_41_code 24 = .ok (.iconst (-1), 1))
theorem d_C_showsIn_25 : m_D k_C_showsIn 25 (.ireturn) 1 := (by decide +kernel : decode prog_1_method_41_code 25 = .ok (.ireturn, 1))
theorem d_C_showsIn_26 : m_D k_C_showsIn 26 (.iconst 0) 1 := (by decide +kernel : decode prog_1_method_41_code 26 = .ok (.iconst 0, 1))
theorem d_C_showsIn_27 : m_D k_C_showsIn 27 (.aload_n 0) 1 := (by decide +kernel : decode prog_1_method_41_code 27 = .ok (.aload_n 0, 1))
theorem d_C_showsIn_28 : m_D k_C_showsIn 28 (.getfield 37) 3 := (by decide +kernel : decode prog_1_method_41_code 28 = .ok (.getfield 37, 3))
theorem d_C_showsIn_31 : m_D k_C_showsIn 31 (.getfield 178) 3 := (by decide +kernel : decode prog_1_method_41_code 31 = .ok (.getfield 178, 3))
theorem d_C_showsIn_34 : m_D k_C_showsIn 34 (.aload_n 0) 1 := (by decide +kernel : decode prog_1_method_41_code 34 = .ok (.aload_n 0, 1))
theorem d_C_showsIn_35 : m_D k_C_showsIn 35 (.getfield 37) 3 := (by decide +kernel : decode prog_1_method_41_code 35 = .ok (.getfield 37, 3))
theorem d_C_showsIn_38 : m_D k_C_showsIn 38 (.getfield 212) 3 := (by decide +kernel : decode prog_1_method_41_code 38 = .ok (.getfield 212, 3))
theorem d_C_showsIn_41 : m_D k_C_showsIn 41 (.iload_n 1) 1 := (by decide +kernel : decode prog_1_method_41_code 41 = .ok (.iload_n 1, 1))
theorem d_C_showsIn_42 : m_D k_C_showsIn 42 (.aaload) 1 := (by decide +kernel : decode prog_1_method_41_code 42 = .ok (.aaload, 1))
theorem d_C_showsIn_43 : m_D k_C_showsIn 43 (.getfield 216) 3 := (by decide +kernel : decode prog_1_method_41_code 43 = .ok (.getfield 216, 3))
theorem d_C_showsIn_46 : m_D k_C_showsIn 46 (.isub) 1 := (by decide +kernel : decode prog_1_method_41_code 46 = .ok (.isub, 1))
theorem d_C_showsIn_47 : m_D k_C_showsIn 47 (.invokestatic 313) 3 := (by decide +kernel : decode prog_1_method_41_code 47 = .ok (.invokestatic 313, 3))
theorem d_C_showsIn_50 : m_D k_C_showsIn 50 (.istore_n 2) 1 := (by decide +kernel : decode prog_1_method_41_code 50 = .ok (.istore_n 2, 1))
theorem d_C_showsIn_51 : m_D k_C_showsIn 51 (.aload_n 0) 1 := (by decide +kernel : decode prog_1_method_41_code 51 = .ok (.aload_n 0, 1))
theorem d_C_showsIn_52 : m_D k_C_showsIn 52 (.aload_n 0) 1 := (by decide +kernel : decode prog_1_method_41_code 52 = .ok (.aload_n 0, 1))
theorem d_C_showsIn_53 : m_D k_C_showsIn 53 (.getfield 37) 3 := (by decide +kernel : decode prog_1_method_41_code 53 = .ok (.getfield 37, 3))
theorem d_C_showsIn_56 : m_D k_C_showsIn 56 (.iload_n 1) 1 := (by decide +kernel : decode prog_1_method_41_code 56 = .ok (.iload_n 1, 1))
theorem d_C_showsIn_57 : m_D k_C_showsIn 57 (.iload_n 2) 1 := (by decide +kernel : decode prog_1_method_41_code 57 = .ok (.iload_n 2, 1))
theorem d_C_showsIn_58 : m_D k_C_showsIn 58 (.invokevirtual 227) 3 := (by decide +kernel : decode prog_1_method_41_code 58 = .ok (.invokevirtual 227, 3))
theorem d_C_showsIn_61 : m_D k_C_showsIn 61 (.ifCond .eq 7) 3 := (by decide +kernel : decode prog_1_method_41_code 61 = .ok (.ifCond .eq 7, 3))
theorem d_C_showsIn_64 : m_D k_C_showsIn 64 (.iload_n 2) 1 := (by decide +kernel : decode prog_1_method_41_code 64 = .ok (.iload_n 2, 1))
theorem d_C_showsIn_65 : m_D k_C_showsIn 65 (.goto 4) 3 := (by decide +kernel : decode prog_1_method_41_code 65 = .ok (.goto 4, 3))
theorem d_C_showsIn_68 : m_D k_C_showsIn 68 (.iconst (-1)) 1 := (by decide +kernel : decode prog_1_method_41_code 68 = .ok (.iconst (-1), 1))
theorem d_C_showsIn_69 : m_D k_C_showsIn 69 (.invokevirtual 310) 3 := (by decide +kernel : decode prog_1_method_41_code 69 = .ok (.invokevirtual 310, 3))
theorem d_C_showsIn_72 : m_D k_C_showsIn 72 (.ireturn) 1 := (by decide +kernel : decode prog_1_method_41_code 72 = .ok (.ireturn, 1))
def fn_C_showsIn (x0 : Option mA) (x1 : Int32) : mP Int32 :=
  m_th 0 x0 <|
  m_bd (fn_C_isPerson x0 x1) fun v1 =>
  m_bd (α := Int32) (
    if v1 = 0 then
      m_rt 2
    else
      m_rt 0
    ) fun (t2 : Int32) =>
  m_bd (m_pI 0 0 x0 t2) fun _ =>
  m_bd (m_gI 0 0 x0) fun v3 =>
  if v3 = 0 then
    m_bd (m_gR 0 5 x0) fun v4 =>
    m_bd (m_gI 3 2 v4) fun v5 =>
    m_bd (m_gR 0 5 x0) fun v6 =>
    m_bd (m_gR 3 7 v6) fun v7 =>
    m_bd (m_aR 6 v7 x1) fun v8 =>
    m_bd (m_gI 4 1 v8) fun v9 =>
    m_bd (m_gR 0 5 x0) fun v10 =>
    m_bd (fn_Fa_showsAhead v10 x1 (iMax 0 (v5 - v9))) fun v11 =>
    m_bd (α := Int32) (
      if v11 = 0 then
        m_rt (-1)
      else
        m_rt (iMax 0 (v5 - v9))
      ) fun (t12 : Int32) =>
    m_bd (fn_C_orNone x0 t12) fun v13 =>
    m_rt v13
  else
    m_rt (-1)
set_option maxHeartbeats 4000000 in
set_option maxRecDepth 100000 in
theorem sd_C_showsIn (x0 : Option mA) (x1 : Int32) : m_Sm k_C_showsIn 2 0 0 [.inr (.inr x0), .inl x1] (fn_C_showsIn x0 x1) (fun b => some (.inl b)) := by
  refine ⟨Nat.le_of_ble_eq_true rfl, ?_⟩
  refine sm_th ?_
  refine sm_aload_n (i := 0) (j := 0) (pc' := 1) d_C_showsIn_0 rfl rfl rfl (sm_aload_n (i := 0) (j := 0) (pc' := 2) d_C_showsIn_1 rfl rfl rfl (sm_iload_n (i := 1) (j := 1) (pc' := 3) d_C_showsIn_2 rfl rfl rfl ?_))
  refine sm_callVi (ci := 0) (x := x0) (av := [.inl x1]) (st := [.inr (.inr x0)]) (mc := 0) (ms := 0) (pc' := 6) d_C_showsIn_3 rfl (sd_C_isPerson x0 x1) m_lv rfl cv_C_isPerson w_ml_C_209 rfl rfl (by decide) (Nat.le_of_ble_eq_true rfl) rfl rfl (fun v1 => ?_)
  refine sm_bd (mid := fun (t2 : Int32) => .inl (14, [(0, .inr (.inr x0)), (1, .inl x1)], [.inl t2, .inr (.inr x0)])) ?_ (fun t2 => ?_)
  · refine sm_if_eq (tgt := 13) (pc' := 9) d_C_showsIn_6 rfl rfl ?_ ?_
    · refine sm_iconst (pc' := 14) d_C_showsIn_13 rfl ic_2 (sm_sub [0, 1] rfl ?_)
      exact sm_rt rfl
    · refine sm_iconst (pc' := 10) d_C_showsIn_9 rfl ic_0 (sm_goto (tgt := 14) d_C_showsIn_10 rfl (sm_sub [0, 1] rfl ?_))
      exact sm_rt rfl
  · refine sm_putI (pc' := 17) d_C_showsIn_14 rfl fl_C_9 (Or.inl rfl) rfl (sm_aload_n (i := 0) (j := 0) (pc' := 18) d_C_showsIn_17 rfl rfl rfl ?_)
    refine sm_getI (pc' := 21) d_C_showsIn_18 rfl fl_C_9 rfl ⟨by decide, by decide⟩ (fun v3 => ?_)
    refine sm_if_eq (tgt := 26) (pc' := 24) d_C_showsIn_21 rfl rfl ?_ ?_
    · refine sm_iconst (pc' := 27) d_C_showsIn_26 rfl ic_0 (sm_aload_n (i := 0) (j := 0) (pc' := 28) d_C_showsIn_27 rfl rfl rfl ?_)
      refine sm_getR (pc' := 31) d_C_showsIn_28 rfl fl_C_37 rfl rfl (fun v4 => ?_)
      refine sm_getI (pc' := 34) d_C_showsIn_31 rfl fl_C_178 rfl ⟨by decide, by decide⟩ (fun v5 => ?_)
      refine sm_aload_n (i := 0) (j := 0) (pc' := 35) d_C_showsIn_34 rfl rfl rfl ?_
      refine sm_getR (pc' := 38) d_C_showsIn_35 rfl fl_C_37 rfl rfl (fun v6 => ?_)
      refine sm_getR (pc' := 41) d_C_showsIn_38 rfl fl_C_212 rfl rfl (fun v7 => ?_)
      refine sm_iload_n (i := 1) (j := 1) (pc' := 42) d_C_showsIn_41 rfl rfl rfl ?_
      refine sm_aald (t := 6) ⟨by decide, by decide⟩ rfl (pc' := 43) d_C_showsIn_42 rfl (fun v8 => ?_)
      refine sm_getI (pc' := 46) d_C_showsIn_43 rfl fl_C_216 rfl ⟨by decide, by decide⟩ (fun v9 => ?_)
      refine sm_isub (pc' := 47) d_C_showsIn_46 rfl (sm_mmax (pc' := 50) d_C_showsIn_47 rfl w_ml_C_313 (by decide) (Nat.le_of_ble_eq_true rfl) (sm_istore_n (i := 2) (L' := [(2, .inl (iMax 0 (v5 - v9))), (0, .inr (.inr x0)), (1, .inl x1)]) (pc' := 51) d_C_showsIn_50 rfl rfl (Nat.le_of_ble_eq_true rfl) rfl (sm_aload_n (i := 0) (j := 1) (pc' := 52) d_C_showsIn_51 rfl rfl rfl (sm_aload_n (i := 0) (j := 1) (pc' := 53) d_C_showsIn_52 rfl rfl rfl ?_))))
      refine sm_getR (pc' := 56) d_C_showsIn_53 rfl fl_C_37 rfl rfl (fun v10 => ?_)
      refine sm_iload_n (i := 1) (j := 2) (pc' := 57) d_C_showsIn_56 rfl rfl rfl (sm_iload_n (i := 2) (j := 0) (pc' := 58) d_C_showsIn_57 rfl rfl rfl ?_)
      refine sm_callVi (ci := 3) (x := v10) (av := [.inl x1, .inl (iMax 0 (v5 - v9))]) (st := [.inr (.inr x0)]) (mc := 0) (ms := 0) (pc' := 61) d_C_showsIn_58 rfl (sd_Fa_showsAhead v10 x1 (iMax 0 (v5 - v9))) m_lv rfl cv_Fa_showsAhead w_ml_C_227 rfl rfl (by decide) (Nat.le_of_ble_eq_true rfl) rfl rfl (fun v11 => ?_)
      refine sm_bd (mid := fun (t12 : Int32) => .inl (69, [], [.inl t12, .inr (.inr x0)])) ?_ (fun t12 => ?_)
      · refine sm_if_eq (tgt := 68) (pc' := 64) d_C_showsIn_61 rfl rfl ?_ ?_
        · refine sm_iconst (pc' := 69) d_C_showsIn_68 rfl ic_m1 (sm_sub [] rfl ?_)
          exact sm_rt rfl
        · refine sm_iload_n (i := 2) (j := 0) (pc' := 65) d_C_showsIn_64 rfl rfl rfl (sm_goto (tgt := 69) d_C_showsIn_65 rfl (sm_sub [] rfl ?_))
          exact sm_rt rfl
      · refine sm_callVi (ci := 0) (x := x0) (av := [.inl t12]) (st := []) (mc := 0) (ms := 0) (pc' := 72) d_C_showsIn_69 rfl (sd_C_orNone x0 t12) m_lv rfl cv_C_orNone w_ml_C_310 rfl rfl (by decide) (Nat.le_of_ble_eq_true rfl) rfl rfl (fun v13 => ?_)
        exact sm_ireturn d_C_showsIn_72 rfl rfl
    · refine sm_iconst (pc' := 25) d_C_showsIn_24 rfl ic_m1 ?_
      exact sm_ireturn d_C_showsIn_25 rfl rfl
theorem d_C_diesIn_0 : m_D k_C_diesIn 0 (.aload_n 0) 1 := (by decide +kernel : decode prog_1_method_42_code 0 = .ok (.aload_n 0, 1))
theorem d_C_diesIn_1 : m_D k_C_diesIn 1 (.aload_n 0) 1 := (by decide +kernel : decode prog_1_method_42_code 1 = .ok (.aload_n 0, 1))
theorem d_C_diesIn_2 : m_D k_C_diesIn 2 (.iload_n 1) 1 := (by decide +kernel : decode prog_1_method_42_code 2 = .ok (.iload_n 1, 1))
theorem d_C_diesIn_3 : m_D k_C_diesIn 3 (.invokevirtual 209) 3 := (by decide +kernel : decode prog_1_method_42_code 3 = .ok (.invokevirtual 209, 3))
theorem d_C_diesIn_6 : m_D k_C_diesIn 6 (.ifCond .ne 7) 3 := (by decide +kernel : decode prog_1_method_42_code 6 = .ok (.ifCond .ne 7, 3))
theorem d_C_diesIn_9 : m_D k_C_diesIn 9 (.iconst 2) 1 := (by decide +kernel : decode prog_1_method_42_code 9 = .ok (.iconst 2, 1))
theorem d_C_diesIn_10 : m_D k_C_diesIn 10 (.goto 24) 3 := (by decide +kernel : decode prog_1_method_42_code 10 = .ok (.goto 24, 3))
theorem d_C_diesIn_13 : m_D k_C_diesIn 13 (.aload_n 0) 1 := (by decide +kernel : decode prog_1_method_42_code 13 = .ok (.aload_n 0, 1))
theorem d_C_diesIn_14 : m_D k_C_diesIn 14 (.getfield 37) 3 := (by decide +kernel : decode prog_1_method_42_code 14 = .ok (.getfield 37, 3))
theorem d_C_diesIn_17 : m_D k_C_diesIn 17 (.getfield 212) 3 := (by decide +kernel : decode prog_1_method_42_code 17 = .ok (.getfield 212, 3))
theorem d_C_diesIn_20 : m_D k_C_diesIn 20 (.iload_n 1) 1 := (by decide +kernel : decode prog_1_method_42_code 20 = .ok (.iload_n 1, 1))
theorem d_C_diesIn_21 : m_D k_C_diesIn 21 (.aaload) 1 := (by decide +kernel : decode prog_1_method_42_code 21 = .ok (.aaload, 1))
theorem d_C_diesIn_22 : m_D k_C_diesIn 22 (.getfield 224) 3 := (by decide +kernel : decode prog_1_method_42_code 22 = .ok (.getfield 224, 3))
theorem d_C_diesIn_25 : m_D k_C_diesIn 25 (.ifCond .ne 8) 3 := (by decide +kernel : decode prog_1_method_42_code 25 = .ok (.ifCond .ne 8, 3))
theorem d_C_diesIn_28 : m_D k_C_diesIn 28 (.bipush 8) 2 := (by decide +kernel : decode prog_1_method_42_code 28 = .ok (.bipush 8, 2))
theorem d_C_diesIn_30 : m_D k_C_diesIn 30 (.goto 4) 3 := (by decide +kernel : decode prog_1_method_42_code 30 = .ok (.goto 4, 3))
theorem d_C_diesIn_33 : m_D k_C_diesIn 33 (.iconst 0) 1 := (by decide +kernel : decode prog_1_method_42_code 33 = .ok (.iconst 0, 1))
theorem d_C_diesIn_34 : m_D k_C_diesIn 34 (.putfield 9) 3 := (by decide +kernel : decode prog_1_method_42_code 34 = .ok (.putfield 9, 3))
theorem d_C_diesIn_37 : m_D k_C_diesIn 37 (.aload_n 0) 1 := (by decide +kernel : decode prog_1_method_42_code 37 = .ok (.aload_n 0, 1))
theorem d_C_diesIn_38 : m_D k_C_diesIn 38 (.getfield 9) 3 := (by decide +kernel : decode prog_1_method_42_code 38 = .ok (.getfield 9, 3))
theorem d_C_diesIn_41 : m_D k_C_diesIn 41 (.ifCond .eq 5) 3 := (by decide +kernel : decode prog_1_method_42_code 41 = .ok (.ifCond .eq 5, 3))
theorem d_C_diesIn_44 : m_D k_C_diesIn 44 (.iconst (-1)) 1 := (by decide +kernel : decode prog_1_method_42_code 44 = .ok (.iconst (-1), 1))
theorem d_C_diesIn_45 : m_D k_C_diesIn 45 (.ireturn) 1 := (by decide +kernel : decode prog_1_method_42_code 45 = .ok (.ireturn, 1))
theorem d_C_diesIn_46 : m_D k_C_diesIn 46 (.iconst 1) 1 := (by decide +kernel : decode prog_1_method_42_code 46 = .ok (.iconst 1, 1))
theorem d_C_diesIn_47 : m_D k_C_diesIn 47 (.aload_n 0) 1 := (by decide +kernel : decode prog_1_method_42_code 47 = .ok (.aload_n 0, 1))
theorem d_C_diesIn_48 : m_D k_C_diesIn 48 (.getfield 37) 3 := (by decide +kernel : decode prog_1_method_42_code 48 = .ok (.getfield 37, 3))
theorem d_C_diesIn_51 : m_D k_C_diesIn 51 (.getfield 181) 3 := (by decide +kernel : decode prog_1_method_42_code 51 = .ok (.getfield 181, 3))
theorem d_C_diesIn_54 : m_D k_C_diesIn 54 (.aload_n 0) 1 := (by decide +kernel : decode prog_1_method_42_code 54 = .ok (.aload_n 0, 1))
theorem d_C_diesIn_55 : m_D k_C_diesIn 55 (.getfield 37) 3 := (by decide +kernel : decode prog_1_method_42_code 55 = .ok (.getfield 37, 3))
theorem d_C_diesIn_58 : m_D k_C_diesIn 58 (.getfield 212) 3 := (by decide +kernel : decode prog_1_method_42_code 58 = .ok (.getfield 212, 3))
theorem d_C_diesIn_61 : m_D k_C_diesIn 61 (.iload_n 1) 1 := (by decide +kernel : decode prog_1_method_42_code 61 = .ok (.iload_n 1, 1))
theorem d_C_diesIn_62 : m_D k_C_diesIn 62 (.aaload) 1 := (by decide +kernel : decode prog_1_method_42_code 62 = .ok (.aaload, 1))
theorem d_C_diesIn_63 : m_D k_C_diesIn 63 (.getfield 216) 3 := (by decide +kernel : decode prog_1_method_42_code 63 = .ok (.getfield 216, 3))
theorem d_C_diesIn_66 : m_D k_C_diesIn 66 (.isub) 1 := (by decide +kernel : decode prog_1_method_42_code 66 = .ok (.isub, 1))
theorem d_C_diesIn_67 : m_D k_C_diesIn 67 (.invokestatic 313) 3 := (by decide +kernel : decode prog_1_method_42_code 67 = .ok (.invokestatic 313, 3))
theorem d_C_diesIn_70 : m_D k_C_diesIn 70 (.ireturn) 1 := (by decide +kernel : decode prog_1_method_42_code 70 = .ok (.ireturn, 1))
def fn_C_diesIn (x0 : Option mA) (x1 : Int32) : mP Int32 :=
  m_th 0 x0 <|
  m_bd (fn_C_isPerson x0 x1) fun v1 =>
  m_bd (α := Int32) (
    if v1 = 0 then
      m_rt 2
    else
      m_bd (m_gR 0 5 x0) fun v2 =>
      m_bd (m_gR 3 7 v2) fun v3 =>
      m_bd (m_aR 6 v3 x1) fun v4 =>
      m_bd (m_gI 4 3 v4) fun v5 =>
      if v5 = 0 then
        m_rt 8
      else
        m_rt 0
    ) fun (t6 : Int32) =>
  m_bd (m_pI 0 0 x0 t6) fun _ =>
  m_bd (m_gI 0 0 x0) fun v7 =>
  if v7 = 0 then
    m_bd (m_gR 0 5 x0) fun v8 =>
    m_bd (m_gI 3 3 v8) fun v9 =>
    m_bd (m_gR 0 5 x0) fun v10 =>
    m_bd (m_gR 3 7 v10) fun v11 =>
    m_bd (m_aR 6 v11 x1) fun v12 =>
    m_bd (m_gI 4 1 v12) fun v13 =>
    m_rt (iMax 1 (v9 - v13))
  else
    m_rt (-1)
set_option maxHeartbeats 4000000 in
set_option maxRecDepth 100000 in
theorem sd_C_diesIn (x0 : Option mA) (x1 : Int32) : m_Sm k_C_diesIn 2 0 0 [.inr (.inr x0), .inl x1] (fn_C_diesIn x0 x1) (fun b => some (.inl b)) := by
  refine ⟨Nat.le_of_ble_eq_true rfl, ?_⟩
  refine sm_th ?_
  refine sm_aload_n (i := 0) (j := 0) (pc' := 1) d_C_diesIn_0 rfl rfl rfl (sm_aload_n (i := 0) (j := 0) (pc' := 2) d_C_diesIn_1 rfl rfl rfl (sm_iload_n (i := 1) (j := 1) (pc' := 3) d_C_diesIn_2 rfl rfl rfl ?_))
  refine sm_callVi (ci := 0) (x := x0) (av := [.inl x1]) (st := [.inr (.inr x0)]) (mc := 0) (ms := 0) (pc' := 6) d_C_diesIn_3 rfl (sd_C_isPerson x0 x1) m_lv rfl cv_C_isPerson w_ml_C_209 rfl rfl (by decide) (Nat.le_of_ble_eq_true rfl) rfl rfl (fun v1 => ?_)
  refine sm_bd (mid := fun (t6 : Int32) => .inl (34, [(0, .inr (.inr x0)), (1, .inl x1)], [.inl t6, .inr (.inr x0)])) ?_ (fun t6 => ?_)
  · refine sm_if_ne (tgt := 13) (pc' := 9) d_C_diesIn_6 rfl rfl ?_ ?_
    · refine sm_aload_n (i := 0) (j := 0) (pc' := 14) d_C_diesIn_13 rfl rfl rfl ?_
      refine sm_getR (pc' := 17) d_C_diesIn_14 rfl fl_C_37 rfl rfl (fun v2 => ?_)
      refine sm_getR (pc' := 20) d_C_diesIn_17 rfl fl_C_212 rfl rfl (fun v3 => ?_)
      refine sm_iload_n (i := 1) (j := 1) (pc' := 21) d_C_diesIn_20 rfl rfl rfl ?_
      refine sm_aald (t := 6) ⟨by decide, by decide⟩ rfl (pc' := 22) d_C_diesIn_21 rfl (fun v4 => ?_)
      refine sm_getI (pc' := 25) d_C_diesIn_22 rfl fl_C_224 rfl ⟨by decide, by decide⟩ (fun v5 => ?_)
      refine sm_if_ne (tgt := 33) (pc' := 28) d_C_diesIn_25 rfl rfl ?_ ?_
      · refine sm_iconst (pc' := 34) d_C_diesIn_33 rfl ic_0 (sm_sub [0, 1] rfl ?_)
        exact sm_rt rfl
      · refine sm_bipush (pc' := 30) d_C_diesIn_28 rfl ib_8 (sm_goto (tgt := 34) d_C_diesIn_30 rfl (sm_sub [0, 1] rfl ?_))
        exact sm_rt rfl
    · refine sm_iconst (pc' := 10) d_C_diesIn_9 rfl ic_2 (sm_goto (tgt := 34) d_C_diesIn_10 rfl (sm_sub [0, 1] rfl ?_))
      exact sm_rt rfl
  · refine sm_putI (pc' := 37) d_C_diesIn_34 rfl fl_C_9 (Or.inl rfl) rfl (sm_aload_n (i := 0) (j := 0) (pc' := 38) d_C_diesIn_37 rfl rfl rfl ?_)
    refine sm_getI (pc' := 41) d_C_diesIn_38 rfl fl_C_9 rfl ⟨by decide, by decide⟩ (fun v7 => ?_)
    refine sm_if_eq (tgt := 46) (pc' := 44) d_C_diesIn_41 rfl rfl ?_ ?_
    · refine sm_iconst (pc' := 47) d_C_diesIn_46 rfl ic_1 (sm_aload_n (i := 0) (j := 0) (pc' := 48) d_C_diesIn_47 rfl rfl rfl ?_)
      refine sm_getR (pc' := 51) d_C_diesIn_48 rfl fl_C_37 rfl rfl (fun v8 => ?_)
      refine sm_getI (pc' := 54) d_C_diesIn_51 rfl fl_C_181 rfl ⟨by decide, by decide⟩ (fun v9 => ?_)
      refine sm_aload_n (i := 0) (j := 0) (pc' := 55) d_C_diesIn_54 rfl rfl rfl ?_
      refine sm_getR (pc' := 58) d_C_diesIn_55 rfl fl_C_37 rfl rfl (fun v10 => ?_)
      refine sm_getR (pc' := 61) d_C_diesIn_58 rfl fl_C_212 rfl rfl (fun v11 => ?_)
      refine sm_iload_n (i := 1) (j := 1) (pc' := 62) d_C_diesIn_61 rfl rfl rfl ?_
      refine sm_aald (t := 6) ⟨by decide, by decide⟩ rfl (pc' := 63) d_C_diesIn_62 rfl (fun v12 => ?_)
      refine sm_getI (pc' := 66) d_C_diesIn_63 rfl fl_C_216 rfl ⟨by decide, by decide⟩ (fun v13 => ?_)
      refine sm_isub (pc' := 67) d_C_diesIn_66 rfl (sm_mmax (pc' := 70) d_C_diesIn_67 rfl w_ml_C_313 (by decide) (Nat.le_of_ble_eq_true rfl) ?_)
      exact sm_ireturn d_C_diesIn_70 rfl rfl
    · refine sm_iconst (pc' := 45) d_C_diesIn_44 rfl ic_m1 ?_
      exact sm_ireturn d_C_diesIn_45 rfl rfl
theorem d_Ah_allRustWithout_0 : m_D k_Ah_allRustWithout 0 (.iconst 0) 1 := (by decide +kernel : decode prog_2_method_4_code 0 = .ok (.iconst 0, 1))
theorem d_Ah_allRustWithout_1 : m_D k_Ah_allRustWithout 1 (.istore 4) 2 := (by decide +kernel : decode prog_2_method_4_code 1 = .ok (.istore 4, 2))
theorem d_Ah_allRustWithout_3 : m_D k_Ah_allRustWithout 3 (.iconst 0) 1 := (by decide +kernel : decode prog_2_method_4_code 3 = .ok (.iconst 0, 1))
theorem d_Ah_allRustWithout_4 : m_D k_Ah_allRustWithout 4 (.istore 5) 2 := (by decide +kernel : decode prog_2_method_4_code 4 = .ok (.istore 5, 2))
theorem d_Ah_allRustWithout_6 : m_D k_Ah_allRustWithout 6 (.iload 5) 2 := (by decide +kernel : decode prog_2_method_4_code 6 = .ok (.iload 5, 2))
theorem d_Ah_allRustWithout_8 : m_D k_Ah_allRustWithout 8 (.aload_n 1) 1 := (by decide +kernel : decode prog_2_method_4_code 8 = .ok (.aload_n 1, 1))
theorem d_Ah_allRustWithout_9 : m_D k_Ah_allRustWithout 9 (.getfield 62) 3 := (by decide +kernel : decode prog_2_method_4_code 9 = .ok (.getfield 62, 3))
theorem d_Ah_allRustWithout_12 : m_D k_Ah_allRustWithout 12 (.if_icmp .ge 43) 3 := (by decide +kernel : decode prog_2_method_4_code 12 = .ok (.if_icmp .ge 43, 3))
theorem d_Ah_allRustWithout_15 : m_D k_Ah_allRustWithout 15 (.aload_n 0) 1 := (by decide +kernel : decode prog_2_method_4_code 15 = .ok (.aload_n 0, 1))
theorem d_Ah_allRustWithout_16 : m_D k_Ah_allRustWithout 16 (.aload_n 1) 1 := (by decide +kernel : decode prog_2_method_4_code 16 = .ok (.aload_n 1, 1))
theorem d_Ah_allRustWithout_17 : m_D k_Ah_allRustWithout 17 (.iload 5) 2 := (by decide +kernel : decode prog_2_method_4_code 17 = .ok (.iload 5, 2))
theorem d_Ah_allRustWithout_19 : m_D k_Ah_allRustWithout 19 (.iload_n 3) 1 := (by decide +kernel : decode prog_2_method_4_code 19 = .ok (.iload_n 3, 1))
theorem d_Ah_allRustWithout_20 : m_D k_Ah_allRustWithout 20 (.iload_n 2) 1 := (by decide +kernel : decode prog_2_method_4_code 20 = .ok (.iload_n 2, 1))
theorem d_Ah_allRustWithout_21 : m_D k_Ah_allRustWithout 21 (.aload_n 1) 1 := (by decide +kernel : decode prog_2_method_4_code 21 = .ok (.aload_n 1, 1))
theorem d_Ah_allRustWithout_22 : m_D k_Ah_allRustWithout 22 (.getfield 65) 3 := (by decide +kernel : decode prog_2_method_4_code 22 = .ok (.getfield 65, 3))
theorem d_Ah_allRustWithout_25 : m_D k_Ah_allRustWithout 25 (.iload_n 2) 1 := (by decide +kernel : decode prog_2_method_4_code 25 = .ok (.iload_n 2, 1))
theorem d_Ah_allRustWithout_26 : m_D k_Ah_allRustWithout 26 (.aaload) 1 := (by decide +kernel : decode prog_2_method_4_code 26 = .ok (.aaload, 1))
theorem d_Ah_allRustWithout_27 : m_D k_Ah_allRustWithout 27 (.getfield 69) 3 := (by decide +kernel : decode prog_2_method_4_code 27 = .ok (.getfield 69, 3))
theorem d_Ah_allRustWithout_30 : m_D k_Ah_allRustWithout 30 (.iload 5) 2 := (by decide +kernel : decode prog_2_method_4_code 30 = .ok (.iload 5, 2))
theorem d_Ah_allRustWithout_32 : m_D k_Ah_allRustWithout 32 (.iaload) 1 := (by decide +kernel : decode prog_2_method_4_code 32 = .ok (.iaload, 1))
theorem d_Ah_allRustWithout_33 : m_D k_Ah_allRustWithout 33 (.invokevirtual 55) 3 := (by decide +kernel : decode prog_2_method_4_code 33 = .ok (.invokevirtual 55, 3))
theorem d_Ah_allRustWithout_36 : m_D k_Ah_allRustWithout 36 (.pop) 1 := (by decide +kernel : decode prog_2_method_4_code 36 = .ok (.pop, 1))
theorem d_Ah_allRustWithout_37 : m_D k_Ah_allRustWithout 37 (.iload 4) 2 := (by decide +kernel : decode prog_2_method_4_code 37 = .ok (.iload 4, 2))
theorem d_Ah_allRustWithout_39 : m_D k_Ah_allRustWithout 39 (.aload_n 0) 1 := (by decide +kernel : decode prog_2_method_4_code 39 = .ok (.aload_n 0, 1))
theorem d_Ah_allRustWithout_40 : m_D k_Ah_allRustWithout 40 (.getfield 12) 3 := (by decide +kernel : decode prog_2_method_4_code 40 = .ok (.getfield 12, 3))
theorem d_Ah_allRustWithout_43 : m_D k_Ah_allRustWithout 43 (.getfield 59) 3 := (by decide +kernel : decode prog_2_method_4_code 43 = .ok (.getfield 59, 3))
theorem d_Ah_allRustWithout_46 : m_D k_Ah_allRustWithout 46 (.iadd) 1 := (by decide +kernel : decode prog_2_method_4_code 46 = .ok (.iadd, 1))
theorem d_Ah_allRustWithout_47 : m_D k_Ah_allRustWithout 47 (.istore 4) 2 := (by decide +kernel : decode prog_2_method_4_code 47 = .ok (.istore 4, 2))
theorem d_Ah_allRustWithout_49 : m_D k_Ah_allRustWithout 49 (.iinc 5 1) 3 := (by decide +kernel : decode prog_2_method_4_code 49 = .ok (.iinc 5 1, 3))
theorem d_Ah_allRustWithout_52 : m_D k_Ah_allRustWithout 52 (.goto (-46)) 3 := (by decide +kernel : decode prog_2_method_4_code 52 = .ok (.goto (-46), 3))
theorem d_Ah_allRustWithout_55 : m_D k_Ah_allRustWithout 55 (.iload 4) 2 := (by decide +kernel : decode prog_2_method_4_code 55 = .ok (.iload 4, 2))
theorem d_Ah_allRustWithout_57 : m_D k_Ah_allRustWithout 57 (.ireturn) 1 := (by decide +kernel : decode prog_2_method_4_code 57 = .ok (.ireturn, 1))
def fn_Ah_allRustWithout_l6 (x0 : Option mA) (x1 : Option mA) (x2 : Int32) (x3 : Int32) (t1 : Int32 × Int32) : mP ((Int32 × Int32) ⊕ (Int32)) :=
  m_bd (m_gI 3 1 x1) fun v2 =>
  if v2 ≤ t1.2 then
    m_rt (.inr t1.1)
  else
    m_bd (m_gR 3 7 x1) fun v3 =>
    m_bd (m_aR 6 v3 x2) fun v4 =>
    m_bd (m_gR 4 4 v4) fun v5 =>
    m_bd (m_aI 0 v5 t1.2) fun v6 =>
    m_bd (fn_Ah_walk x0 x1 t1.2 x3 x2 v6) fun v7 =>
    m_bd (m_gR 7 1 x0) fun v8 =>
    m_bd (m_gI 5 3 v8) fun v9 =>
    m_rt (.inl ((t1.1 + v9), (t1.2 + 1)))
def fn_Ah_allRustWithout (x0 : Option mA) (x1 : Option mA) (x2 : Int32) (x3 : Int32) : mP Int32 :=
  m_th 7 x0 <|
  m_bd (m_lp (fn_Ah_allRustWithout_l6 x0 x1 x2 x3) m_F (0, 0)) fun (t10 : Int32) =>
  m_rt t10
set_option maxHeartbeats 4000000 in
set_option maxRecDepth 100000 in
theorem sd_Ah_allRustWithout (x0 : Option mA) (x1 : Option mA) (x2 : Int32) (x3 : Int32) : m_Sm k_Ah_allRustWithout 5 0 0 [.inr (.inr x0), .inr (.inr x1), .inl x2, .inl x3] (fn_Ah_allRustWithout x0 x1 x2 x3) (fun b => some (.inl b)) := by
  refine ⟨Nat.le_of_ble_eq_true rfl, ?_⟩
  refine sm_th ?_
  refine sm_iconst (pc' := 1) d_Ah_allRustWithout_0 rfl ic_0 (sm_istore (L' := [(4, .inl 0), (0, .inr (.inr x0)), (1, .inr (.inr x1)), (2, .inl x2), (3, .inl x3)]) (pc' := 3) d_Ah_allRustWithout_1 rfl (Nat.le_of_ble_eq_true rfl) rfl (sm_iconst (pc' := 4) d_Ah_allRustWithout_3 rfl ic_0 (sm_istore (L' := [(5, .inl 0), (4, .inl 0), (0, .inr (.inr x0)), (1, .inr (.inr x1)), (2, .inl x2), (3, .inl x3)]) (pc' := 6) d_Ah_allRustWithout_4 rfl (Nat.le_of_ble_eq_true rfl) rfl ?_)))
  refine sm_sub [1, 0, 2, 3, 4, 5] rfl ?_
  refine sm_bd (mid := fun (t10 : Int32) => .inl (55, [(4, .inl t10)], [])) (sm_lp (hd := fun (t1 : Int32 × Int32) => (.inl (6, [(4, .inl t1.1), (5, .inl t1.2), (0, .inr (.inr x0)), (1, .inr (.inr x1)), (2, .inl x2), (3, .inl x3)], []) : mC)) (fun t1 => ?_) m_F (0, 0)) (fun t10 => ?_)
  · refine sm_iload (j := 1) (pc' := 8) d_Ah_allRustWithout_6 rfl rfl (sm_aload_n (i := 1) (j := 3) (pc' := 9) d_Ah_allRustWithout_8 rfl rfl rfl ?_)
    refine sm_getI (pc' := 12) d_Ah_allRustWithout_9 rfl fl_Ah_62 rfl ⟨by decide, by decide⟩ (fun v2 => ?_)
    refine sm_icmp_ge (tgt := 55) (pc' := 15) d_Ah_allRustWithout_12 rfl rfl ?_ ?_
    · refine sm_sub [0] rfl ?_
      exact sm_rt rfl
    · refine sm_aload_n (i := 0) (j := 2) (pc' := 16) d_Ah_allRustWithout_15 rfl rfl rfl (sm_aload_n (i := 1) (j := 3) (pc' := 17) d_Ah_allRustWithout_16 rfl rfl rfl (sm_iload (j := 1) (pc' := 19) d_Ah_allRustWithout_17 rfl rfl (sm_iload_n (i := 3) (j := 5) (pc' := 20) d_Ah_allRustWithout_19 rfl rfl rfl (sm_iload_n (i := 2) (j := 4) (pc' := 21) d_Ah_allRustWithout_20 rfl rfl rfl (sm_aload_n (i := 1) (j := 3) (pc' := 22) d_Ah_allRustWithout_21 rfl rfl rfl ?_)))))
      refine sm_getR (pc' := 25) d_Ah_allRustWithout_22 rfl fl_Ah_65 rfl rfl (fun v3 => ?_)
      refine sm_iload_n (i := 2) (j := 4) (pc' := 26) d_Ah_allRustWithout_25 rfl rfl rfl ?_
      refine sm_aald (t := 6) ⟨by decide, by decide⟩ rfl (pc' := 27) d_Ah_allRustWithout_26 rfl (fun v4 => ?_)
      refine sm_getR (pc' := 30) d_Ah_allRustWithout_27 rfl fl_Ah_69 rfl rfl (fun v5 => ?_)
      refine sm_iload (j := 1) (pc' := 32) d_Ah_allRustWithout_30 rfl rfl ?_
      refine sm_iald (pc' := 33) d_Ah_allRustWithout_32 rfl (fun v6 => ?_)
      refine sm_callVi (ci := 7) (x := x0) (av := [.inr (.inr x1), .inl t1.2, .inl x3, .inl x2, .inl v6]) (st := []) (mc := 0) (ms := 0) (pc' := 36) d_Ah_allRustWithout_33 rfl (sd_Ah_walk x0 x1 t1.2 x3 x2 v6) m_lv rfl cv_Ah_walk w_ml_Ah_55 rfl rfl (by decide) (Nat.le_of_ble_eq_true rfl) rfl rfl (fun v7 => ?_)
      refine sm_pop (pc' := 37) d_Ah_allRustWithout_36 rfl rfl (sm_iload (j := 0) (pc' := 39) d_Ah_allRustWithout_37 rfl rfl (sm_aload_n (i := 0) (j := 2) (pc' := 40) d_Ah_allRustWithout_39 rfl rfl rfl ?_))
      refine sm_getR (pc' := 43) d_Ah_allRustWithout_40 rfl fl_Ah_12 rfl rfl (fun v8 => ?_)
      refine sm_getI (pc' := 46) d_Ah_allRustWithout_43 rfl fl_Ah_59 rfl ⟨by decide, by decide⟩ (fun v9 => ?_)
      refine sm_iadd (pc' := 47) d_Ah_allRustWithout_46 rfl (sm_istore (L' := [(4, .inl (t1.1 + v9)), (5, .inl t1.2), (0, .inr (.inr x0)), (1, .inr (.inr x1)), (2, .inl x2), (3, .inl x3)]) (pc' := 49) d_Ah_allRustWithout_47 rfl (Nat.le_of_ble_eq_true rfl) rfl (sm_iinc (j := 1) (L' := [(5, .inl (t1.2 + 1)), (4, .inl (t1.1 + v9)), (0, .inr (.inr x0)), (1, .inr (.inr x1)), (2, .inl x2), (3, .inl x3)]) (pc' := 52) d_Ah_allRustWithout_49 rfl (v := (t1.2 + 1)) rfl (ix_1 _) (Nat.le_of_ble_eq_true rfl) rfl (sm_goto (tgt := 6) d_Ah_allRustWithout_52 rfl (sm_sub [1, 0, 2, 3, 4, 5] rfl ?_))))
      exact sm_rt rfl
  · refine sm_iload (j := 0) (pc' := 57) d_Ah_allRustWithout_55 rfl rfl ?_
    exact sm_ireturn d_Ah_allRustWithout_57 rfl rfl
theorem d_C_worst_0 : m_D k_C_worst 0 (.aload_n 0) 1 := (by decide +kernel : decode prog_1_method_43_code 0 = .ok (.aload_n 0, 1))
theorem d_C_worst_1 : m_D k_C_worst 1 (.iload_n 1) 1 := (by decide +kernel : decode prog_1_method_43_code 1 = .ok (.iload_n 1, 1))
theorem d_C_worst_2 : m_D k_C_worst 2 (.iconst 0) 1 := (by decide +kernel : decode prog_1_method_43_code 2 = .ok (.iconst 0, 1))
theorem d_C_worst_3 : m_D k_C_worst 3 (.bipush 50) 2 := (by decide +kernel : decode prog_1_method_43_code 3 = .ok (.bipush 50, 2))
theorem d_C_worst_5 : m_D k_C_worst 5 (.invokestatic 269) 3 := (by decide +kernel : decode prog_1_method_43_code 5 = .ok (.invokestatic 269, 3))
theorem d_C_worst_8 : m_D k_C_worst 8 (.ifCond .ne 7) 3 := (by decide +kernel : decode prog_1_method_43_code 8 = .ok (.ifCond .ne 7, 3))
theorem d_C_worst_11 : m_D k_C_worst 11 (.iconst 5) 1 := (by decide +kernel : decode prog_1_method_43_code 11 = .ok (.iconst 5, 1))
theorem d_C_worst_12 : m_D k_C_worst 12 (.goto 19) 3 := (by decide +kernel : decode prog_1_method_43_code 12 = .ok (.goto 19, 3))
theorem d_C_worst_15 : m_D k_C_worst 15 (.aload_n 0) 1 := (by decide +kernel : decode prog_1_method_43_code 15 = .ok (.aload_n 0, 1))
theorem d_C_worst_16 : m_D k_C_worst 16 (.getfield 37) 3 := (by decide +kernel : decode prog_1_method_43_code 16 = .ok (.getfield 37, 3))
theorem d_C_worst_19 : m_D k_C_worst 19 (.getfield 175) 3 := (by decide +kernel : decode prog_1_method_43_code 19 = .ok (.getfield 175, 3))
theorem d_C_worst_22 : m_D k_C_worst 22 (.ifCond .ne 8) 3 := (by decide +kernel : decode prog_1_method_43_code 22 = .ok (.ifCond .ne 8, 3))
theorem d_C_worst_25 : m_D k_C_worst 25 (.bipush 8) 2 := (by decide +kernel : decode prog_1_method_43_code 25 = .ok (.bipush 8, 2))
theorem d_C_worst_27 : m_D k_C_worst 27 (.goto 4) 3 := (by decide +kernel : decode prog_1_method_43_code 27 = .ok (.goto 4, 3))
theorem d_C_worst_30 : m_D k_C_worst 30 (.iconst 0) 1 := (by decide +kernel : decode prog_1_method_43_code 30 = .ok (.iconst 0, 1))
theorem d_C_worst_31 : m_D k_C_worst 31 (.putfield 9) 3 := (by decide +kernel : decode prog_1_method_43_code 31 = .ok (.putfield 9, 3))
theorem d_C_worst_34 : m_D k_C_worst 34 (.aload_n 0) 1 := (by decide +kernel : decode prog_1_method_43_code 34 = .ok (.aload_n 0, 1))
theorem d_C_worst_35 : m_D k_C_worst 35 (.getfield 9) 3 := (by decide +kernel : decode prog_1_method_43_code 35 = .ok (.getfield 9, 3))
theorem d_C_worst_38 : m_D k_C_worst 38 (.ifCond .eq 5) 3 := (by decide +kernel : decode prog_1_method_43_code 38 = .ok (.ifCond .eq 5, 3))
theorem d_C_worst_41 : m_D k_C_worst 41 (.iconst (-1)) 1 := (by decide +kernel : decode prog_1_method_43_code 41 = .ok (.iconst (-1), 1))
theorem d_C_worst_42 : m_D k_C_worst 42 (.ireturn) 1 := (by decide +kernel : decode prog_1_method_43_code 42 = .ok (.ireturn, 1))
theorem d_C_worst_43 : m_D k_C_worst 43 (.iconst 0) 1 := (by decide +kernel : decode prog_1_method_43_code 43 = .ok (.iconst 0, 1))
theorem d_C_worst_44 : m_D k_C_worst 44 (.istore_n 2) 1 := (by decide +kernel : decode prog_1_method_43_code 44 = .ok (.istore_n 2, 1))
theorem d_C_worst_45 : m_D k_C_worst 45 (.aload_n 0) 1 := (by decide +kernel : decode prog_1_method_43_code 45 = .ok (.aload_n 0, 1))
theorem d_C_worst_46 : m_D k_C_worst 46 (.getfield 61) 3 := (by decide +kernel : decode prog_1_method_43_code 46 = .ok (.getfield 61, 3))
theorem d_C_worst_49 : m_D k_C_worst 49 (.aload_n 0) 1 := (by decide +kernel : decode prog_1_method_43_code 49 = .ok (.aload_n 0, 1))
theorem d_C_worst_50 : m_D k_C_worst 50 (.getfield 37) 3 := (by decide +kernel : decode prog_1_method_43_code 50 = .ok (.getfield 37, 3))
theorem d_C_worst_53 : m_D k_C_worst 53 (.iconst 0) 1 := (by decide +kernel : decode prog_1_method_43_code 53 = .ok (.iconst 0, 1))
theorem d_C_worst_54 : m_D k_C_worst 54 (.iload_n 1) 1 := (by decide +kernel : decode prog_1_method_43_code 54 = .ok (.iload_n 1, 1))
theorem d_C_worst_55 : m_D k_C_worst 55 (.invokevirtual 318) 3 := (by decide +kernel : decode prog_1_method_43_code 55 = .ok (.invokevirtual 318, 3))
theorem d_C_worst_58 : m_D k_C_worst 58 (.istore_n 3) 1 := (by decide +kernel : decode prog_1_method_43_code 58 = .ok (.istore_n 3, 1))
theorem d_C_worst_59 : m_D k_C_worst 59 (.iconst 1) 1 := (by decide +kernel : decode prog_1_method_43_code 59 = .ok (.iconst 1, 1))
theorem d_C_worst_60 : m_D k_C_worst 60 (.istore 4) 2 := (by decide +kernel : decode prog_1_method_43_code 60 = .ok (.istore 4, 2))
theorem d_C_worst_62 : m_D k_C_worst 62 (.iload 4) 2 := (by decide +kernel : decode prog_1_method_43_code 62 = .ok (.iload 4, 2))
theorem d_C_worst_64 : m_D k_C_worst 64 (.aload_n 0) 1 := (by decide +kernel : decode prog_1_method_43_code 64 = .ok (.aload_n 0, 1))
theorem d_C_worst_65 : m_D k_C_worst 65 (.getfield 37) 3 := (by decide +kernel : decode prog_1_method_43_code 65 = .ok (.getfield 37, 3))
theorem d_C_worst_68 : m_D k_C_worst 68 (.getfield 175) 3 := (by decide +kernel : decode prog_1_method_43_code 68 = .ok (.getfield 175, 3))
theorem d_C_worst_71 : m_D k_C_worst 71 (.if_icmp .ge 37) 3 := (by decide +kernel : decode prog_1_method_43_code 71 = .ok (.if_icmp .ge 37, 3))
theorem d_C_worst_74 : m_D k_C_worst 74 (.aload_n 0) 1 := (by decide +kernel : decode prog_1_method_43_code 74 = .ok (.aload_n 0, 1))
theorem d_C_worst_75 : m_D k_C_worst 75 (.getfield 61) 3 := (by decide +kernel : decode prog_1_method_43_code 75 = .ok (.getfield 61, 3))
theorem d_C_worst_78 : m_D k_C_worst 78 (.aload_n 0) 1 := (by decide +kernel : decode prog_1_method_43_code 78 = .ok (.aload_n 0, 1))
theorem d_C_worst_79 : m_D k_C_worst 79 (.getfield 37) 3 := (by decide +kernel : decode prog_1_method_43_code 79 = .ok (.getfield 37, 3))
theorem d_C_worst_82 : m_D k_C_worst 82 (.iload 4) 2 := (by decide +kernel : decode prog_1_method_43_code 82 = .ok (.iload 4, 2))
theorem d_C_worst_84 : m_D k_C_worst 84 (.iload_n 1) 1 := (by decide +kernel : decode prog_1_method_43_code 84 = .ok (.iload_n 1, 1))
theorem d_C_worst_85 : m_D k_C_worst 85 (.invokevirtual 318) 3 := (by decide +kernel : decode prog_1_method_43_code 85 = .ok (.invokevirtual 318, 3))
theorem d_C_worst_88 : m_D k_C_worst 88 (.istore 5) 2 := (by decide +kernel : decode prog_1_method_43_code 88 = .ok (.istore 5, 2))
theorem d_C_worst_90 : m_D k_C_worst 90 (.iload 5) 2 := (by decide +kernel : decode prog_1_method_43_code 90 = .ok (.iload 5, 2))
theorem d_C_worst_92 : m_D k_C_worst 92 (.iload_n 3) 1 := (by decide +kernel : decode prog_1_method_43_code 92 = .ok (.iload_n 3, 1))
theorem d_C_worst_93 : m_D k_C_worst 93 (.if_icmp .ge 9) 3 := (by decide +kernel : decode prog_1_method_43_code 93 = .ok (.if_icmp .ge 9, 3))
theorem d_C_worst_96 : m_D k_C_worst 96 (.iload 4) 2 := (by decide +kernel : decode prog_1_method_43_code 96 = .ok (.iload 4, 2))
theorem d_C_worst_98 : m_D k_C_worst 98 (.istore_n 2) 1 := (by decide +kernel : decode prog_1_method_43_code 98 = .ok (.istore_n 2, 1))
theorem d_C_worst_99 : m_D k_C_worst 99 (.iload 5) 2 := (by decide +kernel : decode prog_1_method_43_code 99 = .ok (.iload 5, 2))
theorem d_C_worst_101 : m_D k_C_worst 101 (.istore_n 3) 1 := (by decide +kernel : decode prog_1_method_43_code 101 = .ok (.istore_n 3, 1))
theorem d_C_worst_102 : m_D k_C_worst 102 (.iinc 4 1) 3 := (by decide +kernel : decode prog_1_method_43_code 102 = .ok (.iinc 4 1, 3))
theorem d_C_worst_105 : m_D k_C_worst 105 (.goto (-43)) 3 := (by decide +kernel : decode prog_1_method_43_code 105 = .ok (.goto (-43), 3))
theorem d_C_worst_108 : m_D k_C_worst 108 (.iload_n 2) 1 := (by decide +kernel : decode prog_1_method_43_code 108 = .ok (.iload_n 2, 1))
theorem d_C_worst_109 : m_D k_C_worst 109 (.ireturn) 1 := (by decide +kernel : decode prog_1_method_43_code 109 = .ok (.ireturn, 1))
def fn_C_worst_l62 (x0 : Option mA) (x1 : Int32) (t9 : Int32 × Int32 × Int32) : mP ((Int32 × Int32 × Int32) ⊕ (Int32)) :=
  m_bd (m_gR 0 5 x0) fun v10 =>
  m_bd (m_gI 3 0 v10) fun v11 =>
  if v11 ≤ t9.2.2 then
    m_rt (.inr t9.1)
  else
    m_bd (m_gR 0 10 x0) fun v12 =>
    m_bd (m_gR 0 5 x0) fun v13 =>
    m_bd (fn_Ah_allRustWithout v12 v13 t9.2.2 x1) fun v14 =>
    m_bd (α := Int32 × Int32) (
      if t9.2.1 ≤ v14 then
        m_rt (t9.1, t9.2.1)
      else
        m_rt (t9.2.2, v14)
      ) fun (t15 : Int32 × Int32) =>
    m_rt (.inl (t15.1, t15.2, (t9.2.2 + 1)))
def fn_C_worst (x0 : Option mA) (x1 : Int32) : mP Int32 :=
  m_th 0 x0 <|
  m_bd (fn_C_isWithin x1 0 50) fun v1 =>
  m_bd (α := Int32) (
    if v1 = 0 then
      m_rt 5
    else
      m_bd (m_gR 0 5 x0) fun v2 =>
      m_bd (m_gI 3 0 v2) fun v3 =>
      if v3 = 0 then
        m_rt 8
      else
        m_rt 0
    ) fun (t4 : Int32) =>
  m_bd (m_pI 0 0 x0 t4) fun _ =>
  m_bd (m_gI 0 0 x0) fun v5 =>
  if v5 = 0 then
    m_bd (m_gR 0 10 x0) fun v6 =>
    m_bd (m_gR 0 5 x0) fun v7 =>
    m_bd (fn_Ah_allRustWithout v6 v7 0 x1) fun v8 =>
    m_bd (m_lp (fn_C_worst_l62 x0 x1) m_F (0, v8, 1)) fun (t16 : Int32) =>
    m_rt t16
  else
    m_rt (-1)
set_option maxHeartbeats 4000000 in
set_option maxRecDepth 100000 in
theorem sd_C_worst (x0 : Option mA) (x1 : Int32) : m_Sm k_C_worst 6 0 0 [.inr (.inr x0), .inl x1] (fn_C_worst x0 x1) (fun b => some (.inl b)) := by
  refine ⟨Nat.le_of_ble_eq_true rfl, ?_⟩
  refine sm_th ?_
  refine sm_aload_n (i := 0) (j := 0) (pc' := 1) d_C_worst_0 rfl rfl rfl (sm_iload_n (i := 1) (j := 1) (pc' := 2) d_C_worst_1 rfl rfl rfl (sm_iconst (pc' := 3) d_C_worst_2 rfl ic_0 (sm_bipush (pc' := 5) d_C_worst_3 rfl ib_50 ?_)))
  refine sm_callSi (av := [.inl x1, .inl 0, .inl 50]) (st := [.inr (.inr x0)]) (mc := 0) (ms := 0) (pc' := 8) d_C_worst_5 rfl (sd_C_isWithin x1 0 50) cs_C_isWithin w_ml_C_269 rfl rfl (by decide) (Nat.le_of_ble_eq_true rfl) rfl rfl (fun v1 => ?_)
  refine sm_bd (mid := fun (t4 : Int32) => .inl (31, [(0, .inr (.inr x0)), (1, .inl x1)], [.inl t4, .inr (.inr x0)])) ?_ (fun t4 => ?_)
  · refine sm_if_ne (tgt := 15) (pc' := 11) d_C_worst_8 rfl rfl ?_ ?_
    · refine sm_aload_n (i := 0) (j := 0) (pc' := 16) d_C_worst_15 rfl rfl rfl ?_
      refine sm_getR (pc' := 19) d_C_worst_16 rfl fl_C_37 rfl rfl (fun v2 => ?_)
      refine sm_getI (pc' := 22) d_C_worst_19 rfl fl_C_175 rfl ⟨by decide, by decide⟩ (fun v3 => ?_)
      refine sm_if_ne (tgt := 30) (pc' := 25) d_C_worst_22 rfl rfl ?_ ?_
      · refine sm_iconst (pc' := 31) d_C_worst_30 rfl ic_0 (sm_sub [0, 1] rfl ?_)
        exact sm_rt rfl
      · refine sm_bipush (pc' := 27) d_C_worst_25 rfl ib_8 (sm_goto (tgt := 31) d_C_worst_27 rfl (sm_sub [0, 1] rfl ?_))
        exact sm_rt rfl
    · refine sm_iconst (pc' := 12) d_C_worst_11 rfl ic_5 (sm_goto (tgt := 31) d_C_worst_12 rfl (sm_sub [0, 1] rfl ?_))
      exact sm_rt rfl
  · refine sm_putI (pc' := 34) d_C_worst_31 rfl fl_C_9 (Or.inl rfl) rfl (sm_aload_n (i := 0) (j := 0) (pc' := 35) d_C_worst_34 rfl rfl rfl ?_)
    refine sm_getI (pc' := 38) d_C_worst_35 rfl fl_C_9 rfl ⟨by decide, by decide⟩ (fun v5 => ?_)
    refine sm_if_eq (tgt := 43) (pc' := 41) d_C_worst_38 rfl rfl ?_ ?_
    · refine sm_iconst (pc' := 44) d_C_worst_43 rfl ic_0 (sm_istore_n (i := 2) (L' := [(2, .inl 0), (0, .inr (.inr x0)), (1, .inl x1)]) (pc' := 45) d_C_worst_44 rfl rfl (Nat.le_of_ble_eq_true rfl) rfl (sm_aload_n (i := 0) (j := 1) (pc' := 46) d_C_worst_45 rfl rfl rfl ?_))
      refine sm_getR (pc' := 49) d_C_worst_46 rfl fl_C_61 rfl rfl (fun v6 => ?_)
      refine sm_aload_n (i := 0) (j := 1) (pc' := 50) d_C_worst_49 rfl rfl rfl ?_
      refine sm_getR (pc' := 53) d_C_worst_50 rfl fl_C_37 rfl rfl (fun v7 => ?_)
      refine sm_iconst (pc' := 54) d_C_worst_53 rfl ic_0 (sm_iload_n (i := 1) (j := 2) (pc' := 55) d_C_worst_54 rfl rfl rfl ?_)
      refine sm_callVi (ci := 7) (x := v6) (av := [.inr (.inr v7), .inl 0, .inl x1]) (st := []) (mc := 0) (ms := 0) (pc' := 58) d_C_worst_55 rfl (sd_Ah_allRustWithout v6 v7 0 x1) m_lv rfl cv_Ah_allRustWithout w_ml_C_318 rfl rfl (by decide) (Nat.le_of_ble_eq_true rfl) rfl rfl (fun v8 => ?_)
      refine sm_istore_n (i := 3) (L' := [(3, .inl v8), (2, .inl 0), (0, .inr (.inr x0)), (1, .inl x1)]) (pc' := 59) d_C_worst_58 rfl rfl (Nat.le_of_ble_eq_true rfl) rfl (sm_iconst (pc' := 60) d_C_worst_59 rfl ic_1 (sm_istore (L' := [(4, .inl 1), (3, .inl v8), (2, .inl 0), (0, .inr (.inr x0)), (1, .inl x1)]) (pc' := 62) d_C_worst_60 rfl (Nat.le_of_ble_eq_true rfl) rfl ?_))
      refine sm_sub [2, 1, 0, 3, 4] rfl ?_
      refine sm_bd (mid := fun (t16 : Int32) => .inl (108, [(2, .inl t16)], [])) (sm_lp (hd := fun (t9 : Int32 × Int32 × Int32) => (.inl (62, [(2, .inl t9.1), (3, .inl t9.2.1), (4, .inl t9.2.2), (0, .inr (.inr x0)), (1, .inl x1)], []) : mC)) (fun t9 => ?_) m_F (0, v8, 1)) (fun t16 => ?_)
      · refine sm_iload (j := 2) (pc' := 64) d_C_worst_62 rfl rfl (sm_aload_n (i := 0) (j := 3) (pc' := 65) d_C_worst_64 rfl rfl rfl ?_)
        refine sm_getR (pc' := 68) d_C_worst_65 rfl fl_C_37 rfl rfl (fun v10 => ?_)
        refine sm_getI (pc' := 71) d_C_worst_68 rfl fl_C_175 rfl ⟨by decide, by decide⟩ (fun v11 => ?_)
        refine sm_icmp_ge (tgt := 108) (pc' := 74) d_C_worst_71 rfl rfl ?_ ?_
        · refine sm_sub [0] rfl ?_
          exact sm_rt rfl
        · refine sm_aload_n (i := 0) (j := 3) (pc' := 75) d_C_worst_74 rfl rfl rfl ?_
          refine sm_getR (pc' := 78) d_C_worst_75 rfl fl_C_61 rfl rfl (fun v12 => ?_)
          refine sm_aload_n (i := 0) (j := 3) (pc' := 79) d_C_worst_78 rfl rfl rfl ?_
          refine sm_getR (pc' := 82) d_C_worst_79 rfl fl_C_37 rfl rfl (fun v13 => ?_)
          refine sm_iload (j := 2) (pc' := 84) d_C_worst_82 rfl rfl (sm_iload_n (i := 1) (j := 4) (pc' := 85) d_C_worst_84 rfl rfl rfl ?_)
          refine sm_callVi (ci := 7) (x := v12) (av := [.inr (.inr v13), .inl t9.2.2, .inl x1]) (st := []) (mc := 0) (ms := 0) (pc' := 88) d_C_worst_85 rfl (sd_Ah_allRustWithout v12 v13 t9.2.2 x1) m_lv rfl cv_Ah_allRustWithout w_ml_C_318 rfl rfl (by decide) (Nat.le_of_ble_eq_true rfl) rfl rfl (fun v14 => ?_)
          refine sm_istore (L' := [(5, .inl v14), (2, .inl t9.1), (3, .inl t9.2.1), (4, .inl t9.2.2), (0, .inr (.inr x0)), (1, .inl x1)]) (pc' := 90) d_C_worst_88 rfl (Nat.le_of_ble_eq_true rfl) rfl (sm_iload (j := 0) (pc' := 92) d_C_worst_90 rfl rfl (sm_iload_n (i := 3) (j := 2) (pc' := 93) d_C_worst_92 rfl rfl rfl ?_))
          refine sm_bd (mid := fun (t15 : Int32 × Int32) => .inl (102, [(0, .inr (.inr x0)), (1, .inl x1), (2, .inl t15.1), (3, .inl t15.2), (4, .inl t9.2.2)], [])) ?_ (fun t15 => ?_)
          · refine sm_icmp_ge (tgt := 102) (pc' := 96) d_C_worst_93 rfl rfl ?_ ?_
            · refine sm_sub [4, 5, 1, 2, 3] rfl ?_
              exact sm_rt rfl
            · refine sm_iload (j := 3) (pc' := 98) d_C_worst_96 rfl rfl (sm_istore_n (i := 2) (L' := [(2, .inl t9.2.2), (5, .inl v14), (3, .inl t9.2.1), (4, .inl t9.2.2), (0, .inr (.inr x0)), (1, .inl x1)]) (pc' := 99) d_C_worst_98 rfl rfl (Nat.le_of_ble_eq_true rfl) rfl (sm_iload (j := 1) (pc' := 101) d_C_worst_99 rfl rfl (sm_istore_n (i := 3) (L' := [(3, .inl v14), (2, .inl t9.2.2), (5, .inl v14), (4, .inl t9.2.2), (0, .inr (.inr x0)), (1, .inl x1)]) (pc' := 102) d_C_worst_101 rfl rfl (Nat.le_of_ble_eq_true rfl) rfl (sm_sub [4, 5, 1, 0, 3] rfl ?_))))
              exact sm_rt rfl
          · refine sm_iinc (j := 4) (L' := [(4, .inl (t9.2.2 + 1)), (0, .inr (.inr x0)), (1, .inl x1), (2, .inl t15.1), (3, .inl t15.2)]) (pc' := 105) d_C_worst_102 rfl (v := (t9.2.2 + 1)) rfl (ix_1 _) (Nat.le_of_ble_eq_true rfl) rfl (sm_goto (tgt := 62) d_C_worst_105 rfl (sm_sub [3, 4, 0, 1, 2] rfl ?_))
            exact sm_rt rfl
      · refine sm_iload_n (i := 2) (j := 0) (pc' := 109) d_C_worst_108 rfl rfl rfl ?_
        exact sm_ireturn d_C_worst_109 rfl rfl
    · refine sm_iconst (pc' := 42) d_C_worst_41 rfl ic_m1 ?_
      exact sm_ireturn d_C_worst_42 rfl rfl
