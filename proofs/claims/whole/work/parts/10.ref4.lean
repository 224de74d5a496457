/-! 10.ref4, laid by wip/whole/gen.py -/
theorem d_M_coat_0 : m_D k_M_coat 0 (.aload_n 0) 1 := (by decide +kernel : decode prog_14_method_96_code 0 = .ok (.aload_n 0, 1))
theorem d_M_coat_1 : m_D k_M_coat 1 (.iconst 0) 1 := (by decide +kernel : decode prog_14_method_96_code 1 = .ok (.iconst 0, 1))
theorem d_M_coat_2 : m_D k_M_coat 2 (.putfield 81) 3 := (by decide +kernel : decode prog_14_method_96_code 2 = .ok (.putfield 81, 3))
theorem d_M_coat_5 : m_D k_M_coat 5 (.aload_n 0) 1 := (by decide +kernel : decode prog_14_method_96_code 5 = .ok (.aload_n 0, 1))
theorem d_M_coat_6 : m_D k_M_coat 6 (.iconst 0) 1 := (by decide +kernel : decode prog_14_method_96_code 6 = .ok (.iconst 0, 1))
theorem d_M_coat_7 : m_D k_M_coat 7 (.putfield 84) 3 := (by decide +kernel : decode prog_14_method_96_code 7 = .ok (.putfield 84, 3))
theorem d_M_coat_10 : m_D k_M_coat 10 (.aload_n 0) 1 := (by decide +kernel : decode prog_14_method_96_code 10 = .ok (.aload_n 0, 1))
theorem d_M_coat_11 : m_D k_M_coat 11 (.iload_n 1) 1 := (by decide +kernel : decode prog_14_method_96_code 11 = .ok (.iload_n 1, 1))
theorem d_M_coat_12 : m_D k_M_coat 12 (.invokevirtual 357) 3 := (by decide +kernel : decode prog_14_method_96_code 12 = .ok (.invokevirtual 357, 3))
theorem d_M_coat_15 : m_D k_M_coat 15 (.ifCond .ne 9) 3 := (by decide +kernel : decode prog_14_method_96_code 15 = .ok (.ifCond .ne 9, 3))
theorem d_M_coat_18 : m_D k_M_coat 18 (.aload_n 0) 1 := (by decide +kernel : decode prog_14_method_96_code 18 = .ok (.aload_n 0, 1))
theorem d_M_coat_19 : m_D k_M_coat 19 (.iconst 2) 1 := (by decide +kernel : decode prog_14_method_96_code 19 = .ok (.iconst 2, 1))
theorem d_M_coat_20 : m_D k_M_coat 20 (.invokevirtual 331) 3 := (by decide +kernel : decode prog_14_method_96_code 20 = .ok (.invokevirtual 331, 3))
theorem d_M_coat_23 : m_D k_M_coat 23 (.ireturn) 1 := (by decide +kernel : decode prog_14_method_96_code 23 = .ok (.ireturn, 1))
theorem d_M_coat_24 : m_D k_M_coat 24 (.iload_n 2) 1 := (by decide +kernel : decode prog_14_method_96_code 24 = .ok (.iload_n 2, 1))
theorem d_M_coat_25 : m_D k_M_coat 25 (.i2l) 1 := (by decide +kernel : decode prog_14_method_96_code 25 = .ok (.i2l, 1))
theorem d_M_coat_26 : m_D k_M_coat 26 (.lconst 1) 1 := (by decide +kernel : decode prog_14_method_96_code 26 = .ok (.lconst 1, 1))
theorem d_M_coat_27 : m_D k_M_coat 27 (.ldc2_w 391) 3 := (by decide +kernel : decode prog_14_method_96_code 27 = .ok (.ldc2_w 391, 3))
theorem d_M_coat_30 : m_D k_M_coat 30 (.invokestatic 116) 3 := (by decide +kernel : decode prog_14_method_96_code 30 = .ok (.invokestatic 116, 3))
theorem d_M_coat_33 : m_D k_M_coat 33 (.ifCond .ne 9) 3 := (by decide +kernel : decode prog_14_method_96_code 33 = .ok (.ifCond .ne 9, 3))
theorem d_M_coat_36 : m_D k_M_coat 36 (.aload_n 0) 1 := (by decide +kernel : decode prog_14_method_96_code 36 = .ok (.aload_n 0, 1))
theorem d_M_coat_37 : m_D k_M_coat 37 (.iconst 5) 1 := (by decide +kernel : decode prog_14_method_96_code 37 = .ok (.iconst 5, 1))
theorem d_M_coat_38 : m_D k_M_coat 38 (.invokevirtual 331) 3 := (by decide +kernel : decode prog_14_method_96_code 38 = .ok (.invokevirtual 331, 3))
theorem d_M_coat_41 : m_D k_M_coat 41 (.ireturn) 1 := (by decide +kernel : decode prog_14_method_96_code 41 = .ok (.ireturn, 1))
theorem d_M_coat_42 : m_D k_M_coat 42 (.aload_n 0) 1 := (by decide +kernel : decode prog_14_method_96_code 42 = .ok (.aload_n 0, 1))
theorem d_M_coat_43 : m_D k_M_coat 43 (.iload_n 1) 1 := (by decide +kernel : decode prog_14_method_96_code 43 = .ok (.iload_n 1, 1))
theorem d_M_coat_44 : m_D k_M_coat 44 (.invokevirtual 319) 3 := (by decide +kernel : decode prog_14_method_96_code 44 = .ok (.invokevirtual 319, 3))
theorem d_M_coat_47 : m_D k_M_coat 47 (.ifCond .eq 12) 3 := (by decide +kernel : decode prog_14_method_96_code 47 = .ok (.ifCond .eq 12, 3))
theorem d_M_coat_50 : m_D k_M_coat 50 (.aload_n 0) 1 := (by decide +kernel : decode prog_14_method_96_code 50 = .ok (.aload_n 0, 1))
theorem d_M_coat_51 : m_D k_M_coat 51 (.bipush 9) 2 := (by decide +kernel : decode prog_14_method_96_code 51 = .ok (.bipush 9, 2))
theorem d_M_coat_53 : m_D k_M_coat 53 (.invokevirtual 331) 3 := (by decide +kernel : decode prog_14_method_96_code 53 = .ok (.invokevirtual 331, 3))
theorem d_M_coat_56 : m_D k_M_coat 56 (.goto 9) 3 := (by decide +kernel : decode prog_14_method_96_code 56 = .ok (.goto 9, 3))
theorem d_M_coat_59 : m_D k_M_coat 59 (.aload_n 0) 1 := (by decide +kernel : decode prog_14_method_96_code 59 = .ok (.aload_n 0, 1))
theorem d_M_coat_60 : m_D k_M_coat 60 (.iload_n 1) 1 := (by decide +kernel : decode prog_14_method_96_code 60 = .ok (.iload_n 1, 1))
theorem d_M_coat_61 : m_D k_M_coat 61 (.iload_n 2) 1 := (by decide +kernel : decode prog_14_method_96_code 61 = .ok (.iload_n 2, 1))
theorem d_M_coat_62 : m_D k_M_coat 62 (.invokevirtual 393) 3 := (by decide +kernel : decode prog_14_method_96_code 62 = .ok (.invokevirtual 393, 3))
theorem d_M_coat_65 : m_D k_M_coat 65 (.ireturn) 1 := (by decide +kernel : decode prog_14_method_96_code 65 = .ok (.ireturn, 1))
def fn_M_coat (x0 : Option mA) (x1 : Int32) (x2 : Int32) : mP Int32 :=
  m_th 11 x0 <|
  m_bd (m_pI 11 1 x0 0) fun _ =>
  m_bd (m_pI 11 0 x0 0) fun _ =>
  m_bd (fn_M_isThingAt x0 x1) fun v1 =>
  if v1 = 0 then
    m_bd (fn_M_refuse x0 2) fun v7 =>
    m_rt v7
  else
    m_bd (fn_M_isIn (x2).toInt64 1 999) fun v2 =>
    if v2 = 0 then
      m_bd (fn_M_refuse x0 5) fun v6 =>
      m_rt v6
    else
      m_bd (fn_M_isThrough x0 x1) fun v3 =>
      if v3 = 0 then
        m_bd (fn_M_coats x0 x1 x2) fun v4 =>
        m_rt v4
      else
        m_bd (fn_M_refuse x0 9) fun v5 =>
        m_rt v5
set_option maxHeartbeats 4000000 in
set_option maxRecDepth 100000 in
theorem sd_M_coat (x0 : Option mA) (x1 : Int32) (x2 : Int32) : m_Sm k_M_coat 3 0 0 [.inr (.inr x0), .inl x1, .inl x2] (fn_M_coat x0 x1 x2) (fun b => some (.inl b)) := by
  refine ⟨Nat.le_of_ble_eq_true rfl, ?_⟩
  refine sm_th ?_
  refine sm_aload_n (i := 0) (j := 0) (pc' := 1) d_M_coat_0 rfl rfl rfl (sm_iconst (pc' := 2) d_M_coat_1 rfl ic_0 (sm_putI (pc' := 5) d_M_coat_2 rfl fl_M_81 (Or.inl rfl) rfl (sm_aload_n (i := 0) (j := 0) (pc' := 6) d_M_coat_5 rfl rfl rfl (sm_iconst (pc' := 7) d_M_coat_6 rfl ic_0 (sm_putI (pc' := 10) d_M_coat_7 rfl fl_M_84 (Or.inl rfl) rfl (sm_aload_n (i := 0) (j := 0) (pc' := 11) d_M_coat_10 rfl rfl rfl (sm_iload_n (i := 1) (j := 1) (pc' := 12) d_M_coat_11 rfl rfl rfl ?_)))))))
  refine sm_callVi (ci := 11) (x := x0) (av := [.inl x1]) (st := []) (mc := 0) (ms := 0) (pc' := 15) d_M_coat_12 rfl (sd_M_isThingAt x0 x1) m_lv rfl cv_M_isThingAt w_ml_M_357 rfl rfl (by decide) (Nat.le_of_ble_eq_true rfl) rfl rfl (fun v1 => ?_)
  refine sm_if_ne (tgt := 24) (pc' := 18) d_M_coat_15 rfl rfl ?_ ?_
  · refine sm_iload_n (i := 2) (j := 2) (pc' := 25) d_M_coat_24 rfl rfl rfl (sm_i2l (pc' := 26) d_M_coat_25 rfl (sm_lconst (pc' := 27) (v := 1) d_M_coat_26 rfl rfl (sm_ldc2 (v := 999) (pc' := 30) d_M_coat_27 rfl w_cl_M_391 ?_)))
    refine sm_callSi (av := [.inr (.inl (x2).toInt64), .inr (.inl 1), .inr (.inl 999)]) (st := []) (mc := 0) (ms := 0) (pc' := 33) d_M_coat_30 rfl (sd_M_isIn (x2).toInt64 1 999) cs_M_isIn w_ml_M_116 rfl rfl (by decide) (Nat.le_of_ble_eq_true rfl) rfl rfl (fun v2 => ?_)
    refine sm_if_ne (tgt := 42) (pc' := 36) d_M_coat_33 rfl rfl ?_ ?_
    · refine sm_aload_n (i := 0) (j := 0) (pc' := 43) d_M_coat_42 rfl rfl rfl (sm_iload_n (i := 1) (j := 1) (pc' := 44) d_M_coat_43 rfl rfl rfl ?_)
      refine sm_callVi (ci := 11) (x := x0) (av := [.inl x1]) (st := []) (mc := 0) (ms := 0) (pc' := 47) d_M_coat_44 rfl (sd_M_isThrough x0 x1) m_lv rfl cv_M_isThrough w_ml_M_319 rfl rfl (by decide) (Nat.le_of_ble_eq_true rfl) rfl rfl (fun v3 => ?_)
      refine sm_if_eq (tgt := 59) (pc' := 50) d_M_coat_47 rfl rfl ?_ ?_
      · refine sm_aload_n (i := 0) (j := 0) (pc' := 60) d_M_coat_59 rfl rfl rfl (sm_iload_n (i := 1) (j := 1) (pc' := 61) d_M_coat_60 rfl rfl rfl (sm_iload_n (i := 2) (j := 2) (pc' := 62) d_M_coat_61 rfl rfl rfl ?_))
        refine sm_callVi (ci := 11) (x := x0) (av := [.inl x1, .inl x2]) (st := []) (mc := 0) (ms := 0) (pc' := 65) d_M_coat_62 rfl (sd_M_coats x0 x1 x2) m_lv rfl cv_M_coats w_ml_M_393 rfl rfl (by decide) (Nat.le_of_ble_eq_true rfl) rfl rfl (fun v4 => ?_)
        exact sm_ireturn d_M_coat_65 rfl rfl
      · refine sm_aload_n (i := 0) (j := 0) (pc' := 51) d_M_coat_50 rfl rfl rfl (sm_bipush (pc' := 53) d_M_coat_51 rfl ib_9 ?_)
        refine sm_callVi (ci := 11) (x := x0) (av := [.inl 9]) (st := []) (mc := 0) (ms := 0) (pc' := 56) d_M_coat_53 rfl (sd_M_refuse x0 9) m_lv rfl cv_M_refuse w_ml_M_331 rfl rfl (by decide) (Nat.le_of_ble_eq_true rfl) rfl rfl (fun v5 => ?_)
        refine sm_goto (tgt := 65) d_M_coat_56 rfl ?_
        exact sm_ireturn d_M_coat_65 rfl rfl
    · refine sm_aload_n (i := 0) (j := 0) (pc' := 37) d_M_coat_36 rfl rfl rfl (sm_iconst (pc' := 38) d_M_coat_37 rfl ic_5 ?_)
      refine sm_callVi (ci := 11) (x := x0) (av := [.inl 5]) (st := []) (mc := 0) (ms := 0) (pc' := 41) d_M_coat_38 rfl (sd_M_refuse x0 5) m_lv rfl cv_M_refuse w_ml_M_331 rfl rfl (by decide) (Nat.le_of_ble_eq_true rfl) rfl rfl (fun v6 => ?_)
      exact sm_ireturn d_M_coat_41 rfl rfl
  · refine sm_aload_n (i := 0) (j := 0) (pc' := 19) d_M_coat_18 rfl rfl rfl (sm_iconst (pc' := 20) d_M_coat_19 rfl ic_2 ?_)
    refine sm_callVi (ci := 11) (x := x0) (av := [.inl 2]) (st := []) (mc := 0) (ms := 0) (pc' := 23) d_M_coat_20 rfl (sd_M_refuse x0 2) m_lv rfl cv_M_refuse w_ml_M_331 rfl rfl (by decide) (Nat.le_of_ble_eq_true rfl) rfl rfl (fun v7 => ?_)
    exact sm_ireturn d_M_coat_23 rfl rfl
theorem d_M_mends_0 : m_D k_M_mends 0 (.aload_n 0) 1 := (by decide +kernel : decode prog_14_method_97_code 0 = .ok (.aload_n 0, 1))
theorem d_M_mends_1 : m_D k_M_mends 1 (.getfield 35) 3 := (by decide +kernel : decode prog_14_method_97_code 1 = .ok (.getfield 35, 3))
theorem d_M_mends_4 : m_D k_M_mends 4 (.bipush 41) 2 := (by decide +kernel : decode prog_14_method_97_code 4 = .ok (.bipush 41, 2))
theorem d_M_mends_6 : m_D k_M_mends 6 (.iload_n 1) 1 := (by decide +kernel : decode prog_14_method_97_code 6 = .ok (.iload_n 1, 1))
theorem d_M_mends_7 : m_D k_M_mends 7 (.iadd) 1 := (by decide +kernel : decode prog_14_method_97_code 7 = .ok (.iadd, 1))
theorem d_M_mends_8 : m_D k_M_mends 8 (.dup2) 1 := (by decide +kernel : decode prog_14_method_97_code 8 = .ok (.dup2, 1))
theorem d_M_mends_9 : m_D k_M_mends 9 (.iaload) 1 := (by decide +kernel : decode prog_14_method_97_code 9 = .ok (.iaload, 1))
theorem d_M_mends_10 : m_D k_M_mends 10 (.iconst 2) 1 := (by decide +kernel : decode prog_14_method_97_code 10 = .ok (.iconst 2, 1))
theorem d_M_mends_11 : m_D k_M_mends 11 (.idiv) 1 := (by decide +kernel : decode prog_14_method_97_code 11 = .ok (.idiv, 1))
theorem d_M_mends_12 : m_D k_M_mends 12 (.iastore) 1 := (by decide +kernel : decode prog_14_method_97_code 12 = .ok (.iastore, 1))
theorem d_M_mends_13 : m_D k_M_mends 13 (.aload_n 0) 1 := (by decide +kernel : decode prog_14_method_97_code 13 = .ok (.aload_n 0, 1))
theorem d_M_mends_14 : m_D k_M_mends 14 (.getfield 35) 3 := (by decide +kernel : decode prog_14_method_97_code 14 = .ok (.getfield 35, 3))
theorem d_M_mends_17 : m_D k_M_mends 17 (.bipush 41) 2 := (by decide +kernel : decode prog_14_method_97_code 17 = .ok (.bipush 41, 2))
theorem d_M_mends_19 : m_D k_M_mends 19 (.iload_n 1) 1 := (by decide +kernel : decode prog_14_method_97_code 19 = .ok (.iload_n 1, 1))
theorem d_M_mends_20 : m_D k_M_mends 20 (.iadd) 1 := (by decide +kernel : decode prog_14_method_97_code 20 = .ok (.iadd, 1))
theorem d_M_mends_21 : m_D k_M_mends 21 (.iaload) 1 := (by decide +kernel : decode prog_14_method_97_code 21 = .ok (.iaload, 1))
theorem d_M_mends_22 : m_D k_M_mends 22 (.ireturn) 1 := (by decide +kernel : decode prog_14_method_97_code 22 = .ok (.ireturn, 1))
def fn_M_mends (x0 : Option mA) (x1 : Int32) : mP Int32 :=
  m_th 11 x0 <|
  m_bd (m_gR 11 20 x0) fun v1 =>
  m_bd (m_aI 0 v1 (41 + x1)) fun v2 =>
  m_bd (m_tI 0 v1 (41 + x1) (v2 / 2)) fun _ =>
  m_bd (m_gR 11 20 x0) fun v3 =>
  m_bd (m_aI 0 v3 (41 + x1)) fun v4 =>
  m_rt v4
set_option maxHeartbeats 4000000 in
set_option maxRecDepth 100000 in
theorem sd_M_mends (x0 : Option mA) (x1 : Int32) : m_Sm k_M_mends 1 0 0 [.inr (.inr x0), .inl x1] (fn_M_mends x0 x1) (fun b => some (.inl b)) := by
  refine ⟨Nat.le_of_ble_eq_true rfl, ?_⟩
  refine sm_th ?_
  refine sm_aload_n (i := 0) (j := 0) (pc' := 1) d_M_mends_0 rfl rfl rfl ?_
  refine sm_getR (pc' := 4) d_M_mends_1 rfl fl_M_35 rfl rfl (fun v1 => ?_)
  refine sm_bipush (pc' := 6) d_M_mends_4 rfl ib_41 (sm_iload_n (i := 1) (j := 1) (pc' := 7) d_M_mends_6 rfl rfl rfl (sm_iadd (pc' := 8) d_M_mends_7 rfl (sm_dup2 (pc' := 9) d_M_mends_8 rfl rfl rfl ?_)))
  refine sm_iald (pc' := 10) d_M_mends_9 rfl (fun v2 => ?_)
  refine sm_iconst (pc' := 11) d_M_mends_10 rfl ic_2 (sm_idiv (pc' := 12) d_M_mends_11 rfl (by decide) (sm_iast (pc' := 13) d_M_mends_12 rfl (sm_aload_n (i := 0) (j := 0) (pc' := 14) d_M_mends_13 rfl rfl rfl ?_)))
  refine sm_getR (pc' := 17) d_M_mends_14 rfl fl_M_35 rfl rfl (fun v3 => ?_)
  refine sm_bipush (pc' := 19) d_M_mends_17 rfl ib_41 (sm_iload_n (i := 1) (j := 1) (pc' := 20) d_M_mends_19 rfl rfl rfl (sm_iadd (pc' := 21) d_M_mends_20 rfl ?_))
  refine sm_iald (pc' := 22) d_M_mends_21 rfl (fun v4 => ?_)
  exact sm_ireturn d_M_mends_22 rfl rfl
theorem d_M_mend_0 : m_D k_M_mend 0 (.aload_n 0) 1 := (by decide +kernel : decode prog_14_method_98_code 0 = .ok (.aload_n 0, 1))
theorem d_M_mend_1 : m_D k_M_mend 1 (.iconst 0) 1 := (by decide +kernel : decode prog_14_method_98_code 1 = .ok (.iconst 0, 1))
theorem d_M_mend_2 : m_D k_M_mend 2 (.putfield 81) 3 := (by decide +kernel : decode prog_14_method_98_code 2 = .ok (.putfield 81, 3))
theorem d_M_mend_5 : m_D k_M_mend 5 (.aload_n 0) 1 := (by decide +kernel : decode prog_14_method_98_code 5 = .ok (.aload_n 0, 1))
theorem d_M_mend_6 : m_D k_M_mend 6 (.iconst 0) 1 := (by decide +kernel : decode prog_14_method_98_code 6 = .ok (.iconst 0, 1))
theorem d_M_mend_7 : m_D k_M_mend 7 (.putfield 84) 3 := (by decide +kernel : decode prog_14_method_98_code 7 = .ok (.putfield 84, 3))
theorem d_M_mend_10 : m_D k_M_mend 10 (.aload_n 0) 1 := (by decide +kernel : decode prog_14_method_98_code 10 = .ok (.aload_n 0, 1))
theorem d_M_mend_11 : m_D k_M_mend 11 (.iload_n 1) 1 := (by decide +kernel : decode prog_14_method_98_code 11 = .ok (.iload_n 1, 1))
theorem d_M_mend_12 : m_D k_M_mend 12 (.invokevirtual 357) 3 := (by decide +kernel : decode prog_14_method_98_code 12 = .ok (.invokevirtual 357, 3))
theorem d_M_mend_15 : m_D k_M_mend 15 (.ifCond .ne 9) 3 := (by decide +kernel : decode prog_14_method_98_code 15 = .ok (.ifCond .ne 9, 3))
theorem d_M_mend_18 : m_D k_M_mend 18 (.aload_n 0) 1 := (by decide +kernel : decode prog_14_method_98_code 18 = .ok (.aload_n 0, 1))
theorem d_M_mend_19 : m_D k_M_mend 19 (.iconst 2) 1 := (by decide +kernel : decode prog_14_method_98_code 19 = .ok (.iconst 2, 1))
theorem d_M_mend_20 : m_D k_M_mend 20 (.invokevirtual 331) 3 := (by decide +kernel : decode prog_14_method_98_code 20 = .ok (.invokevirtual 331, 3))
theorem d_M_mend_23 : m_D k_M_mend 23 (.ireturn) 1 := (by decide +kernel : decode prog_14_method_98_code 23 = .ok (.ireturn, 1))
theorem d_M_mend_24 : m_D k_M_mend 24 (.aload_n 0) 1 := (by decide +kernel : decode prog_14_method_98_code 24 = .ok (.aload_n 0, 1))
theorem d_M_mend_25 : m_D k_M_mend 25 (.iload_n 1) 1 := (by decide +kernel : decode prog_14_method_98_code 25 = .ok (.iload_n 1, 1))
theorem d_M_mend_26 : m_D k_M_mend 26 (.invokevirtual 319) 3 := (by decide +kernel : decode prog_14_method_98_code 26 = .ok (.invokevirtual 319, 3))
theorem d_M_mend_29 : m_D k_M_mend 29 (.ifCond .eq 12) 3 := (by decide +kernel : decode prog_14_method_98_code 29 = .ok (.ifCond .eq 12, 3))
theorem d_M_mend_32 : m_D k_M_mend 32 (.aload_n 0) 1 := (by decide +kernel : decode prog_14_method_98_code 32 = .ok (.aload_n 0, 1))
theorem d_M_mend_33 : m_D k_M_mend 33 (.bipush 9) 2 := (by decide +kernel : decode prog_14_method_98_code 33 = .ok (.bipush 9, 2))
theorem d_M_mend_35 : m_D k_M_mend 35 (.invokevirtual 331) 3 := (by decide +kernel : decode prog_14_method_98_code 35 = .ok (.invokevirtual 331, 3))
theorem d_M_mend_38 : m_D k_M_mend 38 (.goto 8) 3 := (by decide +kernel : decode prog_14_method_98_code 38 = .ok (.goto 8, 3))
theorem d_M_mend_41 : m_D k_M_mend 41 (.aload_n 0) 1 := (by decide +kernel : decode prog_14_method_98_code 41 = .ok (.aload_n 0, 1))
theorem d_M_mend_42 : m_D k_M_mend 42 (.iload_n 1) 1 := (by decide +kernel : decode prog_14_method_98_code 42 = .ok (.iload_n 1, 1))
theorem d_M_mend_43 : m_D k_M_mend 43 (.invokevirtual 396) 3 := (by decide +kernel : decode prog_14_method_98_code 43 = .ok (.invokevirtual 396, 3))
theorem d_M_mend_46 : m_D k_M_mend 46 (.ireturn) 1 := (by decide +kernel : decode prog_14_method_98_code 46 = .ok (.ireturn, 1))
def fn_M_mend (x0 : Option mA) (x1 : Int32) : mP Int32 :=
  m_th 11 x0 <|
  m_bd (m_pI 11 1 x0 0) fun _ =>
  m_bd (m_pI 11 0 x0 0) fun _ =>
  m_bd (fn_M_isThingAt x0 x1) fun v1 =>
  if v1 = 0 then
    m_bd (fn_M_refuse x0 2) fun v5 =>
    m_rt v5
  else
    m_bd (fn_M_isThrough x0 x1) fun v2 =>
    if v2 = 0 then
      m_bd (fn_M_mends x0 x1) fun v3 =>
      m_rt v3
    else
      m_bd (fn_M_refuse x0 9) fun v4 =>
      m_rt v4
set_option maxHeartbeats 4000000 in
set_option maxRecDepth 100000 in
theorem sd_M_mend (x0 : Option mA) (x1 : Int32) : m_Sm k_M_mend 3 0 0 [.inr (.inr x0), .inl x1] (fn_M_mend x0 x1) (fun b => some (.inl b)) := by
  refine ⟨Nat.le_of_ble_eq_true rfl, ?_⟩
  refine sm_th ?_
  refine sm_aload_n (i := 0) (j := 0) (pc' := 1) d_M_mend_0 rfl rfl rfl (sm_iconst (pc' := 2) d_M_mend_1 rfl ic_0 (sm_putI (pc' := 5) d_M_mend_2 rfl fl_M_81 (Or.inl rfl) rfl (sm_aload_n (i := 0) (j := 0) (pc' := 6) d_M_mend_5 rfl rfl rfl (sm_iconst (pc' := 7) d_M_mend_6 rfl ic_0 (sm_putI (pc' := 10) d_M_mend_7 rfl fl_M_84 (Or.inl rfl) rfl (sm_aload_n (i := 0) (j := 0) (pc' := 11) d_M_mend_10 rfl rfl rfl (sm_iload_n (i := 1) (j := 1) (pc' := 12) d_M_mend_11 rfl rfl rfl ?_)))))))
  refine sm_callVi (ci := 11) (x := x0) (av := [.inl x1]) (st := []) (mc := 0) (ms := 0) (pc' := 15) d_M_mend_12 rfl (sd_M_isThingAt x0 x1) m_lv rfl cv_M_isThingAt w_ml_M_357 rfl rfl (by decide) (Nat.le_of_ble_eq_true rfl) rfl rfl (fun v1 => ?_)
  refine sm_if_ne (tgt := 24) (pc' := 18) d_M_mend_15 rfl rfl ?_ ?_
  · refine sm_aload_n (i := 0) (j := 0) (pc' := 25) d_M_mend_24 rfl rfl rfl (sm_iload_n (i := 1) (j := 1) (pc' := 26) d_M_mend_25 rfl rfl rfl ?_)
    refine sm_callVi (ci := 11) (x := x0) (av := [.inl x1]) (st := []) (mc := 0) (ms := 0) (pc' := 29) d_M_mend_26 rfl (sd_M_isThrough x0 x1) m_lv rfl cv_M_isThrough w_ml_M_319 rfl rfl (by decide) (Nat.le_of_ble_eq_true rfl) rfl rfl (fun v2 => ?_)
    refine sm_if_eq (tgt := 41) (pc' := 32) d_M_mend_29 rfl rfl ?_ ?_
    · refine sm_aload_n (i := 0) (j := 0) (pc' := 42) d_M_mend_41 rfl rfl rfl (sm_iload_n (i := 1) (j := 1) (pc' := 43) d_M_mend_42 rfl rfl rfl ?_)
      refine sm_callVi (ci := 11) (x := x0) (av := [.inl x1]) (st := []) (mc := 0) (ms := 0) (pc' := 46) d_M_mend_43 rfl (sd_M_mends x0 x1) m_lv rfl cv_M_mends w_ml_M_396 rfl rfl (by decide) (Nat.le_of_ble_eq_true rfl) rfl rfl (fun v3 => ?_)
      exact sm_ireturn d_M_mend_46 rfl rfl
    · refine sm_aload_n (i := 0) (j := 0) (pc' := 33) d_M_mend_32 rfl rfl rfl (sm_bipush (pc' := 35) d_M_mend_33 rfl ib_9 ?_)
      refine sm_callVi (ci := 11) (x := x0) (av := [.inl 9]) (st := []) (mc := 0) (ms := 0) (pc' := 38) d_M_mend_35 rfl (sd_M_refuse x0 9) m_lv rfl cv_M_refuse w_ml_M_331 rfl rfl (by decide) (Nat.le_of_ble_eq_true rfl) rfl rfl (fun v4 => ?_)
      refine sm_goto (tgt := 46) d_M_mend_38 rfl ?_
      exact sm_ireturn d_M_mend_46 rfl rfl
  · refine sm_aload_n (i := 0) (j := 0) (pc' := 19) d_M_mend_18 rfl rfl rfl (sm_iconst (pc' := 20) d_M_mend_19 rfl ic_2 ?_)
    refine sm_callVi (ci := 11) (x := x0) (av := [.inl 2]) (st := []) (mc := 0) (ms := 0) (pc' := 23) d_M_mend_20 rfl (sd_M_refuse x0 2) m_lv rfl cv_M_refuse w_ml_M_331 rfl rfl (by decide) (Nat.le_of_ble_eq_true rfl) rfl rfl (fun v5 => ?_)
    exact sm_ireturn d_M_mend_23 rfl rfl
theorem d_M_breathed_0 : m_D k_M_breathed 0 (.aload_n 0) 1 := (by decide +kernel : decode prog_14_method_99_code 0 = .ok (.aload_n 0, 1))
theorem d_M_breathed_1 : m_D k_M_breathed 1 (.iload_n 1) 1 := (by decide +kernel : decode prog_14_method_99_code 1 = .ok (.iload_n 1, 1))
theorem d_M_breathed_2 : m_D k_M_breathed 2 (.invokevirtual 319) 3 := (by decide +kernel : decode prog_14_method_99_code 2 = .ok (.invokevirtual 319, 3))
theorem d_M_breathed_5 : m_D k_M_breathed 5 (.ifCond .eq 5) 3 := (by decide +kernel : decode prog_14_method_99_code 5 = .ok (.ifCond .eq 5, 3))
theorem d_M_breathed_8 : m_D k_M_breathed 8 (.iconst 0) 1 := (by decide +kernel : decode prog_14_method_99_code 8 = .ok (.iconst 0, 1))
theorem d_M_breathed_9 : m_D k_M_breathed 9 (.ireturn) 1 := (by decide +kernel : decode prog_14_method_99_code 9 = .ok (.ireturn, 1))
theorem d_M_breathed_10 : m_D k_M_breathed 10 (.aload_n 0) 1 := (by decide +kernel : decode prog_14_method_99_code 10 = .ok (.aload_n 0, 1))
theorem d_M_breathed_11 : m_D k_M_breathed 11 (.getfield 35) 3 := (by decide +kernel : decode prog_14_method_99_code 11 = .ok (.getfield 35, 3))
theorem d_M_breathed_14 : m_D k_M_breathed 14 (.bipush 41) 2 := (by decide +kernel : decode prog_14_method_99_code 14 = .ok (.bipush 41, 2))
theorem d_M_breathed_16 : m_D k_M_breathed 16 (.iload_n 1) 1 := (by decide +kernel : decode prog_14_method_99_code 16 = .ok (.iload_n 1, 1))
theorem d_M_breathed_17 : m_D k_M_breathed 17 (.iadd) 1 := (by decide +kernel : decode prog_14_method_99_code 17 = .ok (.iadd, 1))
theorem d_M_breathed_18 : m_D k_M_breathed 18 (.sipush 999) 3 := (by decide +kernel : decode prog_14_method_99_code 18 = .ok (.sipush 999, 3))
theorem d_M_breathed_21 : m_D k_M_breathed 21 (.aload_n 0) 1 := (by decide +kernel : decode prog_14_method_99_code 21 = .ok (.aload_n 0, 1))
theorem d_M_breathed_22 : m_D k_M_breathed 22 (.getfield 35) 3 := (by decide +kernel : decode prog_14_method_99_code 22 = .ok (.getfield 35, 3))
theorem d_M_breathed_25 : m_D k_M_breathed 25 (.bipush 41) 2 := (by decide +kernel : decode prog_14_method_99_code 25 = .ok (.bipush 41, 2))
theorem d_M_breathed_27 : m_D k_M_breathed 27 (.iload_n 1) 1 := (by decide +kernel : decode prog_14_method_99_code 27 = .ok (.iload_n 1, 1))
theorem d_M_breathed_28 : m_D k_M_breathed 28 (.iadd) 1 := (by decide +kernel : decode prog_14_method_99_code 28 = .ok (.iadd, 1))
theorem d_M_breathed_29 : m_D k_M_breathed 29 (.iaload) 1 := (by decide +kernel : decode prog_14_method_99_code 29 = .ok (.iaload, 1))
theorem d_M_breathed_30 : m_D k_M_breathed 30 (.aload_n 0) 1 := (by decide +kernel : decode prog_14_method_99_code 30 = .ok (.aload_n 0, 1))
theorem d_M_breathed_31 : m_D k_M_breathed 31 (.getfield 35) 3 := (by decide +kernel : decode prog_14_method_99_code 31 = .ok (.getfield 35, 3))
theorem d_M_breathed_34 : m_D k_M_breathed 34 (.iconst 5) 1 := (by decide +kernel : decode prog_14_method_99_code 34 = .ok (.iconst 5, 1))
theorem d_M_breathed_35 : m_D k_M_breathed 35 (.iaload) 1 := (by decide +kernel : decode prog_14_method_99_code 35 = .ok (.iaload, 1))
theorem d_M_breathed_36 : m_D k_M_breathed 36 (.iadd) 1 := (by decide +kernel : decode prog_14_method_99_code 36 = .ok (.iadd, 1))
theorem d_M_breathed_37 : m_D k_M_breathed 37 (.invokestatic 375) 3 := (by decide +kernel : decode prog_14_method_99_code 37 = .ok (.invokestatic 375, 3))
theorem d_M_breathed_40 : m_D k_M_breathed 40 (.iastore) 1 := (by decide +kernel : decode prog_14_method_99_code 40 = .ok (.iastore, 1))
theorem d_M_breathed_41 : m_D k_M_breathed 41 (.iconst 1) 1 := (by decide +kernel : decode prog_14_method_99_code 41 = .ok (.iconst 1, 1))
theorem d_M_breathed_42 : m_D k_M_breathed 42 (.ireturn) 1 := (by decide +kernel : decode prog_14_method_99_code 42 = .ok (.ireturn, 1))
def fn_M_breathed (x0 : Option mA) (x1 : Int32) : mP Int32 :=
  m_th 11 x0 <|
  m_bd (fn_M_isThrough x0 x1) fun v1 =>
  if v1 = 0 then
    m_bd (m_gR 11 20 x0) fun v2 =>
    m_bd (m_gR 11 20 x0) fun v3 =>
    m_bd (m_aI 0 v3 (41 + x1)) fun v4 =>
    m_bd (m_gR 11 20 x0) fun v5 =>
    m_bd (m_aI 0 v5 5) fun v6 =>
    m_bd (m_tI 0 v2 (41 + x1) (iMin 999 (v4 + v6))) fun _ =>
    m_rt 1
  else
    m_rt 0
set_option maxHeartbeats 4000000 in
set_option maxRecDepth 100000 in
theorem sd_M_breathed (x0 : Option mA) (x1 : Int32) : m_Sm k_M_breathed 2 0 0 [.inr (.inr x0), .inl x1] (fn_M_breathed x0 x1) (fun b => some (.inl b)) := by
  refine ⟨Nat.le_of_ble_eq_true rfl, ?_⟩
  refine sm_th ?_
  refine sm_aload_n (i := 0) (j := 0) (pc' := 1) d_M_breathed_0 rfl rfl rfl (sm_iload_n (i := 1) (j := 1) (pc' := 2) d_M_breathed_1 rfl rfl rfl ?_)
  refine sm_callVi (ci := 11) (x := x0) (av := [.inl x1]) (st := []) (mc := 0) (ms := 0) (pc' := 5) d_M_breathed_2 rfl (sd_M_isThrough x0 x1) m_lv rfl cv_M_isThrough w_ml_M_319 rfl rfl (by decide) (Nat.le_of_ble_eq_true rfl) rfl rfl (fun v1 => ?_)
  refine sm_if_eq (tgt := 10) (pc' := 8) d_M_breathed_5 rfl rfl ?_ ?_
  · refine sm_aload_n (i := 0) (j := 0) (pc' := 11) d_M_breathed_10 rfl rfl rfl ?_
    refine sm_getR (pc' := 14) d_M_breathed_11 rfl fl_M_35 rfl rfl (fun v2 => ?_)
    refine sm_bipush (pc' := 16) d_M_breathed_14 rfl ib_41 (sm_iload_n (i := 1) (j := 1) (pc' := 17) d_M_breathed_16 rfl rfl rfl (sm_iadd (pc' := 18) d_M_breathed_17 rfl (sm_sipush (pc' := 21) d_M_breathed_18 rfl is_999 (sm_aload_n (i := 0) (j := 0) (pc' := 22) d_M_breathed_21 rfl rfl rfl ?_))))
    refine sm_getR (pc' := 25) d_M_breathed_22 rfl fl_M_35 rfl rfl (fun v3 => ?_)
    refine sm_bipush (pc' := 27) d_M_breathed_25 rfl ib_41 (sm_iload_n (i := 1) (j := 1) (pc' := 28) d_M_breathed_27 rfl rfl rfl (sm_iadd (pc' := 29) d_M_breathed_28 rfl ?_))
    refine sm_iald (pc' := 30) d_M_breathed_29 rfl (fun v4 => ?_)
    refine sm_aload_n (i := 0) (j := 0) (pc' := 31) d_M_breathed_30 rfl rfl rfl ?_
    refine sm_getR (pc' := 34) d_M_breathed_31 rfl fl_M_35 rfl rfl (fun v5 => ?_)
    refine sm_iconst (pc' := 35) d_M_breathed_34 rfl ic_5 ?_
    refine sm_iald (pc' := 36) d_M_breathed_35 rfl (fun v6 => ?_)
    refine sm_iadd (pc' := 37) d_M_breathed_36 rfl (sm_mmin (pc' := 40) d_M_breathed_37 rfl w_ml_M_375 (by decide) (Nat.le_of_ble_eq_true rfl) (sm_iast (pc' := 41) d_M_breathed_40 rfl (sm_iconst (pc' := 42) d_M_breathed_41 rfl ic_1 ?_)))
    exact sm_zreturn d_M_breathed_42 rfl (by decide) rfl
  · refine sm_iconst (pc' := 9) d_M_breathed_8 rfl ic_0 ?_
    exact sm_zreturn d_M_breathed_9 rfl (by decide) rfl
theorem d_M_breathe_0 : m_D k_M_breathe 0 (.aload_n 0) 1 := (by decide +kernel : decode prog_14_method_100_code 0 = .ok (.aload_n 0, 1))
theorem d_M_breathe_1 : m_D k_M_breathe 1 (.iconst 0) 1 := (by decide +kernel : decode prog_14_method_100_code 1 = .ok (.iconst 0, 1))
theorem d_M_breathe_2 : m_D k_M_breathe 2 (.putfield 81) 3 := (by decide +kernel : decode prog_14_method_100_code 2 = .ok (.putfield 81, 3))
theorem d_M_breathe_5 : m_D k_M_breathe 5 (.aload_n 0) 1 := (by decide +kernel : decode prog_14_method_100_code 5 = .ok (.aload_n 0, 1))
theorem d_M_breathe_6 : m_D k_M_breathe 6 (.iconst 0) 1 := (by decide +kernel : decode prog_14_method_100_code 6 = .ok (.iconst 0, 1))
theorem d_M_breathe_7 : m_D k_M_breathe 7 (.putfield 84) 3 := (by decide +kernel : decode prog_14_method_100_code 7 = .ok (.putfield 84, 3))
theorem d_M_breathe_10 : m_D k_M_breathe 10 (.aload_n 0) 1 := (by decide +kernel : decode prog_14_method_100_code 10 = .ok (.aload_n 0, 1))
theorem d_M_breathe_11 : m_D k_M_breathe 11 (.iload_n 1) 1 := (by decide +kernel : decode prog_14_method_100_code 11 = .ok (.iload_n 1, 1))
theorem d_M_breathe_12 : m_D k_M_breathe 12 (.invokevirtual 357) 3 := (by decide +kernel : decode prog_14_method_100_code 12 = .ok (.invokevirtual 357, 3))
theorem d_M_breathe_15 : m_D k_M_breathe 15 (.ifCond .ne 9) 3 := (by decide +kernel : decode prog_14_method_100_code 15 = .ok (.ifCond .ne 9, 3))
theorem d_M_breathe_18 : m_D k_M_breathe 18 (.aload_n 0) 1 := (by decide +kernel : decode prog_14_method_100_code 18 = .ok (.aload_n 0, 1))
theorem d_M_breathe_19 : m_D k_M_breathe 19 (.iconst 2) 1 := (by decide +kernel : decode prog_14_method_100_code 19 = .ok (.iconst 2, 1))
theorem d_M_breathe_20 : m_D k_M_breathe 20 (.invokevirtual 331) 3 := (by decide +kernel : decode prog_14_method_100_code 20 = .ok (.invokevirtual 331, 3))
theorem d_M_breathe_23 : m_D k_M_breathe 23 (.ireturn) 1 := (by decide +kernel : decode prog_14_method_100_code 23 = .ok (.ireturn, 1))
theorem d_M_breathe_24 : m_D k_M_breathe 24 (.aload_n 0) 1 := (by decide +kernel : decode prog_14_method_100_code 24 = .ok (.aload_n 0, 1))
theorem d_M_breathe_25 : m_D k_M_breathe 25 (.iload_n 1) 1 := (by decide +kernel : decode prog_14_method_100_code 25 = .ok (.iload_n 1, 1))
theorem d_M_breathe_26 : m_D k_M_breathe 26 (.invokevirtual 399) 3 := (by decide +kernel : decode prog_14_method_100_code 26 = .ok (.invokevirtual 399, 3))
theorem d_M_breathe_29 : m_D k_M_breathe 29 (.ifCond .eq 15) 3 := (by decide +kernel : decode prog_14_method_100_code 29 = .ok (.ifCond .eq 15, 3))
theorem d_M_breathe_32 : m_D k_M_breathe 32 (.aload_n 0) 1 := (by decide +kernel : decode prog_14_method_100_code 32 = .ok (.aload_n 0, 1))
theorem d_M_breathe_33 : m_D k_M_breathe 33 (.getfield 35) 3 := (by decide +kernel : decode prog_14_method_100_code 33 = .ok (.getfield 35, 3))
theorem d_M_breathe_36 : m_D k_M_breathe 36 (.bipush 41) 2 := (by decide +kernel : decode prog_14_method_100_code 36 = .ok (.bipush 41, 2))
theorem d_M_breathe_38 : m_D k_M_breathe 38 (.iload_n 1) 1 := (by decide +kernel : decode prog_14_method_100_code 38 = .ok (.iload_n 1, 1))
theorem d_M_breathe_39 : m_D k_M_breathe 39 (.iadd) 1 := (by decide +kernel : decode prog_14_method_100_code 39 = .ok (.iadd, 1))
theorem d_M_breathe_40 : m_D k_M_breathe 40 (.iaload) 1 := (by decide +kernel : decode prog_14_method_100_code 40 = .ok (.iaload, 1))
theorem d_M_breathe_41 : m_D k_M_breathe 41 (.goto 9) 3 := (by decide +kernel : decode prog_14_method_100_code 41 = .ok (.goto 9, 3))
theorem d_M_breathe_44 : m_D k_M_breathe 44 (.aload_n 0) 1 := (by decide +kernel : decode prog_14_method_100_code 44 = .ok (.aload_n 0, 1))
theorem d_M_breathe_45 : m_D k_M_breathe 45 (.bipush 9) 2 := (by decide +kernel : decode prog_14_method_100_code 45 = .ok (.bipush 9, 2))
theorem d_M_breathe_47 : m_D k_M_breathe 47 (.invokevirtual 331) 3 := (by decide +kernel : decode prog_14_method_100_code 47 = .ok (.invokevirtual 331, 3))
theorem d_M_breathe_50 : m_D k_M_breathe 50 (.ireturn) 1 := (by decide +kernel : decode prog_14_method_100_code 50 = .ok (.ireturn, 1))
def fn_M_breathe (x0 : Option mA) (x1 : Int32) : mP Int32 :=
  m_th 11 x0 <|
  m_bd (m_pI 11 1 x0 0) fun _ =>
  m_bd (m_pI 11 0 x0 0) fun _ =>
  m_bd (fn_M_isThingAt x0 x1) fun v1 =>
  if v1 = 0 then
    m_bd (fn_M_refuse x0 2) fun v6 =>
    m_rt v6
  else
    m_bd (fn_M_breathed x0 x1) fun v2 =>
    if v2 = 0 then
      m_bd (fn_M_refuse x0 9) fun v3 =>
      m_rt v3
    else
      m_bd (m_gR 11 20 x0) fun v4 =>
      m_bd (m_aI 0 v4 (41 + x1)) fun v5 =>
      m_rt v5
set_option maxHeartbeats 4000000 in
set_option maxRecDepth 100000 in
theorem sd_M_breathe (x0 : Option mA) (x1 : Int32) : m_Sm k_M_breathe 3 0 0 [.inr (.inr x0), .inl x1] (fn_M_breathe x0 x1) (fun b => some (.inl b)) := by
  refine ⟨Nat.le_of_ble_eq_true rfl, ?_⟩
  refine sm_th ?_
  refine sm_aload_n (i := 0) (j := 0) (pc' := 1) d_M_breathe_0 rfl rfl rfl (sm_iconst (pc' := 2) d_M_breathe_1 rfl ic_0 (sm_putI (pc' := 5) d_M_breathe_2 rfl fl_M_81 (Or.inl rfl) rfl (sm_aload_n (i := 0) (j := 0) (pc' := 6) d_M_breathe_5 rfl rfl rfl (sm_iconst (pc' := 7) d_M_breathe_6 rfl ic_0 (sm_putI (pc' := 10) d_M_breathe_7 rfl fl_M_84 (Or.inl rfl) rfl (sm_aload_n (i := 0) (j := 0) (pc' := 11) d_M_breathe_10 rfl rfl rfl (sm_iload_n (i := 1) (j := 1) (pc' := 12) d_M_breathe_11 rfl rfl rfl ?_)))))))
  refine sm_callVi (ci := 11) (x := x0) (av := [.inl x1]) (st := []) (mc := 0) (ms := 0) (pc' := 15) d_M_breathe_12 rfl (sd_M_isThingAt x0 x1) m_lv rfl cv_M_isThingAt w_ml_M_357 rfl rfl (by decide) (Nat.le_of_ble_eq_true rfl) rfl rfl (fun v1 => ?_)
  refine sm_if_ne (tgt := 24) (pc' := 18) d_M_breathe_15 rfl rfl ?_ ?_
  · refine sm_aload_n (i := 0) (j := 0) (pc' := 25) d_M_breathe_24 rfl rfl rfl (sm_iload_n (i := 1) (j := 1) (pc' := 26) d_M_breathe_25 rfl rfl rfl ?_)
    refine sm_callVi (ci := 11) (x := x0) (av := [.inl x1]) (st := []) (mc := 0) (ms := 0) (pc' := 29) d_M_breathe_26 rfl (sd_M_breathed x0 x1) m_lv rfl cv_M_breathed w_ml_M_399 rfl rfl (by decide) (Nat.le_of_ble_eq_true rfl) rfl rfl (fun v2 => ?_)
    refine sm_if_eq (tgt := 44) (pc' := 32) d_M_breathe_29 rfl rfl ?_ ?_
    · refine sm_aload_n (i := 0) (j := 0) (pc' := 45) d_M_breathe_44 rfl rfl rfl (sm_bipush (pc' := 47) d_M_breathe_45 rfl ib_9 ?_)
      refine sm_callVi (ci := 11) (x := x0) (av := [.inl 9]) (st := []) (mc := 0) (ms := 0) (pc' := 50) d_M_breathe_47 rfl (sd_M_refuse x0 9) m_lv rfl cv_M_refuse w_ml_M_331 rfl rfl (by decide) (Nat.le_of_ble_eq_true rfl) rfl rfl (fun v3 => ?_)
      exact sm_ireturn d_M_breathe_50 rfl rfl
    · refine sm_aload_n (i := 0) (j := 0) (pc' := 33) d_M_breathe_32 rfl rfl rfl ?_
      refine sm_getR (pc' := 36) d_M_breathe_33 rfl fl_M_35 rfl rfl (fun v4 => ?_)
      refine sm_bipush (pc' := 38) d_M_breathe_36 rfl ib_41 (sm_iload_n (i := 1) (j := 1) (pc' := 39) d_M_breathe_38 rfl rfl rfl (sm_iadd (pc' := 40) d_M_breathe_39 rfl ?_))
      refine sm_iald (pc' := 41) d_M_breathe_40 rfl (fun v5 => ?_)
      refine sm_goto (tgt := 50) d_M_breathe_41 rfl ?_
      exact sm_ireturn d_M_breathe_50 rfl rfl
  · refine sm_aload_n (i := 0) (j := 0) (pc' := 19) d_M_breathe_18 rfl rfl rfl (sm_iconst (pc' := 20) d_M_breathe_19 rfl ic_2 ?_)
    refine sm_callVi (ci := 11) (x := x0) (av := [.inl 2]) (st := []) (mc := 0) (ms := 0) (pc' := 23) d_M_breathe_20 rfl (sd_M_refuse x0 2) m_lv rfl cv_M_refuse w_ml_M_331 rfl rfl (by decide) (Nat.le_of_ble_eq_true rfl) rfl rfl (fun v6 => ?_)
    exact sm_ireturn d_M_breathe_23 rfl rfl
theorem d_M_forge_0 : m_D k_M_forge 0 (.aload_n 0) 1 := (by decide +kernel : decode prog_14_method_101_code 0 = .ok (.aload_n 0, 1))
theorem d_M_forge_1 : m_D k_M_forge 1 (.iconst 0) 1 := (by decide +kernel : decode prog_14_method_101_code 1 = .ok (.iconst 0, 1))
theorem d_M_forge_2 : m_D k_M_forge 2 (.putfield 81) 3 := (by decide +kernel : decode prog_14_method_101_code 2 = .ok (.putfield 81, 3))
theorem d_M_forge_5 : m_D k_M_forge 5 (.aload_n 0) 1 := (by decide +kernel : decode prog_14_method_101_code 5 = .ok (.aload_n 0, 1))
theorem d_M_forge_6 : m_D k_M_forge 6 (.iconst 0) 1 := (by decide +kernel : decode prog_14_method_101_code 6 = .ok (.iconst 0, 1))
theorem d_M_forge_7 : m_D k_M_forge 7 (.putfield 84) 3 := (by decide +kernel : decode prog_14_method_101_code 7 = .ok (.putfield 84, 3))
theorem d_M_forge_10 : m_D k_M_forge 10 (.aload_n 0) 1 := (by decide +kernel : decode prog_14_method_101_code 10 = .ok (.aload_n 0, 1))
theorem d_M_forge_11 : m_D k_M_forge 11 (.getfield 35) 3 := (by decide +kernel : decode prog_14_method_101_code 11 = .ok (.getfield 35, 3))
theorem d_M_forge_14 : m_D k_M_forge 14 (.iconst 1) 1 := (by decide +kernel : decode prog_14_method_101_code 14 = .ok (.iconst 1, 1))
theorem d_M_forge_15 : m_D k_M_forge 15 (.iaload) 1 := (by decide +kernel : decode prog_14_method_101_code 15 = .ok (.iaload, 1))
theorem d_M_forge_16 : m_D k_M_forge 16 (.istore_n 2) 1 := (by decide +kernel : decode prog_14_method_101_code 16 = .ok (.istore_n 2, 1))
theorem d_M_forge_17 : m_D k_M_forge 17 (.iload_n 1) 1 := (by decide +kernel : decode prog_14_method_101_code 17 = .ok (.iload_n 1, 1))
theorem d_M_forge_18 : m_D k_M_forge 18 (.i2l) 1 := (by decide +kernel : decode prog_14_method_101_code 18 = .ok (.i2l, 1))
theorem d_M_forge_19 : m_D k_M_forge 19 (.lconst 1) 1 := (by decide +kernel : decode prog_14_method_101_code 19 = .ok (.lconst 1, 1))
theorem d_M_forge_20 : m_D k_M_forge 20 (.ldc2_w 391) 3 := (by decide +kernel : decode prog_14_method_101_code 20 = .ok (.ldc2_w 391, 3))
theorem d_M_forge_23 : m_D k_M_forge 23 (.invokestatic 116) 3 := (by decide +kernel : decode prog_14_method_101_code 23 = .ok (.invokestatic 116, 3))
theorem d_M_forge_26 : m_D k_M_forge 26 (.ifCond .ne 9) 3 := (by decide +kernel : decode prog_14_method_101_code 26 = .ok (.ifCond .ne 9, 3))
theorem d_M_forge_29 : m_D k_M_forge 29 (.aload_n 0) 1 := (by decide +kernel : decode prog_14_method_101_code 29 = .ok (.aload_n 0, 1))
theorem d_M_forge_30 : m_D k_M_forge 30 (.iconst 5) 1 := (by decide +kernel : decode prog_14_method_101_code 30 = .ok (.iconst 5, 1))
theorem d_M_forge_31 : m_D k_M_forge 31 (.invokevirtual 331) 3 := (by decide +kernel : decode prog_14_method_101_code 31 = .ok (.invokevirtual 331, 3))
theorem d_M_forge_34 : m_D k_M_forge 34 (.ireturn) 1 := (by decide +kernel : decode prog_14_method_101_code 34 = .ok (.ireturn, 1))
theorem d_M_forge_35 : m_D k_M_forge 35 (.iload_n 2) 1 := (by decide +kernel : decode prog_14_method_101_code 35 = .ok (.iload_n 2, 1))
theorem d_M_forge_36 : m_D k_M_forge 36 (.bipush 8) 2 := (by decide +kernel : decode prog_14_method_101_code 36 = .ok (.bipush 8, 2))
theorem d_M_forge_38 : m_D k_M_forge 38 (.if_icmp .ne 10) 3 := (by decide +kernel : decode prog_14_method_101_code 38 = .ok (.if_icmp .ne 10, 3))
theorem d_M_forge_41 : m_D k_M_forge 41 (.aload_n 0) 1 := (by decide +kernel : decode prog_14_method_101_code 41 = .ok (.aload_n 0, 1))
theorem d_M_forge_42 : m_D k_M_forge 42 (.bipush 7) 2 := (by decide +kernel : decode prog_14_method_101_code 42 = .ok (.bipush 7, 2))
theorem d_M_forge_44 : m_D k_M_forge 44 (.invokevirtual 331) 3 := (by decide +kernel : decode prog_14_method_101_code 44 = .ok (.invokevirtual 331, 3))
theorem d_M_forge_47 : m_D k_M_forge 47 (.ireturn) 1 := (by decide +kernel : decode prog_14_method_101_code 47 = .ok (.ireturn, 1))
theorem d_M_forge_48 : m_D k_M_forge 48 (.aload_n 0) 1 := (by decide +kernel : decode prog_14_method_101_code 48 = .ok (.aload_n 0, 1))
theorem d_M_forge_49 : m_D k_M_forge 49 (.getfield 35) 3 := (by decide +kernel : decode prog_14_method_101_code 49 = .ok (.getfield 35, 3))
theorem d_M_forge_52 : m_D k_M_forge 52 (.bipush 25) 2 := (by decide +kernel : decode prog_14_method_101_code 52 = .ok (.bipush 25, 2))
theorem d_M_forge_54 : m_D k_M_forge 54 (.iload_n 2) 1 := (by decide +kernel : decode prog_14_method_101_code 54 = .ok (.iload_n 2, 1))
theorem d_M_forge_55 : m_D k_M_forge 55 (.iadd) 1 := (by decide +kernel : decode prog_14_method_101_code 55 = .ok (.iadd, 1))
theorem d_M_forge_56 : m_D k_M_forge 56 (.iload_n 1) 1 := (by decide +kernel : decode prog_14_method_101_code 56 = .ok (.iload_n 1, 1))
theorem d_M_forge_57 : m_D k_M_forge 57 (.iastore) 1 := (by decide +kernel : decode prog_14_method_101_code 57 = .ok (.iastore, 1))
theorem d_M_forge_58 : m_D k_M_forge 58 (.aload_n 0) 1 := (by decide +kernel : decode prog_14_method_101_code 58 = .ok (.aload_n 0, 1))
theorem d_M_forge_59 : m_D k_M_forge 59 (.getfield 35) 3 := (by decide +kernel : decode prog_14_method_101_code 59 = .ok (.getfield 35, 3))
theorem d_M_forge_62 : m_D k_M_forge 62 (.bipush 33) 2 := (by decide +kernel : decode prog_14_method_101_code 62 = .ok (.bipush 33, 2))
theorem d_M_forge_64 : m_D k_M_forge 64 (.iload_n 2) 1 := (by decide +kernel : decode prog_14_method_101_code 64 = .ok (.iload_n 2, 1))
theorem d_M_forge_65 : m_D k_M_forge 65 (.iadd) 1 := (by decide +kernel : decode prog_14_method_101_code 65 = .ok (.iadd, 1))
theorem d_M_forge_66 : m_D k_M_forge 66 (.iconst 0) 1 := (by decide +kernel : decode prog_14_method_101_code 66 = .ok (.iconst 0, 1))
theorem d_M_forge_67 : m_D k_M_forge 67 (.iastore) 1 := (by decide +kernel : decode prog_14_method_101_code 67 = .ok (.iastore, 1))
theorem d_M_forge_68 : m_D k_M_forge 68 (.aload_n 0) 1 := (by decide +kernel : decode prog_14_method_101_code 68 = .ok (.aload_n 0, 1))
theorem d_M_forge_69 : m_D k_M_forge 69 (.getfield 35) 3 := (by decide +kernel : decode prog_14_method_101_code 69 = .ok (.getfield 35, 3))
theorem d_M_forge_72 : m_D k_M_forge 72 (.bipush 41) 2 := (by decide +kernel : decode prog_14_method_101_code 72 = .ok (.bipush 41, 2))
theorem d_M_forge_74 : m_D k_M_forge 74 (.iload_n 2) 1 := (by decide +kernel : decode prog_14_method_101_code 74 = .ok (.iload_n 2, 1))
theorem d_M_forge_75 : m_D k_M_forge 75 (.iadd) 1 := (by decide +kernel : decode prog_14_method_101_code 75 = .ok (.iadd, 1))
theorem d_M_forge_76 : m_D k_M_forge 76 (.iconst 0) 1 := (by decide +kernel : decode prog_14_method_101_code 76 = .ok (.iconst 0, 1))
theorem d_M_forge_77 : m_D k_M_forge 77 (.iastore) 1 := (by decide +kernel : decode prog_14_method_101_code 77 = .ok (.iastore, 1))
theorem d_M_forge_78 : m_D k_M_forge 78 (.aload_n 0) 1 := (by decide +kernel : decode prog_14_method_101_code 78 = .ok (.aload_n 0, 1))
theorem d_M_forge_79 : m_D k_M_forge 79 (.getfield 35) 3 := (by decide +kernel : decode prog_14_method_101_code 79 = .ok (.getfield 35, 3))
theorem d_M_forge_82 : m_D k_M_forge 82 (.bipush 49) 2 := (by decide +kernel : decode prog_14_method_101_code 82 = .ok (.bipush 49, 2))
theorem d_M_forge_84 : m_D k_M_forge 84 (.iload_n 2) 1 := (by decide +kernel : decode prog_14_method_101_code 84 = .ok (.iload_n 2, 1))
theorem d_M_forge_85 : m_D k_M_forge 85 (.iadd) 1 := (by decide +kernel : decode prog_14_method_101_code 85 = .ok (.iadd, 1))
theorem d_M_forge_86 : m_D k_M_forge 86 (.iconst 0) 1 := (by decide +kernel : decode prog_14_method_101_code 86 = .ok (.iconst 0, 1))
theorem d_M_forge_87 : m_D k_M_forge 87 (.iastore) 1 := (by decide +kernel : decode prog_14_method_101_code 87 = .ok (.iastore, 1))
theorem d_M_forge_88 : m_D k_M_forge 88 (.iconst 0) 1 := (by decide +kernel : decode prog_14_method_101_code 88 = .ok (.iconst 0, 1))
theorem d_M_forge_89 : m_D k_M_forge 89 (.istore_n 3) 1 := (by decide +kernel : decode prog_14_method_101_code 89 = .ok (.istore_n 3, 1))
theorem d_M_forge_90 : m_D k_M_forge 90 (.iload_n 3) 1 := (by decide +kernel : decode prog_14_method_101_code 90 = .ok (.iload_n 3, 1))
theorem d_M_forge_91 : m_D k_M_forge 91 (.bipush 6) 2 := (by decide +kernel : decode prog_14_method_101_code 91 = .ok (.bipush 6, 2))
theorem d_M_forge_93 : m_D k_M_forge 93 (.if_icmp .ge 24) 3 := (by decide +kernel : decode prog_14_method_101_code 93 = .ok (.if_icmp .ge 24, 3))
theorem d_M_forge_96 : m_D k_M_forge 96 (.aload_n 0) 1 := (by decide +kernel : decode prog_14_method_101_code 96 = .ok (.aload_n 0, 1))
theorem d_M_forge_97 : m_D k_M_forge 97 (.getfield 35) 3 := (by decide +kernel : decode prog_14_method_101_code 97 = .ok (.getfield 35, 3))
theorem d_M_forge_100 : m_D k_M_forge 100 (.bipush 57) 2 := (by decide +kernel : decode prog_14_method_101_code 100 = .ok (.bipush 57, 2))
theorem d_M_forge_102 : m_D k_M_forge 102 (.bipush 8) 2 := (by decide +kernel : decode prog_14_method_101_code 102 = .ok (.bipush 8, 2))
theorem d_M_forge_104 : m_D k_M_forge 104 (.iload_n 3) 1 := (by decide +kernel : decode prog_14_method_101_code 104 = .ok (.iload_n 3, 1))
theorem d_M_forge_105 : m_D k_M_forge 105 (.imul) 1 := (by decide +kernel : decode prog_14_method_101_code 105 = .ok (.imul, 1))
theorem d_M_forge_106 : m_D k_M_forge 106 (.iadd) 1 := (by decide +kernel : decode prog_14_method_101_code 106 = .ok (.iadd, 1))
theorem d_M_forge_107 : m_D k_M_forge 107 (.iload_n 2) 1 := (by decide +kernel : decode prog_14_method_101_code 107 = .ok (.iload_n 2, 1))
theorem d_M_forge_108 : m_D k_M_forge 108 (.iadd) 1 := (by decide +kernel : decode prog_14_method_101_code 108 = .ok (.iadd, 1))
theorem d_M_forge_109 : m_D k_M_forge 109 (.iconst 0) 1 := (by decide +kernel : decode prog_14_method_101_code 109 = .ok (.iconst 0, 1))
theorem d_M_forge_110 : m_D k_M_forge 110 (.iastore) 1 := (by decide +kernel : decode prog_14_method_101_code 110 = .ok (.iastore, 1))
theorem d_M_forge_111 : m_D k_M_forge 111 (.iinc 3 1) 3 := (by decide +kernel : decode prog_14_method_101_code 111 = .ok (.iinc 3 1, 3))
theorem d_M_forge_114 : m_D k_M_forge 114 (.goto (-24)) 3 := (by decide +kernel : decode prog_14_method_101_code 114 = .ok (.goto (-24), 3))
theorem d_M_forge_117 : m_D k_M_forge 117 (.aload_n 0) 1 := (by decide +kernel : decode prog_14_method_101_code 117 = .ok (.aload_n 0, 1))
theorem d_M_forge_118 : m_D k_M_forge 118 (.getfield 44) 3 := (by decide +kernel : decode prog_14_method_101_code 118 = .ok (.getfield 44, 3))
theorem d_M_forge_121 : m_D k_M_forge 121 (.bipush 6) 2 := (by decide +kernel : decode prog_14_method_101_code 121 = .ok (.bipush 6, 2))
theorem d_M_forge_123 : m_D k_M_forge 123 (.iload_n 2) 1 := (by decide +kernel : decode prog_14_method_101_code 123 = .ok (.iload_n 2, 1))
theorem d_M_forge_124 : m_D k_M_forge 124 (.iadd) 1 := (by decide +kernel : decode prog_14_method_101_code 124 = .ok (.iadd, 1))
theorem d_M_forge_125 : m_D k_M_forge 125 (.lconst 0) 1 := (by decide +kernel : decode prog_14_method_101_code 125 = .ok (.lconst 0, 1))
theorem d_M_forge_126 : m_D k_M_forge 126 (.lastore) 1 := (by decide +kernel : decode prog_14_method_101_code 126 = .ok (.lastore, 1))
theorem d_M_forge_127 : m_D k_M_forge 127 (.aload_n 0) 1 := (by decide +kernel : decode prog_14_method_101_code 127 = .ok (.aload_n 0, 1))
theorem d_M_forge_128 : m_D k_M_forge 128 (.getfield 35) 3 := (by decide +kernel : decode prog_14_method_101_code 128 = .ok (.getfield 35, 3))
theorem d_M_forge_131 : m_D k_M_forge 131 (.iconst 1) 1 := (by decide +kernel : decode prog_14_method_101_code 131 = .ok (.iconst 1, 1))
theorem d_M_forge_132 : m_D k_M_forge 132 (.dup2) 1 := (by decide +kernel : decode prog_14_method_101_code 132 = .ok (.dup2, 1))
theorem d_M_forge_133 : m_D k_M_forge 133 (.iaload) 1 := (by decide +kernel : decode prog_14_method_101_code 133 = .ok (.iaload, 1))
theorem d_M_forge_134 : m_D k_M_forge 134 (.iconst 1) 1 := (by decide +kernel : decode prog_14_method_101_code 134 = .ok (.iconst 1, 1))
theorem d_M_forge_135 : m_D k_M_forge 135 (.iadd) 1 := (by decide +kernel : decode prog_14_method_101_code 135 = .ok (.iadd, 1))
theorem d_M_forge_136 : m_D k_M_forge 136 (.iastore) 1 := (by decide +kernel : decode prog_14_method_101_code 136 = .ok (.iastore, 1))
theorem d_M_forge_137 : m_D k_M_forge 137 (.iload_n 2) 1 := (by decide +kernel : decode prog_14_method_101_code 137 = .ok (.iload_n 2, 1))
theorem d_M_forge_138 : m_D k_M_forge 138 (.ireturn) 1 := (by decide +kernel : decode prog_14_method_101_code 138 = .ok (.ireturn, 1))
def fn_M_forge_l90 (x0 : Option mA) (v2 : Int32) (t8 : Int32) : mP ((Int32) ⊕ (Unit)) :=
  if 6 ≤ t8 then
    m_rt (.inr ())
  else
    m_bd (m_gR 11 20 x0) fun v9 =>
    m_bd (m_tI 0 v9 ((57 + (8 * t8)) + v2) 0) fun _ =>
    m_rt (.inl (t8 + 1))
def fn_M_forge (x0 : Option mA) (x1 : Int32) : mP Int32 :=
  m_th 11 x0 <|
  m_bd (m_pI 11 1 x0 0) fun _ =>
  m_bd (m_pI 11 0 x0 0) fun _ =>
  m_bd (m_gR 11 20 x0) fun v1 =>
  m_bd (m_aI 0 v1 1) fun v2 =>
  m_bd (fn_M_isIn (x1).toInt64 1 999) fun v3 =>
  if v3 = 0 then
    m_bd (fn_M_refuse x0 5) fun v15 =>
    m_rt v15
  else
    if v2 = 8 then
      m_bd (fn_M_refuse x0 7) fun v14 =>
      m_rt v14
    else
      m_bd (m_gR 11 20 x0) fun v4 =>
      m_bd (m_tI 0 v4 (25 + v2) x1) fun _ =>
      m_bd (m_gR 11 20 x0) fun v5 =>
      m_bd (m_tI 0 v5 (33 + v2) 0) fun _ =>
      m_bd (m_gR 11 20 x0) fun v6 =>
      m_bd (m_tI 0 v6 (41 + v2) 0) fun _ =>
      m_bd (m_gR 11 20 x0) fun v7 =>
      m_bd (m_tI 0 v7 (49 + v2) 0) fun _ =>
      m_bd (m_lp (fn_M_forge_l90 x0 v2) m_F 0) fun (t10 : Unit) =>
      m_bd (m_gR 11 23 x0) fun v11 =>
      m_bd (m_tJ v11 (6 + v2) 0) fun _ =>
      m_bd (m_gR 11 20 x0) fun v12 =>
      m_bd (m_aI 0 v12 1) fun v13 =>
      m_bd (m_tI 0 v12 1 (v13 + 1)) fun _ =>
      m_rt v2
set_option maxHeartbeats 4000000 in
set_option maxRecDepth 100000 in
theorem sd_M_forge (x0 : Option mA) (x1 : Int32) : m_Sm k_M_forge 2 0 0 [.inr (.inr x0), .inl x1] (fn_M_forge x0 x1) (fun b => some (.inl b)) := by
  refine ⟨Nat.le_of_ble_eq_true rfl, ?_⟩
  refine sm_th ?_
  refine sm_aload_n (i := 0) (j := 0) (pc' := 1) d_M_forge_0 rfl rfl rfl (sm_iconst (pc' := 2) d_M_forge_1 rfl ic_0 (sm_putI (pc' := 5) d_M_forge_2 rfl fl_M_81 (Or.inl rfl) rfl (sm_aload_n (i := 0) (j := 0) (pc' := 6) d_M_forge_5 rfl rfl rfl (sm_iconst (pc' := 7) d_M_forge_6 rfl ic_0 (sm_putI (pc' := 10) d_M_forge_7 rfl fl_M_84 (Or.inl rfl) rfl (sm_aload_n (i := 0) (j := 0) (pc' := 11) d_M_forge_10 rfl rfl rfl ?_))))))
  refine sm_getR (pc' := 14) d_M_forge_11 rfl fl_M_35 rfl rfl (fun v1 => ?_)
  refine sm_iconst (pc' := 15) d_M_forge_14 rfl ic_1 ?_
  refine sm_iald (pc' := 16) d_M_forge_15 rfl (fun v2 => ?_)
  refine sm_istore_n (i := 2) (L' := [(2, .inl v2), (0, .inr (.inr x0)), (1, .inl x1)]) (pc' := 17) d_M_forge_16 rfl rfl (Nat.le_of_ble_eq_true rfl) rfl (sm_iload_n (i := 1) (j := 2) (pc' := 18) d_M_forge_17 rfl rfl rfl (sm_i2l (pc' := 19) d_M_forge_18 rfl (sm_lconst (pc' := 20) (v := 1) d_M_forge_19 rfl rfl (sm_ldc2 (v := 999) (pc' := 23) d_M_forge_20 rfl w_cl_M_391 ?_))))
  refine sm_callSi (av := [.inr (.inl (x1).toInt64), .inr (.inl 1), .inr (.inl 999)]) (st := []) (mc := 0) (ms := 0) (pc' := 26) d_M_forge_23 rfl (sd_M_isIn (x1).toInt64 1 999) cs_M_isIn w_ml_M_116 rfl rfl (by decide) (Nat.le_of_ble_eq_true rfl) rfl rfl (fun v3 => ?_)
  refine sm_if_ne (tgt := 35) (pc' := 29) d_M_forge_26 rfl rfl ?_ ?_
  · refine sm_iload_n (i := 2) (j := 0) (pc' := 36) d_M_forge_35 rfl rfl rfl (sm_bipush (pc' := 38) d_M_forge_36 rfl ib_8 ?_)
    refine sm_icmp_ne (tgt := 48) (pc' := 41) d_M_forge_38 rfl rfl ?_ ?_
    · refine sm_aload_n (i := 0) (j := 1) (pc' := 49) d_M_forge_48 rfl rfl rfl ?_
      refine sm_getR (pc' := 52) d_M_forge_49 rfl fl_M_35 rfl rfl (fun v4 => ?_)
      refine sm_bipush (pc' := 54) d_M_forge_52 rfl ib_25 (sm_iload_n (i := 2) (j := 0) (pc' := 55) d_M_forge_54 rfl rfl rfl (sm_iadd (pc' := 56) d_M_forge_55 rfl (sm_iload_n (i := 1) (j := 2) (pc' := 57) d_M_forge_56 rfl rfl rfl (sm_iast (pc' := 58) d_M_forge_57 rfl (sm_aload_n (i := 0) (j := 1) (pc' := 59) d_M_forge_58 rfl rfl rfl ?_)))))
      refine sm_getR (pc' := 62) d_M_forge_59 rfl fl_M_35 rfl rfl (fun v5 => ?_)
      refine sm_bipush (pc' := 64) d_M_forge_62 rfl ib_33 (sm_iload_n (i := 2) (j := 0) (pc' := 65) d_M_forge_64 rfl rfl rfl (sm_iadd (pc' := 66) d_M_forge_65 rfl (sm_iconst (pc' := 67) d_M_forge_66 rfl ic_0 (sm_iast (pc' := 68) d_M_forge_67 rfl (sm_aload_n (i := 0) (j := 1) (pc' := 69) d_M_forge_68 rfl rfl rfl ?_)))))
      refine sm_getR (pc' := 72) d_M_forge_69 rfl fl_M_35 rfl rfl (fun v6 => ?_)
      refine sm_bipush (pc' := 74) d_M_forge_72 rfl ib_41 (sm_iload_n (i := 2) (j := 0) (pc' := 75) d_M_forge_74 rfl rfl rfl (sm_iadd (pc' := 76) d_M_forge_75 rfl (sm_iconst (pc' := 77) d_M_forge_76 rfl ic_0 (sm_iast (pc' := 78) d_M_forge_77 rfl (sm_aload_n (i := 0) (j := 1) (pc' := 79) d_M_forge_78 rfl rfl rfl ?_)))))
      refine sm_getR (pc' := 82) d_M_forge_79 rfl fl_M_35 rfl rfl (fun v7 => ?_)
      refine sm_bipush (pc' := 84) d_M_forge_82 rfl ib_49 (sm_iload_n (i := 2) (j := 0) (pc' := 85) d_M_forge_84 rfl rfl rfl (sm_iadd (pc' := 86) d_M_forge_85 rfl (sm_iconst (pc' := 87) d_M_forge_86 rfl ic_0 (sm_iast (pc' := 88) d_M_forge_87 rfl (sm_iconst (pc' := 89) d_M_forge_88 rfl ic_0 (sm_istore_n (i := 3) (L' := [(3, .inl 0), (2, .inl v2), (0, .inr (.inr x0)), (1, .inl x1)]) (pc' := 90) d_M_forge_89 rfl rfl (Nat.le_of_ble_eq_true rfl) rfl ?_))))))
      refine sm_sub [0, 2, 1] rfl ?_
      refine sm_bd (mid := fun (t10 : Unit) => .inl (117, [(0, .inr (.inr x0)), (2, .inl v2)], [])) (sm_lp (hd := fun (t8 : Int32) => (.inl (90, [(3, .inl t8), (0, .inr (.inr x0)), (2, .inl v2)], []) : mC)) (fun t8 => ?_) m_F 0) (fun t10 => ?_)
      · refine sm_iload_n (i := 3) (j := 0) (pc' := 91) d_M_forge_90 rfl rfl rfl (sm_bipush (pc' := 93) d_M_forge_91 rfl ib_6 ?_)
        refine sm_icmp_ge (tgt := 117) (pc' := 96) d_M_forge_93 rfl rfl ?_ ?_
        · refine sm_sub [1, 2] rfl ?_
          exact sm_rt rfl
        · refine sm_aload_n (i := 0) (j := 1) (pc' := 97) d_M_forge_96 rfl rfl rfl ?_
          refine sm_getR (pc' := 100) d_M_forge_97 rfl fl_M_35 rfl rfl (fun v9 => ?_)
          refine sm_bipush (pc' := 102) d_M_forge_100 rfl ib_57 (sm_bipush (pc' := 104) d_M_forge_102 rfl ib_8 (sm_iload_n (i := 3) (j := 0) (pc' := 105) d_M_forge_104 rfl rfl rfl (sm_imul (pc' := 106) d_M_forge_105 rfl (sm_iadd (pc' := 107) d_M_forge_106 rfl (sm_iload_n (i := 2) (j := 2) (pc' := 108) d_M_forge_107 rfl rfl rfl (sm_iadd (pc' := 109) d_M_forge_108 rfl (sm_iconst (pc' := 110) d_M_forge_109 rfl ic_0 (sm_iast (pc' := 111) d_M_forge_110 rfl (sm_iinc (j := 0) (L' := [(3, .inl (t8 + 1)), (0, .inr (.inr x0)), (2, .inl v2)]) (pc' := 114) d_M_forge_111 rfl (v := (t8 + 1)) rfl (ix_1 _) (Nat.le_of_ble_eq_true rfl) rfl ?_)))))))))
          refine sm_goto (tgt := 90) d_M_forge_114 rfl (sm_sub [0, 1, 2] rfl ?_)
          exact sm_rt rfl
      · refine sm_aload_n (i := 0) (j := 0) (pc' := 118) d_M_forge_117 rfl rfl rfl ?_
        refine sm_getR (pc' := 121) d_M_forge_118 rfl fl_M_44 rfl rfl (fun v11 => ?_)
        refine sm_bipush (pc' := 123) d_M_forge_121 rfl ib_6 (sm_iload_n (i := 2) (j := 1) (pc' := 124) d_M_forge_123 rfl rfl rfl (sm_iadd (pc' := 125) d_M_forge_124 rfl (sm_lconst (pc' := 126) (v := 0) d_M_forge_125 rfl rfl (sm_last (pc' := 127) d_M_forge_126 rfl (sm_aload_n (i := 0) (j := 0) (pc' := 128) d_M_forge_127 rfl rfl rfl ?_)))))
        refine sm_getR (pc' := 131) d_M_forge_128 rfl fl_M_35 rfl rfl (fun v12 => ?_)
        refine sm_iconst (pc' := 132) d_M_forge_131 rfl ic_1 (sm_dup2 (pc' := 133) d_M_forge_132 rfl rfl rfl ?_)
        refine sm_iald (pc' := 134) d_M_forge_133 rfl (fun v13 => ?_)
        refine sm_iconst (pc' := 135) d_M_forge_134 rfl ic_1 (sm_iadd (pc' := 136) d_M_forge_135 rfl (sm_iast (pc' := 137) d_M_forge_136 rfl (sm_iload_n (i := 2) (j := 1) (pc' := 138) d_M_forge_137 rfl rfl rfl ?_)))
        exact sm_ireturn d_M_forge_138 rfl rfl
    · refine sm_aload_n (i := 0) (j := 1) (pc' := 42) d_M_forge_41 rfl rfl rfl (sm_bipush (pc' := 44) d_M_forge_42 rfl ib_7 ?_)
      refine sm_callVi (ci := 11) (x := x0) (av := [.inl 7]) (st := []) (mc := 0) (ms := 0) (pc' := 47) d_M_forge_44 rfl (sd_M_refuse x0 7) m_lv rfl cv_M_refuse w_ml_M_331 rfl rfl (by decide) (Nat.le_of_ble_eq_true rfl) rfl rfl (fun v14 => ?_)
      exact sm_ireturn d_M_forge_47 rfl rfl
  · refine sm_aload_n (i := 0) (j := 1) (pc' := 30) d_M_forge_29 rfl rfl rfl (sm_iconst (pc' := 31) d_M_forge_30 rfl ic_5 ?_)
    refine sm_callVi (ci := 11) (x := x0) (av := [.inl 5]) (st := []) (mc := 0) (ms := 0) (pc' := 34) d_M_forge_31 rfl (sd_M_refuse x0 5) m_lv rfl cv_M_refuse w_ml_M_331 rfl rfl (by decide) (Nat.le_of_ble_eq_true rfl) rfl rfl (fun v15 => ?_)
    exact sm_ireturn d_M_forge_34 rfl rfl
theorem d_M_born_0 : m_D k_M_born 0 (.aload_n 0) 1 := (by decide +kernel : decode prog_14_method_102_code 0 = .ok (.aload_n 0, 1))
theorem d_M_born_1 : m_D k_M_born 1 (.iconst 0) 1 := (by decide +kernel : decode prog_14_method_102_code 1 = .ok (.iconst 0, 1))
theorem d_M_born_2 : m_D k_M_born 2 (.putfield 81) 3 := (by decide +kernel : decode prog_14_method_102_code 2 = .ok (.putfield 81, 3))
theorem d_M_born_5 : m_D k_M_born 5 (.aload_n 0) 1 := (by decide +kernel : decode prog_14_method_102_code 5 = .ok (.aload_n 0, 1))
theorem d_M_born_6 : m_D k_M_born 6 (.iconst 0) 1 := (by decide +kernel : decode prog_14_method_102_code 6 = .ok (.iconst 0, 1))
theorem d_M_born_7 : m_D k_M_born 7 (.putfield 84) 3 := (by decide +kernel : decode prog_14_method_102_code 7 = .ok (.putfield 84, 3))
theorem d_M_born_10 : m_D k_M_born 10 (.aload_n 0) 1 := (by decide +kernel : decode prog_14_method_102_code 10 = .ok (.aload_n 0, 1))
theorem d_M_born_11 : m_D k_M_born 11 (.getfield 35) 3 := (by decide +kernel : decode prog_14_method_102_code 11 = .ok (.getfield 35, 3))
theorem d_M_born_14 : m_D k_M_born 14 (.iconst 0) 1 := (by decide +kernel : decode prog_14_method_102_code 14 = .ok (.iconst 0, 1))
theorem d_M_born_15 : m_D k_M_born 15 (.iaload) 1 := (by decide +kernel : decode prog_14_method_102_code 15 = .ok (.iaload, 1))
theorem d_M_born_16 : m_D k_M_born 16 (.istore_n 3) 1 := (by decide +kernel : decode prog_14_method_102_code 16 = .ok (.istore_n 3, 1))
theorem d_M_born_17 : m_D k_M_born 17 (.iload_n 1) 1 := (by decide +kernel : decode prog_14_method_102_code 17 = .ok (.iload_n 1, 1))
theorem d_M_born_18 : m_D k_M_born 18 (.i2l) 1 := (by decide +kernel : decode prog_14_method_102_code 18 = .ok (.i2l, 1))
theorem d_M_born_19 : m_D k_M_born 19 (.lconst 0) 1 := (by decide +kernel : decode prog_14_method_102_code 19 = .ok (.lconst 0, 1))
theorem d_M_born_20 : m_D k_M_born 20 (.ldc2_w 402) 3 := (by decide +kernel : decode prog_14_method_102_code 20 = .ok (.ldc2_w 402, 3))
theorem d_M_born_23 : m_D k_M_born 23 (.invokestatic 116) 3 := (by decide +kernel : decode prog_14_method_102_code 23 = .ok (.invokestatic 116, 3))
theorem d_M_born_26 : m_D k_M_born 26 (.ifCond .ne 9) 3 := (by decide +kernel : decode prog_14_method_102_code 26 = .ok (.ifCond .ne 9, 3))
theorem d_M_born_29 : m_D k_M_born 29 (.aload_n 0) 1 := (by decide +kernel : decode prog_14_method_102_code 29 = .ok (.aload_n 0, 1))
theorem d_M_born_30 : m_D k_M_born 30 (.iconst 5) 1 := (by decide +kernel : decode prog_14_method_102_code 30 = .ok (.iconst 5, 1))
theorem d_M_born_31 : m_D k_M_born 31 (.invokevirtual 331) 3 := (by decide +kernel : decode prog_14_method_102_code 31 = .ok (.invokevirtual 331, 3))
theorem d_M_born_34 : m_D k_M_born 34 (.ireturn) 1 := (by decide +kernel : decode prog_14_method_102_code 34 = .ok (.ireturn, 1))
theorem d_M_born_35 : m_D k_M_born 35 (.iload_n 3) 1 := (by decide +kernel : decode prog_14_method_102_code 35 = .ok (.iload_n 3, 1))
theorem d_M_born_36 : m_D k_M_born 36 (.bipush 6) 2 := (by decide +kernel : decode prog_14_method_102_code 36 = .ok (.bipush 6, 2))
theorem d_M_born_38 : m_D k_M_born 38 (.if_icmp .ne 10) 3 := (by decide +kernel : decode prog_14_method_102_code 38 = .ok (.if_icmp .ne 10, 3))
theorem d_M_born_41 : m_D k_M_born 41 (.aload_n 0) 1 := (by decide +kernel : decode prog_14_method_102_code 41 = .ok (.aload_n 0, 1))
theorem d_M_born_42 : m_D k_M_born 42 (.bipush 7) 2 := (by decide +kernel : decode prog_14_method_102_code 42 = .ok (.bipush 7, 2))
theorem d_M_born_44 : m_D k_M_born 44 (.invokevirtual 331) 3 := (by decide +kernel : decode prog_14_method_102_code 44 = .ok (.invokevirtual 331, 3))
theorem d_M_born_47 : m_D k_M_born 47 (.ireturn) 1 := (by decide +kernel : decode prog_14_method_102_code 47 = .ok (.ireturn, 1))
theorem d_M_born_48 : m_D k_M_born 48 (.aload_n 0) 1 := (by decide +kernel : decode prog_14_method_102_code 48 = .ok (.aload_n 0, 1))
theorem d_M_born_49 : m_D k_M_born 49 (.getfield 35) 3 := (by decide +kernel : decode prog_14_method_102_code 49 = .ok (.getfield 35, 3))
theorem d_M_born_52 : m_D k_M_born 52 (.bipush 7) 2 := (by decide +kernel : decode prog_14_method_102_code 52 = .ok (.bipush 7, 2))
theorem d_M_born_54 : m_D k_M_born 54 (.iload_n 3) 1 := (by decide +kernel : decode prog_14_method_102_code 54 = .ok (.iload_n 3, 1))
theorem d_M_born_55 : m_D k_M_born 55 (.iadd) 1 := (by decide +kernel : decode prog_14_method_102_code 55 = .ok (.iadd, 1))
theorem d_M_born_56 : m_D k_M_born 56 (.iload_n 1) 1 := (by decide +kernel : decode prog_14_method_102_code 56 = .ok (.iload_n 1, 1))
theorem d_M_born_57 : m_D k_M_born 57 (.iastore) 1 := (by decide +kernel : decode prog_14_method_102_code 57 = .ok (.iastore, 1))
theorem d_M_born_58 : m_D k_M_born 58 (.aload_n 0) 1 := (by decide +kernel : decode prog_14_method_102_code 58 = .ok (.aload_n 0, 1))
theorem d_M_born_59 : m_D k_M_born 59 (.getfield 35) 3 := (by decide +kernel : decode prog_14_method_102_code 59 = .ok (.getfield 35, 3))
theorem d_M_born_62 : m_D k_M_born 62 (.bipush 13) 2 := (by decide +kernel : decode prog_14_method_102_code 62 = .ok (.bipush 13, 2))
theorem d_M_born_64 : m_D k_M_born 64 (.iload_n 3) 1 := (by decide +kernel : decode prog_14_method_102_code 64 = .ok (.iload_n 3, 1))
theorem d_M_born_65 : m_D k_M_born 65 (.iadd) 1 := (by decide +kernel : decode prog_14_method_102_code 65 = .ok (.iadd, 1))
theorem d_M_born_66 : m_D k_M_born 66 (.iload_n 2) 1 := (by decide +kernel : decode prog_14_method_102_code 66 = .ok (.iload_n 2, 1))
theorem d_M_born_67 : m_D k_M_born 67 (.ifCond .eq 7) 3 := (by decide +kernel : decode prog_14_method_102_code 67 = .ok (.ifCond .eq 7, 3))
theorem d_M_born_70 : m_D k_M_born 70 (.iconst 1) 1 := (by decide +kernel : decode prog_14_method_102_code 70 = .ok (.iconst 1, 1))
theorem d_M_born_71 : m_D k_M_born 71 (.goto 4) 3 := (by decide +kernel : decode prog_14_method_102_code 71 = .ok (.goto 4, 3))
theorem d_M_born_74 : m_D k_M_born 74 (.iconst 0) 1 := (by decide +kernel : decode prog_14_method_102_code 74 = .ok (.iconst 0, 1))
theorem d_M_born_75 : m_D k_M_born 75 (.iastore) 1 := (by decide +kernel : decode prog_14_method_102_code 75 = .ok (.iastore, 1))
theorem d_M_born_76 : m_D k_M_born 76 (.aload_n 0) 1 := (by decide +kernel : decode prog_14_method_102_code 76 = .ok (.aload_n 0, 1))
theorem d_M_born_77 : m_D k_M_born 77 (.getfield 35) 3 := (by decide +kernel : decode prog_14_method_102_code 77 = .ok (.getfield 35, 3))
theorem d_M_born_80 : m_D k_M_born 80 (.bipush 19) 2 := (by decide +kernel : decode prog_14_method_102_code 80 = .ok (.bipush 19, 2))
theorem d_M_born_82 : m_D k_M_born 82 (.iload_n 3) 1 := (by decide +kernel : decode prog_14_method_102_code 82 = .ok (.iload_n 3, 1))
theorem d_M_born_83 : m_D k_M_born 83 (.iadd) 1 := (by decide +kernel : decode prog_14_method_102_code 83 = .ok (.iadd, 1))
theorem d_M_born_84 : m_D k_M_born 84 (.iconst 1) 1 := (by decide +kernel : decode prog_14_method_102_code 84 = .ok (.iconst 1, 1))
theorem d_M_born_85 : m_D k_M_born 85 (.iastore) 1 := (by decide +kernel : decode prog_14_method_102_code 85 = .ok (.iastore, 1))
theorem d_M_born_86 : m_D k_M_born 86 (.iconst 0) 1 := (by decide +kernel : decode prog_14_method_102_code 86 = .ok (.iconst 0, 1))
theorem d_M_born_87 : m_D k_M_born 87 (.istore 4) 2 := (by decide +kernel : decode prog_14_method_102_code 87 = .ok (.istore 4, 2))
theorem d_M_born_89 : m_D k_M_born 89 (.iload 4) 2 := (by decide +kernel : decode prog_14_method_102_code 89 = .ok (.iload 4, 2))
theorem d_M_born_91 : m_D k_M_born 91 (.bipush 8) 2 := (by decide +kernel : decode prog_14_method_102_code 91 = .ok (.bipush 8, 2))
theorem d_M_born_93 : m_D k_M_born 93 (.if_icmp .ge 25) 3 := (by decide +kernel : decode prog_14_method_102_code 93 = .ok (.if_icmp .ge 25, 3))
theorem d_M_born_96 : m_D k_M_born 96 (.aload_n 0) 1 := (by decide +kernel : decode prog_14_method_102_code 96 = .ok (.aload_n 0, 1))
theorem d_M_born_97 : m_D k_M_born 97 (.getfield 35) 3 := (by decide +kernel : decode prog_14_method_102_code 97 = .ok (.getfield 35, 3))
theorem d_M_born_100 : m_D k_M_born 100 (.bipush 57) 2 := (by decide +kernel : decode prog_14_method_102_code 100 = .ok (.bipush 57, 2))
theorem d_M_born_102 : m_D k_M_born 102 (.bipush 8) 2 := (by decide +kernel : decode prog_14_method_102_code 102 = .ok (.bipush 8, 2))
theorem d_M_born_104 : m_D k_M_born 104 (.iload_n 3) 1 := (by decide +kernel : decode prog_14_method_102_code 104 = .ok (.iload_n 3, 1))
theorem d_M_born_105 : m_D k_M_born 105 (.imul) 1 := (by decide +kernel : decode prog_14_method_102_code 105 = .ok (.imul, 1))
theorem d_M_born_106 : m_D k_M_born 106 (.iadd) 1 := (by decide +kernel : decode prog_14_method_102_code 106 = .ok (.iadd, 1))
theorem d_M_born_107 : m_D k_M_born 107 (.iload 4) 2 := (by decide +kernel : decode prog_14_method_102_code 107 = .ok (.iload 4, 2))
theorem d_M_born_109 : m_D k_M_born 109 (.iadd) 1 := (by decide +kernel : decode prog_14_method_102_code 109 = .ok (.iadd, 1))
theorem d_M_born_110 : m_D k_M_born 110 (.iconst 0) 1 := (by decide +kernel : decode prog_14_method_102_code 110 = .ok (.iconst 0, 1))
theorem d_M_born_111 : m_D k_M_born 111 (.iastore) 1 := (by decide +kernel : decode prog_14_method_102_code 111 = .ok (.iastore, 1))
theorem d_M_born_112 : m_D k_M_born 112 (.iinc 4 1) 3 := (by decide +kernel : decode prog_14_method_102_code 112 = .ok (.iinc 4 1, 3))
theorem d_M_born_115 : m_D k_M_born 115 (.goto (-26)) 3 := (by decide +kernel : decode prog_14_method_102_code 115 = .ok (.goto (-26), 3))
theorem d_M_born_118 : m_D k_M_born 118 (.aload_n 0) 1 := (by decide +kernel : decode prog_14_method_102_code 118 = .ok (.aload_n 0, 1))
theorem d_M_born_119 : m_D k_M_born 119 (.getfield 44) 3 := (by decide +kernel : decode prog_14_method_102_code 119 = .ok (.getfield 44, 3))
theorem d_M_born_122 : m_D k_M_born 122 (.iload_n 3) 1 := (by decide +kernel : decode prog_14_method_102_code 122 = .ok (.iload_n 3, 1))
theorem d_M_born_123 : m_D k_M_born 123 (.lconst 0) 1 := (by decide +kernel : decode prog_14_method_102_code 123 = .ok (.lconst 0, 1))
theorem d_M_born_124 : m_D k_M_born 124 (.lastore) 1 := (by decide +kernel : decode prog_14_method_102_code 124 = .ok (.lastore, 1))
theorem d_M_born_125 : m_D k_M_born 125 (.aload_n 0) 1 := (by decide +kernel : decode prog_14_method_102_code 125 = .ok (.aload_n 0, 1))
theorem d_M_born_126 : m_D k_M_born 126 (.getfield 35) 3 := (by decide +kernel : decode prog_14_method_102_code 126 = .ok (.getfield 35, 3))
theorem d_M_born_129 : m_D k_M_born 129 (.iconst 0) 1 := (by decide +kernel : decode prog_14_method_102_code 129 = .ok (.iconst 0, 1))
theorem d_M_born_130 : m_D k_M_born 130 (.dup2) 1 := (by decide +kernel : decode prog_14_method_102_code 130 = .ok (.dup2, 1))
theorem d_M_born_131 : m_D k_M_born 131 (.iaload) 1 := (by decide +kernel : decode prog_14_method_102_code 131 = .ok (.iaload, 1))
theorem d_M_born_132 : m_D k_M_born 132 (.iconst 1) 1 := (by decide +kernel : decode prog_14_method_102_code 132 = .ok (.iconst 1, 1))
theorem d_M_born_133 : m_D k_M_born 133 (.iadd) 1 := (by decide +kernel : decode prog_14_method_102_code 133 = .ok (.iadd, 1))
theorem d_M_born_134 : m_D k_M_born 134 (.iastore) 1 := (by decide +kernel : decode prog_14_method_102_code 134 = .ok (.iastore, 1))
theorem d_M_born_135 : m_D k_M_born 135 (.iload_n 3) 1 := (by decide +kernel : decode prog_14_method_102_code 135 = .ok (.iload_n 3, 1))
theorem d_M_born_136 : m_D k_M_born 136 (.ireturn) 1 := (by decide +kernel : decode prog_14_method_102_code 136 = .ok (.ireturn, 1))
def fn_M_born_l89 (x0 : Option mA) (v2 : Int32) (t8 : Int32) : mP ((Int32) ⊕ (Unit)) :=
  if 8 ≤ t8 then
    m_rt (.inr ())
  else
    m_bd (m_gR 11 20 x0) fun v9 =>
    m_bd (m_tI 0 v9 ((57 + (8 * v2)) + t8) 0) fun _ =>
    m_rt (.inl (t8 + 1))
def fn_M_born (x0 : Option mA) (x1 : Int32) (x2 : Int32) : mP Int32 :=
  m_th 11 x0 <|
  m_bd (m_pI 11 1 x0 0) fun _ =>
  m_bd (m_pI 11 0 x0 0) fun _ =>
  m_bd (m_gR 11 20 x0) fun v1 =>
  m_bd (m_aI 0 v1 0) fun v2 =>
  m_bd (fn_M_isIn (x1).toInt64 0 119) fun v3 =>
  if v3 = 0 then
    m_bd (fn_M_refuse x0 5) fun v15 =>
    m_rt v15
  else
    if v2 = 6 then
      m_bd (fn_M_refuse x0 7) fun v14 =>
      m_rt v14
    else
      m_bd (m_gR 11 20 x0) fun v4 =>
      m_bd (m_tI 0 v4 (7 + v2) x1) fun _ =>
      m_bd (m_gR 11 20 x0) fun v5 =>
      m_bd (α := Int32) (
        if x2 = 0 then
          m_rt 0
        else
          m_rt 1
        ) fun (t6 : Int32) =>
      m_bd (m_tI 0 v5 (13 + v2) t6) fun _ =>
      m_bd (m_gR 11 20 x0) fun v7 =>
      m_bd (m_tI 0 v7 (19 + v2) 1) fun _ =>
      m_bd (m_lp (fn_M_born_l89 x0 v2) m_F 0) fun (t10 : Unit) =>
      m_bd (m_gR 11 23 x0) fun v11 =>
      m_bd (m_tJ v11 v2 0) fun _ =>
      m_bd (m_gR 11 20 x0) fun v12 =>
      m_bd (m_aI 0 v12 0) fun v13 =>
      m_bd (m_tI 0 v12 0 (v13 + 1)) fun _ =>
      m_rt v2
set_option maxHeartbeats 4000000 in
set_option maxRecDepth 100000 in
theorem sd_M_born (x0 : Option mA) (x1 : Int32) (x2 : Int32) : m_Sm k_M_born 2 0 0 [.inr (.inr x0), .inl x1, .inl x2] (fn_M_born x0 x1 x2) (fun b => some (.inl b)) := by
  refine ⟨Nat.le_of_ble_eq_true rfl, ?_⟩
  refine sm_th ?_
  refine sm_aload_n (i := 0) (j := 0) (pc' := 1) d_M_born_0 rfl rfl rfl (sm_iconst (pc' := 2) d_M_born_1 rfl ic_0 (sm_putI (pc' := 5) d_M_born_2 rfl fl_M_81 (Or.inl rfl) rfl (sm_aload_n (i := 0) (j := 0) (pc' := 6) d_M_born_5 rfl rfl rfl (sm_iconst (pc' := 7) d_M_born_6 rfl ic_0 (sm_putI (pc' := 10) d_M_born_7 rfl fl_M_84 (Or.inl rfl) rfl (sm_aload_n (i := 0) (j := 0) (pc' := 11) d_M_born_10 rfl rfl rfl ?_))))))
  refine sm_getR (pc' := 14) d_M_born_11 rfl fl_M_35 rfl rfl (fun v1 => ?_)
  refine sm_iconst (pc' := 15) d_M_born_14 rfl ic_0 ?_
  refine sm_iald (pc' := 16) d_M_born_15 rfl (fun v2 => ?_)
  refine sm_istore_n (i := 3) (L' := [(3, .inl v2), (0, .inr (.inr x0)), (1, .inl x1), (2, .inl x2)]) (pc' := 17) d_M_born_16 rfl rfl (Nat.le_of_ble_eq_true rfl) rfl (sm_iload_n (i := 1) (j := 2) (pc' := 18) d_M_born_17 rfl rfl rfl (sm_i2l (pc' := 19) d_M_born_18 rfl (sm_lconst (pc' := 20) (v := 0) d_M_born_19 rfl rfl (sm_ldc2 (v := 119) (pc' := 23) d_M_born_20 rfl w_cl_M_402 ?_))))
  refine sm_callSi (av := [.inr (.inl (x1).toInt64), .inr (.inl 0), .inr (.inl 119)]) (st := []) (mc := 0) (ms := 0) (pc' := 26) d_M_born_23 rfl (sd_M_isIn (x1).toInt64 0 119) cs_M_isIn w_ml_M_116 rfl rfl (by decide) (Nat.le_of_ble_eq_true rfl) rfl rfl (fun v3 => ?_)
  refine sm_if_ne (tgt := 35) (pc' := 29) d_M_born_26 rfl rfl ?_ ?_
  · refine sm_iload_n (i := 3) (j := 0) (pc' := 36) d_M_born_35 rfl rfl rfl (sm_bipush (pc' := 38) d_M_born_36 rfl ib_6 ?_)
    refine sm_icmp_ne (tgt := 48) (pc' := 41) d_M_born_38 rfl rfl ?_ ?_
    · refine sm_aload_n (i := 0) (j := 1) (pc' := 49) d_M_born_48 rfl rfl rfl ?_
      refine sm_getR (pc' := 52) d_M_born_49 rfl fl_M_35 rfl rfl (fun v4 => ?_)
      refine sm_bipush (pc' := 54) d_M_born_52 rfl ib_7 (sm_iload_n (i := 3) (j := 0) (pc' := 55) d_M_born_54 rfl rfl rfl (sm_iadd (pc' := 56) d_M_born_55 rfl (sm_iload_n (i := 1) (j := 2) (pc' := 57) d_M_born_56 rfl rfl rfl (sm_iast (pc' := 58) d_M_born_57 rfl (sm_aload_n (i := 0) (j := 1) (pc' := 59) d_M_born_58 rfl rfl rfl ?_)))))
      refine sm_getR (pc' := 62) d_M_born_59 rfl fl_M_35 rfl rfl (fun v5 => ?_)
      refine sm_bipush (pc' := 64) d_M_born_62 rfl ib_13 (sm_iload_n (i := 3) (j := 0) (pc' := 65) d_M_born_64 rfl rfl rfl (sm_iadd (pc' := 66) d_M_born_65 rfl (sm_iload_n (i := 2) (j := 3) (pc' := 67) d_M_born_66 rfl rfl rfl ?_)))
      refine sm_bd (mid := fun (t6 : Int32) => .inl (75, [(0, .inr (.inr x0)), (3, .inl v2)], [.inl t6, .inl (13 + v2), .inr (.inr v5)])) ?_ (fun t6 => ?_)
      · refine sm_if_eq (tgt := 74) (pc' := 70) d_M_born_67 rfl rfl ?_ ?_
        · refine sm_iconst (pc' := 75) d_M_born_74 rfl ic_0 (sm_sub [1, 0] rfl ?_)
          exact sm_rt rfl
        · refine sm_iconst (pc' := 71) d_M_born_70 rfl ic_1 (sm_goto (tgt := 75) d_M_born_71 rfl (sm_sub [1, 0] rfl ?_))
          exact sm_rt rfl
      · refine sm_iast (pc' := 76) d_M_born_75 rfl (sm_aload_n (i := 0) (j := 0) (pc' := 77) d_M_born_76 rfl rfl rfl ?_)
        refine sm_getR (pc' := 80) d_M_born_77 rfl fl_M_35 rfl rfl (fun v7 => ?_)
        refine sm_bipush (pc' := 82) d_M_born_80 rfl ib_19 (sm_iload_n (i := 3) (j := 1) (pc' := 83) d_M_born_82 rfl rfl rfl (sm_iadd (pc' := 84) d_M_born_83 rfl (sm_iconst (pc' := 85) d_M_born_84 rfl ic_1 (sm_iast (pc' := 86) d_M_born_85 rfl (sm_iconst (pc' := 87) d_M_born_86 rfl ic_0 (sm_istore (L' := [(4, .inl 0), (0, .inr (.inr x0)), (3, .inl v2)]) (pc' := 89) d_M_born_87 rfl (Nat.le_of_ble_eq_true rfl) rfl ?_))))))
        refine sm_sub [0, 1, 2] rfl ?_
        refine sm_bd (mid := fun (t10 : Unit) => .inl (118, [(0, .inr (.inr x0)), (3, .inl v2)], [])) (sm_lp (hd := fun (t8 : Int32) => (.inl (89, [(4, .inl t8), (0, .inr (.inr x0)), (3, .inl v2)], []) : mC)) (fun t8 => ?_) m_F 0) (fun t10 => ?_)
        · refine sm_iload (j := 0) (pc' := 91) d_M_born_89 rfl rfl (sm_bipush (pc' := 93) d_M_born_91 rfl ib_8 ?_)
          refine sm_icmp_ge (tgt := 118) (pc' := 96) d_M_born_93 rfl rfl ?_ ?_
          · refine sm_sub [1, 2] rfl ?_
            exact sm_rt rfl
          · refine sm_aload_n (i := 0) (j := 1) (pc' := 97) d_M_born_96 rfl rfl rfl ?_
            refine sm_getR (pc' := 100) d_M_born_97 rfl fl_M_35 rfl rfl (fun v9 => ?_)
            refine sm_bipush (pc' := 102) d_M_born_100 rfl ib_57 (sm_bipush (pc' := 104) d_M_born_102 rfl ib_8 (sm_iload_n (i := 3) (j := 2) (pc' := 105) d_M_born_104 rfl rfl rfl (sm_imul (pc' := 106) d_M_born_105 rfl (sm_iadd (pc' := 107) d_M_born_106 rfl (sm_iload (j := 0) (pc' := 109) d_M_born_107 rfl rfl (sm_iadd (pc' := 110) d_M_born_109 rfl (sm_iconst (pc' := 111) d_M_born_110 rfl ic_0 (sm_iast (pc' := 112) d_M_born_111 rfl (sm_iinc (j := 0) (L' := [(4, .inl (t8 + 1)), (0, .inr (.inr x0)), (3, .inl v2)]) (pc' := 115) d_M_born_112 rfl (v := (t8 + 1)) rfl (ix_1 _) (Nat.le_of_ble_eq_true rfl) rfl ?_)))))))))
            refine sm_goto (tgt := 89) d_M_born_115 rfl (sm_sub [0, 1, 2] rfl ?_)
            exact sm_rt rfl
        · refine sm_aload_n (i := 0) (j := 0) (pc' := 119) d_M_born_118 rfl rfl rfl ?_
          refine sm_getR (pc' := 122) d_M_born_119 rfl fl_M_44 rfl rfl (fun v11 => ?_)
          refine sm_iload_n (i := 3) (j := 1) (pc' := 123) d_M_born_122 rfl rfl rfl (sm_lconst (pc' := 124) (v := 0) d_M_born_123 rfl rfl (sm_last (pc' := 125) d_M_born_124 rfl (sm_aload_n (i := 0) (j := 0) (pc' := 126) d_M_born_125 rfl rfl rfl ?_)))
          refine sm_getR (pc' := 129) d_M_born_126 rfl fl_M_35 rfl rfl (fun v12 => ?_)
          refine sm_iconst (pc' := 130) d_M_born_129 rfl ic_0 (sm_dup2 (pc' := 131) d_M_born_130 rfl rfl rfl ?_)
          refine sm_iald (pc' := 132) d_M_born_131 rfl (fun v13 => ?_)
          refine sm_iconst (pc' := 133) d_M_born_132 rfl ic_1 (sm_iadd (pc' := 134) d_M_born_133 rfl (sm_iast (pc' := 135) d_M_born_134 rfl (sm_iload_n (i := 3) (j := 1) (pc' := 136) d_M_born_135 rfl rfl rfl ?_)))
          exact sm_ireturn d_M_born_136 rfl rfl
    · refine sm_aload_n (i := 0) (j := 1) (pc' := 42) d_M_born_41 rfl rfl rfl (sm_bipush (pc' := 44) d_M_born_42 rfl ib_7 ?_)
      refine sm_callVi (ci := 11) (x := x0) (av := [.inl 7]) (st := []) (mc := 0) (ms := 0) (pc' := 47) d_M_born_44 rfl (sd_M_refuse x0 7) m_lv rfl cv_M_refuse w_ml_M_331 rfl rfl (by decide) (Nat.le_of_ble_eq_true rfl) rfl rfl (fun v14 => ?_)
      exact sm_ireturn d_M_born_47 rfl rfl
  · refine sm_aload_n (i := 0) (j := 1) (pc' := 30) d_M_born_29 rfl rfl rfl (sm_iconst (pc' := 31) d_M_born_30 rfl ic_5 ?_)
    refine sm_callVi (ci := 11) (x := x0) (av := [.inl 5]) (st := []) (mc := 0) (ms := 0) (pc' := 34) d_M_born_31 rfl (sd_M_refuse x0 5) m_lv rfl cv_M_refuse w_ml_M_331 rfl rfl (by decide) (Nat.le_of_ble_eq_true rfl) rfl rfl (fun v15 => ?_)
    exact sm_ireturn d_M_born_34 rfl rfl
theorem d_M_rule_0 : m_D k_M_rule 0 (.aload_n 0) 1 := (by decide +kernel : decode prog_14_method_103_code 0 = .ok (.aload_n 0, 1))
theorem d_M_rule_1 : m_D k_M_rule 1 (.iconst 0) 1 := (by decide +kernel : decode prog_14_method_103_code 1 = .ok (.iconst 0, 1))
theorem d_M_rule_2 : m_D k_M_rule 2 (.putfield 81) 3 := (by decide +kernel : decode prog_14_method_103_code 2 = .ok (.putfield 81, 3))
theorem d_M_rule_5 : m_D k_M_rule 5 (.aload_n 0) 1 := (by decide +kernel : decode prog_14_method_103_code 5 = .ok (.aload_n 0, 1))
theorem d_M_rule_6 : m_D k_M_rule 6 (.iconst 0) 1 := (by decide +kernel : decode prog_14_method_103_code 6 = .ok (.iconst 0, 1))
theorem d_M_rule_7 : m_D k_M_rule 7 (.putfield 84) 3 := (by decide +kernel : decode prog_14_method_103_code 7 = .ok (.putfield 84, 3))
theorem d_M_rule_10 : m_D k_M_rule 10 (.iload_n 1) 1 := (by decide +kernel : decode prog_14_method_103_code 10 = .ok (.iload_n 1, 1))
theorem d_M_rule_11 : m_D k_M_rule 11 (.i2l) 1 := (by decide +kernel : decode prog_14_method_103_code 11 = .ok (.i2l, 1))
theorem d_M_rule_12 : m_D k_M_rule 12 (.ldc2_w 404) 3 := (by decide +kernel : decode prog_14_method_103_code 12 = .ok (.ldc2_w 404, 3))
theorem d_M_rule_15 : m_D k_M_rule 15 (.ldc2_w 406) 3 := (by decide +kernel : decode prog_14_method_103_code 15 = .ok (.ldc2_w 406, 3))
theorem d_M_rule_18 : m_D k_M_rule 18 (.invokestatic 116) 3 := (by decide +kernel : decode prog_14_method_103_code 18 = .ok (.invokestatic 116, 3))
theorem d_M_rule_21 : m_D k_M_rule 21 (.ifCond .eq 46) 3 := (by decide +kernel : decode prog_14_method_103_code 21 = .ok (.ifCond .eq 46, 3))
theorem d_M_rule_24 : m_D k_M_rule 24 (.iload_n 2) 1 := (by decide +kernel : decode prog_14_method_103_code 24 = .ok (.iload_n 2, 1))
theorem d_M_rule_25 : m_D k_M_rule 25 (.i2l) 1 := (by decide +kernel : decode prog_14_method_103_code 25 = .ok (.i2l, 1))
theorem d_M_rule_26 : m_D k_M_rule 26 (.iload_n 1) 1 := (by decide +kernel : decode prog_14_method_103_code 26 = .ok (.iload_n 1, 1))
theorem d_M_rule_27 : m_D k_M_rule 27 (.iconst 3) 1 := (by decide +kernel : decode prog_14_method_103_code 27 = .ok (.iconst 3, 1))
theorem d_M_rule_28 : m_D k_M_rule 28 (.if_icmp .ne 7) 3 := (by decide +kernel : decode prog_14_method_103_code 28 = .ok (.if_icmp .ne 7, 3))
theorem d_M_rule_31 : m_D k_M_rule 31 (.lconst 1) 1 := (by decide +kernel : decode prog_14_method_103_code 31 = .ok (.lconst 1, 1))
theorem d_M_rule_32 : m_D k_M_rule 32 (.goto 4) 3 := (by decide +kernel : decode prog_14_method_103_code 32 = .ok (.goto 4, 3))
theorem d_M_rule_35 : m_D k_M_rule 35 (.lconst 0) 1 := (by decide +kernel : decode prog_14_method_103_code 35 = .ok (.lconst 0, 1))
theorem d_M_rule_36 : m_D k_M_rule 36 (.iload_n 1) 1 := (by decide +kernel : decode prog_14_method_103_code 36 = .ok (.iload_n 1, 1))
theorem d_M_rule_37 : m_D k_M_rule 37 (.iconst 3) 1 := (by decide +kernel : decode prog_14_method_103_code 37 = .ok (.iconst 3, 1))
theorem d_M_rule_38 : m_D k_M_rule 38 (.if_icmp .ne 9) 3 := (by decide +kernel : decode prog_14_method_103_code 38 = .ok (.if_icmp .ne 9, 3))
theorem d_M_rule_41 : m_D k_M_rule 41 (.ldc2_w 408) 3 := (by decide +kernel : decode prog_14_method_103_code 41 = .ok (.ldc2_w 408, 3))
theorem d_M_rule_44 : m_D k_M_rule 44 (.goto 17) 3 := (by decide +kernel : decode prog_14_method_103_code 44 = .ok (.goto 17, 3))
theorem d_M_rule_47 : m_D k_M_rule 47 (.iload_n 1) 1 := (by decide +kernel : decode prog_14_method_103_code 47 = .ok (.iload_n 1, 1))
theorem d_M_rule_48 : m_D k_M_rule 48 (.iconst 4) 1 := (by decide +kernel : decode prog_14_method_103_code 48 = .ok (.iconst 4, 1))
theorem d_M_rule_49 : m_D k_M_rule 49 (.if_icmp .ne 9) 3 := (by decide +kernel : decode prog_14_method_103_code 49 = .ok (.if_icmp .ne 9, 3))
theorem d_M_rule_52 : m_D k_M_rule 52 (.ldc2_w 389) 3 := (by decide +kernel : decode prog_14_method_103_code 52 = .ok (.ldc2_w 389, 3))
theorem d_M_rule_55 : m_D k_M_rule 55 (.goto 6) 3 := (by decide +kernel : decode prog_14_method_103_code 55 = .ok (.goto 6, 3))
theorem d_M_rule_58 : m_D k_M_rule 58 (.ldc2_w 384) 3 := (by decide +kernel : decode prog_14_method_103_code 58 = .ok (.ldc2_w 384, 3))
theorem d_M_rule_61 : m_D k_M_rule 61 (.invokestatic 116) 3 := (by decide +kernel : decode prog_14_method_103_code 61 = .ok (.invokestatic 116, 3))
theorem d_M_rule_64 : m_D k_M_rule 64 (.ifCond .ne 9) 3 := (by decide +kernel : decode prog_14_method_103_code 64 = .ok (.ifCond .ne 9, 3))
theorem d_M_rule_67 : m_D k_M_rule 67 (.aload_n 0) 1 := (by decide +kernel : decode prog_14_method_103_code 67 = .ok (.aload_n 0, 1))
theorem d_M_rule_68 : m_D k_M_rule 68 (.iconst 5) 1 := (by decide +kernel : decode prog_14_method_103_code 68 = .ok (.iconst 5, 1))
theorem d_M_rule_69 : m_D k_M_rule 69 (.invokevirtual 96) 3 := (by decide +kernel : decode prog_14_method_103_code 69 = .ok (.invokevirtual 96, 3))
theorem d_M_rule_72 : m_D k_M_rule 72 (.ireturn) 1 := (by decide +kernel : decode prog_14_method_103_code 72 = .ok (.ireturn, 1))
theorem d_M_rule_73 : m_D k_M_rule 73 (.aload_n 0) 1 := (by decide +kernel : decode prog_14_method_103_code 73 = .ok (.aload_n 0, 1))
theorem d_M_rule_74 : m_D k_M_rule 74 (.getfield 35) 3 := (by decide +kernel : decode prog_14_method_103_code 74 = .ok (.getfield 35, 3))
theorem d_M_rule_77 : m_D k_M_rule 77 (.iload_n 1) 1 := (by decide +kernel : decode prog_14_method_103_code 77 = .ok (.iload_n 1, 1))
theorem d_M_rule_78 : m_D k_M_rule 78 (.iload_n 2) 1 := (by decide +kernel : decode prog_14_method_103_code 78 = .ok (.iload_n 2, 1))
theorem d_M_rule_79 : m_D k_M_rule 79 (.iastore) 1 := (by decide +kernel : decode prog_14_method_103_code 79 = .ok (.iastore, 1))
theorem d_M_rule_80 : m_D k_M_rule 80 (.iconst 1) 1 := (by decide +kernel : decode prog_14_method_103_code 80 = .ok (.iconst 1, 1))
theorem d_M_rule_81 : m_D k_M_rule 81 (.ireturn) 1 := (by decide +kernel : decode prog_14_method_103_code 81 = .ok (.ireturn, 1))
def fn_M_rule (x0 : Option mA) (x1 : Int32) (x2 : Int32) : mP Int32 :=
  m_th 11 x0 <|
  m_bd (m_pI 11 1 x0 0) fun _ =>
  m_bd (m_pI 11 0 x0 0) fun _ =>
  m_bd (fn_M_isIn (x1).toInt64 2 5) fun v1 =>
  if v1 = 0 then
    m_bd (fn_M_no x0 5) fun v2 =>
    m_bd (m_cz v2) fun _ => m_rt v2
  else
    m_bd (α := Int64) (
      if x1 = 3 then
        m_rt 1
      else
        m_rt 0
      ) fun (t3 : Int64) =>
    m_bd (α := Int64) (
      if x1 = 3 then
        m_rt 120
      else
        if x1 = 4 then
          m_rt 9
        else
          m_rt 99
      ) fun (t4 : Int64) =>
    m_bd (fn_M_isIn (x2).toInt64 t3 t4) fun v5 =>
    if v5 = 0 then
      m_bd (fn_M_no x0 5) fun v7 =>
      m_bd (m_cz v7) fun _ => m_rt v7
    else
      m_bd (m_gR 11 20 x0) fun v6 =>
      m_bd (m_tI 0 v6 x1 x2) fun _ =>
      m_rt 1
set_option maxHeartbeats 4000000 in
set_option maxRecDepth 100000 in
theorem sd_M_rule (x0 : Option mA) (x1 : Int32) (x2 : Int32) : m_Sm k_M_rule 2 0 0 [.inr (.inr x0), .inl x1, .inl x2] (fn_M_rule x0 x1 x2) (fun b => some (.inl b)) := by
  refine ⟨Nat.le_of_ble_eq_true rfl, ?_⟩
  refine sm_th ?_
  refine sm_aload_n (i := 0) (j := 0) (pc' := 1) d_M_rule_0 rfl rfl rfl (sm_iconst (pc' := 2) d_M_rule_1 rfl ic_0 (sm_putI (pc' := 5) d_M_rule_2 rfl fl_M_81 (Or.inl rfl) rfl (sm_aload_n (i := 0) (j := 0) (pc' := 6) d_M_rule_5 rfl rfl rfl (sm_iconst (pc' := 7) d_M_rule_6 rfl ic_0 (sm_putI (pc' := 10) d_M_rule_7 rfl fl_M_84 (Or.inl rfl) rfl (sm_iload_n (i := 1) (j := 1) (pc' := 11) d_M_rule_10 rfl rfl rfl (sm_i2l (pc' := 12) d_M_rule_11 rfl (sm_ldc2 (v := 2) (pc' := 15) d_M_rule_12 rfl w_cl_M_404 (sm_ldc2 (v := 5) (pc' := 18) d_M_rule_15 rfl w_cl_M_406 ?_)))))))))
  refine sm_callSi (av := [.inr (.inl (x1).toInt64), .inr (.inl 2), .inr (.inl 5)]) (st := []) (mc := 0) (ms := 0) (pc' := 21) d_M_rule_18 rfl (sd_M_isIn (x1).toInt64 2 5) cs_M_isIn w_ml_M_116 rfl rfl (by decide) (Nat.le_of_ble_eq_true rfl) rfl rfl (fun v1 => ?_)
  refine sm_if_eq (tgt := 67) (pc' := 24) d_M_rule_21 rfl rfl ?_ ?_
  · refine sm_aload_n (i := 0) (j := 0) (pc' := 68) d_M_rule_67 rfl rfl rfl (sm_iconst (pc' := 69) d_M_rule_68 rfl ic_5 ?_)
    refine sm_callVi (ci := 11) (x := x0) (av := [.inl 5]) (st := []) (mc := 0) (ms := 0) (pc' := 72) d_M_rule_69 rfl (sd_M_no x0 5) m_lv rfl cv_M_no w_ml_M_96 rfl rfl (by decide) (Nat.le_of_ble_eq_true rfl) rfl rfl (fun v2 => ?_)
    exact sm_zretC d_M_rule_72 rfl rfl
  · refine sm_iload_n (i := 2) (j := 2) (pc' := 25) d_M_rule_24 rfl rfl rfl (sm_i2l (pc' := 26) d_M_rule_25 rfl (sm_iload_n (i := 1) (j := 1) (pc' := 27) d_M_rule_26 rfl rfl rfl (sm_iconst (pc' := 28) d_M_rule_27 rfl ic_3 ?_)))
    refine sm_bd (mid := fun (t3 : Int64) => .inl (36, [(0, .inr (.inr x0)), (1, .inl x1), (2, .inl x2)], [.inr (.inl t3), .inr (.inl (x2).toInt64)])) ?_ (fun t3 => ?_)
    · refine sm_icmp_ne (tgt := 35) (pc' := 31) d_M_rule_28 rfl rfl ?_ ?_
      · refine sm_lconst (pc' := 36) (v := 0) d_M_rule_35 rfl rfl (sm_sub [0, 1, 2] rfl ?_)
        exact sm_rt rfl
      · refine sm_lconst (pc' := 32) (v := 1) d_M_rule_31 rfl rfl (sm_goto (tgt := 36) d_M_rule_32 rfl (sm_sub [0, 1, 2] rfl ?_))
        exact sm_rt rfl
    · refine sm_iload_n (i := 1) (j := 1) (pc' := 37) d_M_rule_36 rfl rfl rfl (sm_iconst (pc' := 38) d_M_rule_37 rfl ic_3 ?_)
      refine sm_bd (mid := fun (t4 : Int64) => .inl (61, [(0, .inr (.inr x0)), (1, .inl x1), (2, .inl x2)], [.inr (.inl t4), .inr (.inl t3), .inr (.inl (x2).toInt64)])) ?_ (fun t4 => ?_)
      · refine sm_icmp_ne (tgt := 47) (pc' := 41) d_M_rule_38 rfl rfl ?_ ?_
        · refine sm_iload_n (i := 1) (j := 1) (pc' := 48) d_M_rule_47 rfl rfl rfl (sm_iconst (pc' := 49) d_M_rule_48 rfl ic_4 ?_)
          refine sm_icmp_ne (tgt := 58) (pc' := 52) d_M_rule_49 rfl rfl ?_ ?_
          · refine sm_ldc2 (v := 99) (pc' := 61) d_M_rule_58 rfl w_cl_M_384 (sm_sub [0, 1, 2] rfl ?_)
            exact sm_rt rfl
          · refine sm_ldc2 (v := 9) (pc' := 55) d_M_rule_52 rfl w_cl_M_389 (sm_goto (tgt := 61) d_M_rule_55 rfl (sm_sub [0, 1, 2] rfl ?_))
            exact sm_rt rfl
        · refine sm_ldc2 (v := 120) (pc' := 44) d_M_rule_41 rfl w_cl_M_408 (sm_goto (tgt := 61) d_M_rule_44 rfl (sm_sub [0, 1, 2] rfl ?_))
          exact sm_rt rfl
      · refine sm_callSi (av := [.inr (.inl (x2).toInt64), .inr (.inl t3), .inr (.inl t4)]) (st := []) (mc := 0) (ms := 0) (pc' := 64) d_M_rule_61 rfl (sd_M_isIn (x2).toInt64 t3 t4) cs_M_isIn w_ml_M_116 rfl rfl (by decide) (Nat.le_of_ble_eq_true rfl) rfl rfl (fun v5 => ?_)
        refine sm_if_ne (tgt := 73) (pc' := 67) d_M_rule_64 rfl rfl ?_ ?_
        · refine sm_aload_n (i := 0) (j := 0) (pc' := 74) d_M_rule_73 rfl rfl rfl ?_
          refine sm_getR (pc' := 77) d_M_rule_74 rfl fl_M_35 rfl rfl (fun v6 => ?_)
          refine sm_iload_n (i := 1) (j := 1) (pc' := 78) d_M_rule_77 rfl rfl rfl (sm_iload_n (i := 2) (j := 2) (pc' := 79) d_M_rule_78 rfl rfl rfl (sm_iast (pc' := 80) d_M_rule_79 rfl (sm_iconst (pc' := 81) d_M_rule_80 rfl ic_1 ?_)))
          exact sm_zreturn d_M_rule_81 rfl (by decide) rfl
        · refine sm_aload_n (i := 0) (j := 0) (pc' := 68) d_M_rule_67 rfl rfl rfl (sm_iconst (pc' := 69) d_M_rule_68 rfl ic_5 ?_)
          refine sm_callVi (ci := 11) (x := x0) (av := [.inl 5]) (st := []) (mc := 0) (ms := 0) (pc' := 72) d_M_rule_69 rfl (sd_M_no x0 5) m_lv rfl cv_M_no w_ml_M_96 rfl rfl (by decide) (Nat.le_of_ble_eq_true rfl) rfl rfl (fun v7 => ?_)
          exact sm_zretC d_M_rule_72 rfl rfl
theorem d_M_gives_0 : m_D k_M_gives 0 (.iconst 0) 1 := (by decide +kernel : decode prog_14_method_105_code 0 = .ok (.iconst 0, 1))
theorem d_M_gives_1 : m_D k_M_gives 1 (.istore_n 1) 1 := (by decide +kernel : decode prog_14_method_105_code 1 = .ok (.istore_n 1, 1))
theorem d_M_gives_2 : m_D k_M_gives 2 (.iload_n 1) 1 := (by decide +kernel : decode prog_14_method_105_code 2 = .ok (.iload_n 1, 1))
theorem d_M_gives_3 : m_D k_M_gives 3 (.bipush 105) 2 := (by decide +kernel : decode prog_14_method_105_code 3 = .ok (.bipush 105, 2))
theorem d_M_gives_5 : m_D k_M_gives 5 (.if_icmp .ge 21) 3 := (by decide +kernel : decode prog_14_method_105_code 5 = .ok (.if_icmp .ge 21, 3))
theorem d_M_gives_8 : m_D k_M_gives 8 (.aload_n 0) 1 := (by decide +kernel : decode prog_14_method_105_code 8 = .ok (.aload_n 0, 1))
theorem d_M_gives_9 : m_D k_M_gives 9 (.getfield 35) 3 := (by decide +kernel : decode prog_14_method_105_code 9 = .ok (.getfield 35, 3))
theorem d_M_gives_12 : m_D k_M_gives 12 (.iload_n 1) 1 := (by decide +kernel : decode prog_14_method_105_code 12 = .ok (.iload_n 1, 1))
theorem d_M_gives_13 : m_D k_M_gives 13 (.aload_n 0) 1 := (by decide +kernel : decode prog_14_method_105_code 13 = .ok (.aload_n 0, 1))
theorem d_M_gives_14 : m_D k_M_gives 14 (.getfield 38) 3 := (by decide +kernel : decode prog_14_method_105_code 14 = .ok (.getfield 38, 3))
theorem d_M_gives_17 : m_D k_M_gives 17 (.iload_n 1) 1 := (by decide +kernel : decode prog_14_method_105_code 17 = .ok (.iload_n 1, 1))
theorem d_M_gives_18 : m_D k_M_gives 18 (.iaload) 1 := (by decide +kernel : decode prog_14_method_105_code 18 = .ok (.iaload, 1))
theorem d_M_gives_19 : m_D k_M_gives 19 (.iastore) 1 := (by decide +kernel : decode prog_14_method_105_code 19 = .ok (.iastore, 1))
theorem d_M_gives_20 : m_D k_M_gives 20 (.iinc 1 1) 3 := (by decide +kernel : decode prog_14_method_105_code 20 = .ok (.iinc 1 1, 3))
theorem d_M_gives_23 : m_D k_M_gives 23 (.goto (-21)) 3 := (by decide +kernel : decode prog_14_method_105_code 23 = .ok (.goto (-21), 3))
theorem d_M_gives_26 : m_D k_M_gives 26 (.return_) 1 := (by decide +kernel : decode prog_14_method_105_code 26 = .ok (.return_, 1))
def fn_M_gives_l2 (x0 : Option mA) (t1 : Int32) : mP ((Int32) ⊕ (Unit)) :=
  if 105 ≤ t1 then
    m_rt (.inr ())
  else
    m_bd (m_gR 11 20 x0) fun v2 =>
    m_bd (m_gR 11 21 x0) fun v3 =>
    m_bd (m_aI 0 v3 t1) fun v4 =>
    m_bd (m_tI 0 v2 t1 v4) fun _ =>
    m_rt (.inl (t1 + 1))
def fn_M_gives (x0 : Option mA) : mP Unit :=
  m_th 11 x0 <|
  m_bd (m_lp (fn_M_gives_l2 x0) m_F 0) fun (t5 : Unit) =>
  m_rt ()
set_option maxHeartbeats 4000000 in
set_option maxRecDepth 100000 in
theorem sd_M_gives (x0 : Option mA) : m_Sm k_M_gives 1 0 0 [.inr (.inr x0)] (fn_M_gives x0) (fun _ => none) := by
  refine ⟨Nat.le_of_ble_eq_true rfl, ?_⟩
  refine sm_th ?_
  refine sm_iconst (pc' := 1) d_M_gives_0 rfl ic_0 (sm_istore_n (i := 1) (L' := [(1, .inl 0), (0, .inr (.inr x0))]) (pc' := 2) d_M_gives_1 rfl rfl (Nat.le_of_ble_eq_true rfl) rfl ?_)
  refine sm_sub [0, 1] rfl ?_
  refine sm_bd (mid := fun (t5 : Unit) => .inl (26, [], [])) (sm_lp (hd := fun (t1 : Int32) => (.inl (2, [(1, .inl t1), (0, .inr (.inr x0))], []) : mC)) (fun t1 => ?_) m_F 0) (fun t5 => ?_)
  · refine sm_iload_n (i := 1) (j := 0) (pc' := 3) d_M_gives_2 rfl rfl rfl (sm_bipush (pc' := 5) d_M_gives_3 rfl ib_105 ?_)
    refine sm_icmp_ge (tgt := 26) (pc' := 8) d_M_gives_5 rfl rfl ?_ ?_
    · refine sm_sub [] rfl ?_
      exact sm_rt rfl
    · refine sm_aload_n (i := 0) (j := 1) (pc' := 9) d_M_gives_8 rfl rfl rfl ?_
      refine sm_getR (pc' := 12) d_M_gives_9 rfl fl_M_35 rfl rfl (fun v2 => ?_)
      refine sm_iload_n (i := 1) (j := 0) (pc' := 13) d_M_gives_12 rfl rfl rfl (sm_aload_n (i := 0) (j := 1) (pc' := 14) d_M_gives_13 rfl rfl rfl ?_)
      refine sm_getR (pc' := 17) d_M_gives_14 rfl fl_M_38 rfl rfl (fun v3 => ?_)
      refine sm_iload_n (i := 1) (j := 0) (pc' := 18) d_M_gives_17 rfl rfl rfl ?_
      refine sm_iald (pc' := 19) d_M_gives_18 rfl (fun v4 => ?_)
      refine sm_iast (pc' := 20) d_M_gives_19 rfl (sm_iinc (j := 0) (L' := [(1, .inl (t1 + 1)), (0, .inr (.inr x0))]) (pc' := 23) d_M_gives_20 rfl (v := (t1 + 1)) rfl (ix_1 _) (Nat.le_of_ble_eq_true rfl) rfl (sm_goto (tgt := 2) d_M_gives_23 rfl (sm_sub [0, 1] rfl ?_)))
      exact sm_rt rfl
  · exact sm_return d_M_gives_26 rfl rfl
theorem d_M_isAhead_0 : m_D k_M_isAhead 0 (.iload_n 0) 1 := (by decide +kernel : decode prog_14_method_106_code 0 = .ok (.iload_n 0, 1))
theorem d_M_isAhead_1 : m_D k_M_isAhead 1 (.i2l) 1 := (by decide +kernel : decode prog_14_method_106_code 1 = .ok (.i2l, 1))
theorem d_M_isAhead_2 : m_D k_M_isAhead 2 (.lconst 0) 1 := (by decide +kernel : decode prog_14_method_106_code 2 = .ok (.lconst 0, 1))
theorem d_M_isAhead_3 : m_D k_M_isAhead 3 (.ldc2_w 410) 3 := (by decide +kernel : decode prog_14_method_106_code 3 = .ok (.ldc2_w 410, 3))
theorem d_M_isAhead_6 : m_D k_M_isAhead 6 (.invokestatic 116) 3 := (by decide +kernel : decode prog_14_method_106_code 6 = .ok (.invokestatic 116, 3))
theorem d_M_isAhead_9 : m_D k_M_isAhead 9 (.ireturn) 1 := (by decide +kernel : decode prog_14_method_106_code 9 = .ok (.ireturn, 1))
def fn_M_isAhead (x0 : Int32) : mP Int32 :=
  m_bd (fn_M_isIn (x0).toInt64 0 200) fun v1 =>
  m_bd (m_cz v1) fun _ => m_rt v1
set_option maxHeartbeats 4000000 in
set_option maxRecDepth 100000 in
theorem sd_M_isAhead (x0 : Int32) : m_Sm k_M_isAhead 2 0 0 [.inl x0] (fn_M_isAhead x0) (fun b => some (.inl b)) := by
  refine ⟨Nat.le_of_ble_eq_true rfl, ?_⟩
  refine sm_iload_n (i := 0) (j := 0) (pc' := 1) d_M_isAhead_0 rfl rfl rfl (sm_i2l (pc' := 2) d_M_isAhead_1 rfl (sm_lconst (pc' := 3) (v := 0) d_M_isAhead_2 rfl rfl (sm_ldc2 (v := 200) (pc' := 6) d_M_isAhead_3 rfl w_cl_M_410 ?_)))
  refine sm_callSi (av := [.inr (.inl (x0).toInt64), .inr (.inl 0), .inr (.inl 200)]) (st := []) (mc := 0) (ms := 0) (pc' := 9) d_M_isAhead_6 rfl (sd_M_isIn (x0).toInt64 0 200) cs_M_isIn w_ml_M_116 rfl rfl (by decide) (Nat.le_of_ble_eq_true rfl) rfl rfl (fun v1 => ?_)
  exact sm_zretC d_M_isAhead_9 rfl rfl
theorem d_M_puts_0 : m_D k_M_puts 0 (.iconst 0) 1 := (by decide +kernel : decode prog_14_method_104_code 0 = .ok (.iconst 0, 1))
theorem d_M_puts_1 : m_D k_M_puts 1 (.istore_n 1) 1 := (by decide +kernel : decode prog_14_method_104_code 1 = .ok (.istore_n 1, 1))
theorem d_M_puts_2 : m_D k_M_puts 2 (.iload_n 1) 1 := (by decide +kernel : decode prog_14_method_104_code 2 = .ok (.iload_n 1, 1))
theorem d_M_puts_3 : m_D k_M_puts 3 (.bipush 105) 2 := (by decide +kernel : decode prog_14_method_104_code 3 = .ok (.bipush 105, 2))
theorem d_M_puts_5 : m_D k_M_puts 5 (.if_icmp .ge 21) 3 := (by decide +kernel : decode prog_14_method_104_code 5 = .ok (.if_icmp .ge 21, 3))
theorem d_M_puts_8 : m_D k_M_puts 8 (.aload_n 0) 1 := (by decide +kernel : decode prog_14_method_104_code 8 = .ok (.aload_n 0, 1))
theorem d_M_puts_9 : m_D k_M_puts 9 (.getfield 38) 3 := (by decide +kernel : decode prog_14_method_104_code 9 = .ok (.getfield 38, 3))
theorem d_M_puts_12 : m_D k_M_puts 12 (.iload_n 1) 1 := (by decide +kernel : decode prog_14_method_104_code 12 = .ok (.iload_n 1, 1))
theorem d_M_puts_13 : m_D k_M_puts 13 (.aload_n 0) 1 := (by decide +kernel : decode prog_14_method_104_code 13 = .ok (.aload_n 0, 1))
theorem d_M_puts_14 : m_D k_M_puts 14 (.getfield 35) 3 := (by decide +kernel : decode prog_14_method_104_code 14 = .ok (.getfield 35, 3))
theorem d_M_puts_17 : m_D k_M_puts 17 (.iload_n 1) 1 := (by decide +kernel : decode prog_14_method_104_code 17 = .ok (.iload_n 1, 1))
theorem d_M_puts_18 : m_D k_M_puts 18 (.iaload) 1 := (by decide +kernel : decode prog_14_method_104_code 18 = .ok (.iaload, 1))
theorem d_M_puts_19 : m_D k_M_puts 19 (.iastore) 1 := (by decide +kernel : decode prog_14_method_104_code 19 = .ok (.iastore, 1))
theorem d_M_puts_20 : m_D k_M_puts 20 (.iinc 1 1) 3 := (by decide +kernel : decode prog_14_method_104_code 20 = .ok (.iinc 1 1, 3))
theorem d_M_puts_23 : m_D k_M_puts 23 (.goto (-21)) 3 := (by decide +kernel : decode prog_14_method_104_code 23 = .ok (.goto (-21), 3))
theorem d_M_puts_26 : m_D k_M_puts 26 (.return_) 1 := (by decide +kernel : decode prog_14_method_104_code 26 = .ok (.return_, 1))
def fn_M_puts_l2 (x0 : Option mA) (t1 : Int32) : mP ((Int32) ⊕ (Unit)) :=
  if 105 ≤ t1 then
    m_rt (.inr ())
  else
    m_bd (m_gR 11 21 x0) fun v2 =>
    m_bd (m_gR 11 20 x0) fun v3 =>
    m_bd (m_aI 0 v3 t1) fun v4 =>
    m_bd (m_tI 0 v2 t1 v4) fun _ =>
    m_rt (.inl (t1 + 1))
def fn_M_puts (x0 : Option mA) : mP Unit :=
  m_th 11 x0 <|
  m_bd (m_lp (fn_M_puts_l2 x0) m_F 0) fun (t5 : Unit) =>
  m_rt ()
set_option maxHeartbeats 4000000 in
set_option maxRecDepth 100000 in
theorem sd_M_puts (x0 : Option mA) : m_Sm k_M_puts 1 0 0 [.inr (.inr x0)] (fn_M_puts x0) (fun _ => none) := by
  refine ⟨Nat.le_of_ble_eq_true rfl, ?_⟩
  refine sm_th ?_
  refine sm_iconst (pc' := 1) d_M_puts_0 rfl ic_0 (sm_istore_n (i := 1) (L' := [(1, .inl 0), (0, .inr (.inr x0))]) (pc' := 2) d_M_puts_1 rfl rfl (Nat.le_of_ble_eq_true rfl) rfl ?_)
  refine sm_sub [0, 1] rfl ?_
  refine sm_bd (mid := fun (t5 : Unit) => .inl (26, [], [])) (sm_lp (hd := fun (t1 : Int32) => (.inl (2, [(1, .inl t1), (0, .inr (.inr x0))], []) : mC)) (fun t1 => ?_) m_F 0) (fun t5 => ?_)
  · refine sm_iload_n (i := 1) (j := 0) (pc' := 3) d_M_puts_2 rfl rfl rfl (sm_bipush (pc' := 5) d_M_puts_3 rfl ib_105 ?_)
    refine sm_icmp_ge (tgt := 26) (pc' := 8) d_M_puts_5 rfl rfl ?_ ?_
    · refine sm_sub [] rfl ?_
      exact sm_rt rfl
    · refine sm_aload_n (i := 0) (j := 1) (pc' := 9) d_M_puts_8 rfl rfl rfl ?_
      refine sm_getR (pc' := 12) d_M_puts_9 rfl fl_M_38 rfl rfl (fun v2 => ?_)
      refine sm_iload_n (i := 1) (j := 0) (pc' := 13) d_M_puts_12 rfl rfl rfl (sm_aload_n (i := 0) (j := 1) (pc' := 14) d_M_puts_13 rfl rfl rfl ?_)
      refine sm_getR (pc' := 17) d_M_puts_14 rfl fl_M_35 rfl rfl (fun v3 => ?_)
      refine sm_iload_n (i := 1) (j := 0) (pc' := 18) d_M_puts_17 rfl rfl rfl ?_
      refine sm_iald (pc' := 19) d_M_puts_18 rfl (fun v4 => ?_)
      refine sm_iast (pc' := 20) d_M_puts_19 rfl (sm_iinc (j := 0) (L' := [(1, .inl (t1 + 1)), (0, .inr (.inr x0))]) (pc' := 23) d_M_puts_20 rfl (v := (t1 + 1)) rfl (ix_1 _) (Nat.le_of_ble_eq_true rfl) rfl (sm_goto (tgt := 2) d_M_puts_23 rfl (sm_sub [0, 1] rfl ?_)))
      exact sm_rt rfl
  · exact sm_return d_M_puts_26 rfl rfl
theorem d_M_rustIn_0 : m_D k_M_rustIn 0 (.aload_n 0) 1 := (by decide +kernel : decode prog_14_method_107_code 0 = .ok (.aload_n 0, 1))
theorem d_M_rustIn_1 : m_D k_M_rustIn 1 (.iconst 0) 1 := (by decide +kernel : decode prog_14_method_107_code 1 = .ok (.iconst 0, 1))
theorem d_M_rustIn_2 : m_D k_M_rustIn 2 (.putfield 81) 3 := (by decide +kernel : decode prog_14_method_107_code 2 = .ok (.putfield 81, 3))
theorem d_M_rustIn_5 : m_D k_M_rustIn 5 (.aload_n 0) 1 := (by decide +kernel : decode prog_14_method_107_code 5 = .ok (.aload_n 0, 1))
theorem d_M_rustIn_6 : m_D k_M_rustIn 6 (.iconst 0) 1 := (by decide +kernel : decode prog_14_method_107_code 6 = .ok (.iconst 0, 1))
theorem d_M_rustIn_7 : m_D k_M_rustIn 7 (.putfield 84) 3 := (by decide +kernel : decode prog_14_method_107_code 7 = .ok (.putfield 84, 3))
theorem d_M_rustIn_10 : m_D k_M_rustIn 10 (.aload_n 0) 1 := (by decide +kernel : decode prog_14_method_107_code 10 = .ok (.aload_n 0, 1))
theorem d_M_rustIn_11 : m_D k_M_rustIn 11 (.iload_n 1) 1 := (by decide +kernel : decode prog_14_method_107_code 11 = .ok (.iload_n 1, 1))
theorem d_M_rustIn_12 : m_D k_M_rustIn 12 (.invokevirtual 357) 3 := (by decide +kernel : decode prog_14_method_107_code 12 = .ok (.invokevirtual 357, 3))
theorem d_M_rustIn_15 : m_D k_M_rustIn 15 (.ifCond .ne 9) 3 := (by decide +kernel : decode prog_14_method_107_code 15 = .ok (.ifCond .ne 9, 3))
theorem d_M_rustIn_18 : m_D k_M_rustIn 18 (.aload_n 0) 1 := (by decide +kernel : decode prog_14_method_107_code 18 = .ok (.aload_n 0, 1))
theorem d_M_rustIn_19 : m_D k_M_rustIn 19 (.iconst 2) 1 := (by decide +kernel : decode prog_14_method_107_code 19 = .ok (.iconst 2, 1))
theorem d_M_rustIn_20 : m_D k_M_rustIn 20 (.invokevirtual 331) 3 := (by decide +kernel : decode prog_14_method_107_code 20 = .ok (.invokevirtual 331, 3))
theorem d_M_rustIn_23 : m_D k_M_rustIn 23 (.ireturn) 1 := (by decide +kernel : decode prog_14_method_107_code 23 = .ok (.ireturn, 1))
theorem d_M_rustIn_24 : m_D k_M_rustIn 24 (.iload_n 2) 1 := (by decide +kernel : decode prog_14_method_107_code 24 = .ok (.iload_n 2, 1))
theorem d_M_rustIn_25 : m_D k_M_rustIn 25 (.invokestatic 412) 3 := (by decide +kernel : decode prog_14_method_107_code 25 = .ok (.invokestatic 412, 3))
theorem d_M_rustIn_28 : m_D k_M_rustIn 28 (.ifCond .ne 9) 3 := (by decide +kernel : decode prog_14_method_107_code 28 = .ok (.ifCond .ne 9, 3))
theorem d_M_rustIn_31 : m_D k_M_rustIn 31 (.aload_n 0) 1 := (by decide +kernel : decode prog_14_method_107_code 31 = .ok (.aload_n 0, 1))
theorem d_M_rustIn_32 : m_D k_M_rustIn 32 (.iconst 5) 1 := (by decide +kernel : decode prog_14_method_107_code 32 = .ok (.iconst 5, 1))
theorem d_M_rustIn_33 : m_D k_M_rustIn 33 (.invokevirtual 331) 3 := (by decide +kernel : decode prog_14_method_107_code 33 = .ok (.invokevirtual 331, 3))
theorem d_M_rustIn_36 : m_D k_M_rustIn 36 (.ireturn) 1 := (by decide +kernel : decode prog_14_method_107_code 36 = .ok (.ireturn, 1))
theorem d_M_rustIn_37 : m_D k_M_rustIn 37 (.aload_n 0) 1 := (by decide +kernel : decode prog_14_method_107_code 37 = .ok (.aload_n 0, 1))
theorem d_M_rustIn_38 : m_D k_M_rustIn 38 (.invokevirtual 415) 3 := (by decide +kernel : decode prog_14_method_107_code 38 = .ok (.invokevirtual 415, 3))
theorem d_M_rustIn_41 : m_D k_M_rustIn 41 (.iconst 0) 1 := (by decide +kernel : decode prog_14_method_107_code 41 = .ok (.iconst 0, 1))
theorem d_M_rustIn_42 : m_D k_M_rustIn 42 (.istore_n 3) 1 := (by decide +kernel : decode prog_14_method_107_code 42 = .ok (.istore_n 3, 1))
theorem d_M_rustIn_43 : m_D k_M_rustIn 43 (.iload_n 3) 1 := (by decide +kernel : decode prog_14_method_107_code 43 = .ok (.iload_n 3, 1))
theorem d_M_rustIn_44 : m_D k_M_rustIn 44 (.iload_n 2) 1 := (by decide +kernel : decode prog_14_method_107_code 44 = .ok (.iload_n 2, 1))
theorem d_M_rustIn_45 : m_D k_M_rustIn 45 (.if_icmp .ge 13) 3 := (by decide +kernel : decode prog_14_method_107_code 45 = .ok (.if_icmp .ge 13, 3))
theorem d_M_rustIn_48 : m_D k_M_rustIn 48 (.aload_n 0) 1 := (by decide +kernel : decode prog_14_method_107_code 48 = .ok (.aload_n 0, 1))
theorem d_M_rustIn_49 : m_D k_M_rustIn 49 (.invokevirtual 386) 3 := (by decide +kernel : decode prog_14_method_107_code 49 = .ok (.invokevirtual 386, 3))
theorem d_M_rustIn_52 : m_D k_M_rustIn 52 (.iinc 3 1) 3 := (by decide +kernel : decode prog_14_method_107_code 52 = .ok (.iinc 3 1, 3))
theorem d_M_rustIn_55 : m_D k_M_rustIn 55 (.goto (-12)) 3 := (by decide +kernel : decode prog_14_method_107_code 55 = .ok (.goto (-12), 3))
theorem d_M_rustIn_58 : m_D k_M_rustIn 58 (.aload_n 0) 1 := (by decide +kernel : decode prog_14_method_107_code 58 = .ok (.aload_n 0, 1))
theorem d_M_rustIn_59 : m_D k_M_rustIn 59 (.getfield 35) 3 := (by decide +kernel : decode prog_14_method_107_code 59 = .ok (.getfield 35, 3))
theorem d_M_rustIn_62 : m_D k_M_rustIn 62 (.bipush 41) 2 := (by decide +kernel : decode prog_14_method_107_code 62 = .ok (.bipush 41, 2))
theorem d_M_rustIn_64 : m_D k_M_rustIn 64 (.iload_n 1) 1 := (by decide +kernel : decode prog_14_method_107_code 64 = .ok (.iload_n 1, 1))
theorem d_M_rustIn_65 : m_D k_M_rustIn 65 (.iadd) 1 := (by decide +kernel : decode prog_14_method_107_code 65 = .ok (.iadd, 1))
theorem d_M_rustIn_66 : m_D k_M_rustIn 66 (.iaload) 1 := (by decide +kernel : decode prog_14_method_107_code 66 = .ok (.iaload, 1))
theorem d_M_rustIn_67 : m_D k_M_rustIn 67 (.istore_n 3) 1 := (by decide +kernel : decode prog_14_method_107_code 67 = .ok (.istore_n 3, 1))
theorem d_M_rustIn_68 : m_D k_M_rustIn 68 (.aload_n 0) 1 := (by decide +kernel : decode prog_14_method_107_code 68 = .ok (.aload_n 0, 1))
theorem d_M_rustIn_69 : m_D k_M_rustIn 69 (.invokevirtual 418) 3 := (by decide +kernel : decode prog_14_method_107_code 69 = .ok (.invokevirtual 418, 3))
theorem d_M_rustIn_72 : m_D k_M_rustIn 72 (.iload_n 3) 1 := (by decide +kernel : decode prog_14_method_107_code 72 = .ok (.iload_n 3, 1))
theorem d_M_rustIn_73 : m_D k_M_rustIn 73 (.ireturn) 1 := (by decide +kernel : decode prog_14_method_107_code 73 = .ok (.ireturn, 1))
def fn_M_rustIn_l43 (x0 : Option mA) (x2 : Int32) (t3 : Int32) : mP ((Int32) ⊕ (Unit)) :=
  if x2 ≤ t3 then
    m_rt (.inr ())
  else
    m_bd (fn_M_goesYear x0) fun _ =>
    m_rt (.inl (t3 + 1))
def fn_M_rustIn (x0 : Option mA) (x1 : Int32) (x2 : Int32) : mP Int32 :=
  m_th 11 x0 <|
  m_bd (m_pI 11 1 x0 0) fun _ =>
  m_bd (m_pI 11 0 x0 0) fun _ =>
  m_bd (fn_M_isThingAt x0 x1) fun v1 =>
  if v1 = 0 then
    m_bd (fn_M_refuse x0 2) fun v8 =>
    m_rt v8
  else
    m_bd (fn_M_isAhead x2) fun v2 =>
    if v2 = 0 then
      m_bd (fn_M_refuse x0 5) fun v7 =>
      m_rt v7
    else
      m_bd (fn_M_puts x0) fun _ =>
      m_bd (m_lp (fn_M_rustIn_l43 x0 x2) m_F 0) fun (t4 : Unit) =>
      m_bd (m_gR 11 20 x0) fun v5 =>
      m_bd (m_aI 0 v5 (41 + x1)) fun v6 =>
      m_bd (fn_M_gives x0) fun _ =>
      m_rt v6
set_option maxHeartbeats 4000000 in
set_option maxRecDepth 100000 in
theorem sd_M_rustIn (x0 : Option mA) (x1 : Int32) (x2 : Int32) : m_Sm k_M_rustIn 5 0 0 [.inr (.inr x0), .inl x1, .inl x2] (fn_M_rustIn x0 x1 x2) (fun b => some (.inl b)) := by
  refine ⟨Nat.le_of_ble_eq_true rfl, ?_⟩
  refine sm_th ?_
  refine sm_aload_n (i := 0) (j := 0) (pc' := 1) d_M_rustIn_0 rfl rfl rfl (sm_iconst (pc' := 2) d_M_rustIn_1 rfl ic_0 (sm_putI (pc' := 5) d_M_rustIn_2 rfl fl_M_81 (Or.inl rfl) rfl (sm_aload_n (i := 0) (j := 0) (pc' := 6) d_M_rustIn_5 rfl rfl rfl (sm_iconst (pc' := 7) d_M_rustIn_6 rfl ic_0 (sm_putI (pc' := 10) d_M_rustIn_7 rfl fl_M_84 (Or.inl rfl) rfl (sm_aload_n (i := 0) (j := 0) (pc' := 11) d_M_rustIn_10 rfl rfl rfl (sm_iload_n (i := 1) (j := 1) (pc' := 12) d_M_rustIn_11 rfl rfl rfl ?_)))))))
  refine sm_callVi (ci := 11) (x := x0) (av := [.inl x1]) (st := []) (mc := 0) (ms := 0) (pc' := 15) d_M_rustIn_12 rfl (sd_M_isThingAt x0 x1) m_lv rfl cv_M_isThingAt w_ml_M_357 rfl rfl (by decide) (Nat.le_of_ble_eq_true rfl) rfl rfl (fun v1 => ?_)
  refine sm_if_ne (tgt := 24) (pc' := 18) d_M_rustIn_15 rfl rfl ?_ ?_
  · refine sm_iload_n (i := 2) (j := 2) (pc' := 25) d_M_rustIn_24 rfl rfl rfl ?_
    refine sm_callSi (av := [.inl x2]) (st := []) (mc := 0) (ms := 0) (pc' := 28) d_M_rustIn_25 rfl (sd_M_isAhead x2) cs_M_isAhead w_ml_M_412 rfl rfl (by decide) (Nat.le_of_ble_eq_true rfl) rfl rfl (fun v2 => ?_)
    refine sm_if_ne (tgt := 37) (pc' := 31) d_M_rustIn_28 rfl rfl ?_ ?_
    · refine sm_aload_n (i := 0) (j := 0) (pc' := 38) d_M_rustIn_37 rfl rfl rfl ?_
      refine sm_callVv (ci := 11) (x := x0) (av := []) (st := []) (mc := 0) (ms := 0) (pc' := 41) d_M_rustIn_38 rfl (sd_M_puts x0) m_lv rfl cv_M_puts w_ml_M_415 rfl rfl (by decide) (Nat.le_of_ble_eq_true rfl) rfl rfl ?_
      refine sm_iconst (pc' := 42) d_M_rustIn_41 rfl ic_0 (sm_istore_n (i := 3) (L' := [(3, .inl 0), (0, .inr (.inr x0)), (1, .inl x1), (2, .inl x2)]) (pc' := 43) d_M_rustIn_42 rfl rfl (Nat.le_of_ble_eq_true rfl) rfl ?_)
      refine sm_sub [0, 1, 2, 3] rfl ?_
      refine sm_bd (mid := fun (t4 : Unit) => .inl (58, [(0, .inr (.inr x0)), (1, .inl x1)], [])) (sm_lp (hd := fun (t3 : Int32) => (.inl (43, [(3, .inl t3), (0, .inr (.inr x0)), (1, .inl x1), (2, .inl x2)], []) : mC)) (fun t3 => ?_) m_F 0) (fun t4 => ?_)
      · refine sm_iload_n (i := 3) (j := 0) (pc' := 44) d_M_rustIn_43 rfl rfl rfl (sm_iload_n (i := 2) (j := 3) (pc' := 45) d_M_rustIn_44 rfl rfl rfl ?_)
        refine sm_icmp_ge (tgt := 58) (pc' := 48) d_M_rustIn_45 rfl rfl ?_ ?_
        · refine sm_sub [1, 2] rfl ?_
          exact sm_rt rfl
        · refine sm_aload_n (i := 0) (j := 1) (pc' := 49) d_M_rustIn_48 rfl rfl rfl ?_
          refine sm_callVv (ci := 11) (x := x0) (av := []) (st := []) (mc := 0) (ms := 0) (pc' := 52) d_M_rustIn_49 rfl (sd_M_goesYear x0) m_lv rfl cv_M_goesYear w_ml_M_386 rfl rfl (by decide) (Nat.le_of_ble_eq_true rfl) rfl rfl ?_
          refine sm_iinc (j := 0) (L' := [(3, .inl (t3 + 1)), (0, .inr (.inr x0)), (1, .inl x1), (2, .inl x2)]) (pc' := 55) d_M_rustIn_52 rfl (v := (t3 + 1)) rfl (ix_1 _) (Nat.le_of_ble_eq_true rfl) rfl (sm_goto (tgt := 43) d_M_rustIn_55 rfl (sm_sub [0, 1, 2, 3] rfl ?_))
          exact sm_rt rfl
      · refine sm_aload_n (i := 0) (j := 0) (pc' := 59) d_M_rustIn_58 rfl rfl rfl ?_
        refine sm_getR (pc' := 62) d_M_rustIn_59 rfl fl_M_35 rfl rfl (fun v5 => ?_)
        refine sm_bipush (pc' := 64) d_M_rustIn_62 rfl ib_41 (sm_iload_n (i := 1) (j := 1) (pc' := 65) d_M_rustIn_64 rfl rfl rfl (sm_iadd (pc' := 66) d_M_rustIn_65 rfl ?_))
        refine sm_iald (pc' := 67) d_M_rustIn_66 rfl (fun v6 => ?_)
        refine sm_istore_n (i := 3) (L' := [(3, .inl v6), (0, .inr (.inr x0)), (1, .inl x1)]) (pc' := 68) d_M_rustIn_67 rfl rfl (Nat.le_of_ble_eq_true rfl) rfl (sm_aload_n (i := 0) (j := 1) (pc' := 69) d_M_rustIn_68 rfl rfl rfl ?_)
        refine sm_callVv (ci := 11) (x := x0) (av := []) (st := []) (mc := 0) (ms := 0) (pc' := 72) d_M_rustIn_69 rfl (sd_M_gives x0) m_lv rfl cv_M_gives w_ml_M_418 rfl rfl (by decide) (Nat.le_of_ble_eq_true rfl) rfl rfl ?_
        refine sm_iload_n (i := 3) (j := 0) (pc' := 73) d_M_rustIn_72 rfl rfl rfl ?_
        exact sm_ireturn d_M_rustIn_73 rfl rfl
    · refine sm_aload_n (i := 0) (j := 0) (pc' := 32) d_M_rustIn_31 rfl rfl rfl (sm_iconst (pc' := 33) d_M_rustIn_32 rfl ic_5 ?_)
      refine sm_callVi (ci := 11) (x := x0) (av := [.inl 5]) (st := []) (mc := 0) (ms := 0) (pc' := 36) d_M_rustIn_33 rfl (sd_M_refuse x0 5) m_lv rfl cv_M_refuse w_ml_M_331 rfl rfl (by decide) (Nat.le_of_ble_eq_true rfl) rfl rfl (fun v7 => ?_)
      exact sm_ireturn d_M_rustIn_36 rfl rfl
  · refine sm_aload_n (i := 0) (j := 0) (pc' := 19) d_M_rustIn_18 rfl rfl rfl (sm_iconst (pc' := 20) d_M_rustIn_19 rfl ic_2 ?_)
    refine sm_callVi (ci := 11) (x := x0) (av := [.inl 2]) (st := []) (mc := 0) (ms := 0) (pc' := 23) d_M_rustIn_20 rfl (sd_M_refuse x0 2) m_lv rfl cv_M_refuse w_ml_M_331 rfl rfl (by decide) (Nat.le_of_ble_eq_true rfl) rfl rfl (fun v8 => ?_)
    exact sm_ireturn d_M_rustIn_23 rfl rfl
theorem d_M_throughOf_0 : m_D k_M_throughOf 0 (.iconst (-1)) 1 := (by decide +kernel : decode prog_14_method_108_code 0 = .ok (.iconst (-1), 1))
theorem d_M_throughOf_1 : m_D k_M_throughOf 1 (.istore_n 2) 1 := (by decide +kernel : decode prog_14_method_108_code 1 = .ok (.istore_n 2, 1))
theorem d_M_throughOf_2 : m_D k_M_throughOf 2 (.aload_n 0) 1 := (by decide +kernel : decode prog_14_method_108_code 2 = .ok (.aload_n 0, 1))
theorem d_M_throughOf_3 : m_D k_M_throughOf 3 (.invokevirtual 415) 3 := (by decide +kernel : decode prog_14_method_108_code 3 = .ok (.invokevirtual 415, 3))
theorem d_M_throughOf_6 : m_D k_M_throughOf 6 (.iconst 0) 1 := (by decide +kernel : decode prog_14_method_108_code 6 = .ok (.iconst 0, 1))
theorem d_M_throughOf_7 : m_D k_M_throughOf 7 (.istore_n 3) 1 := (by decide +kernel : decode prog_14_method_108_code 7 = .ok (.istore_n 3, 1))
theorem d_M_throughOf_8 : m_D k_M_throughOf 8 (.iload_n 3) 1 := (by decide +kernel : decode prog_14_method_108_code 8 = .ok (.iload_n 3, 1))
theorem d_M_throughOf_9 : m_D k_M_throughOf 9 (.sipush 200) 3 := (by decide +kernel : decode prog_14_method_108_code 9 = .ok (.sipush 200, 3))
theorem d_M_throughOf_12 : m_D k_M_throughOf 12 (.if_icmp .gt 31) 3 := (by decide +kernel : decode prog_14_method_108_code 12 = .ok (.if_icmp .gt 31, 3))
theorem d_M_throughOf_15 : m_D k_M_throughOf 15 (.iload_n 2) 1 := (by decide +kernel : decode prog_14_method_108_code 15 = .ok (.iload_n 2, 1))
theorem d_M_throughOf_16 : m_D k_M_throughOf 16 (.ifCond .ge 27) 3 := (by decide +kernel : decode prog_14_method_108_code 16 = .ok (.ifCond .ge 27, 3))
theorem d_M_throughOf_19 : m_D k_M_throughOf 19 (.aload_n 0) 1 := (by decide +kernel : decode prog_14_method_108_code 19 = .ok (.aload_n 0, 1))
theorem d_M_throughOf_20 : m_D k_M_throughOf 20 (.invokevirtual 340) 3 := (by decide +kernel : decode prog_14_method_108_code 20 = .ok (.invokevirtual 340, 3))
theorem d_M_throughOf_23 : m_D k_M_throughOf 23 (.iload_n 1) 1 := (by decide +kernel : decode prog_14_method_108_code 23 = .ok (.iload_n 1, 1))
theorem d_M_throughOf_24 : m_D k_M_throughOf 24 (.iand) 1 := (by decide +kernel : decode prog_14_method_108_code 24 = .ok (.iand, 1))
theorem d_M_throughOf_25 : m_D k_M_throughOf 25 (.ifCond .eq 8) 3 := (by decide +kernel : decode prog_14_method_108_code 25 = .ok (.ifCond .eq 8, 3))
theorem d_M_throughOf_28 : m_D k_M_throughOf 28 (.iload_n 3) 1 := (by decide +kernel : decode prog_14_method_108_code 28 = .ok (.iload_n 3, 1))
theorem d_M_throughOf_29 : m_D k_M_throughOf 29 (.istore_n 2) 1 := (by decide +kernel : decode prog_14_method_108_code 29 = .ok (.istore_n 2, 1))
theorem d_M_throughOf_30 : m_D k_M_throughOf 30 (.goto 7) 3 := (by decide +kernel : decode prog_14_method_108_code 30 = .ok (.goto 7, 3))
theorem d_M_throughOf_33 : m_D k_M_throughOf 33 (.aload_n 0) 1 := (by decide +kernel : decode prog_14_method_108_code 33 = .ok (.aload_n 0, 1))
theorem d_M_throughOf_34 : m_D k_M_throughOf 34 (.invokevirtual 386) 3 := (by decide +kernel : decode prog_14_method_108_code 34 = .ok (.invokevirtual 386, 3))
theorem d_M_throughOf_37 : m_D k_M_throughOf 37 (.iinc 3 1) 3 := (by decide +kernel : decode prog_14_method_108_code 37 = .ok (.iinc 3 1, 3))
theorem d_M_throughOf_40 : m_D k_M_throughOf 40 (.goto (-32)) 3 := (by decide +kernel : decode prog_14_method_108_code 40 = .ok (.goto (-32), 3))
theorem d_M_throughOf_43 : m_D k_M_throughOf 43 (.aload_n 0) 1 := (by decide +kernel : decode prog_14_method_108_code 43 = .ok (.aload_n 0, 1))
theorem d_M_throughOf_44 : m_D k_M_throughOf 44 (.aload_n 0) 1 := (by decide +kernel : decode prog_14_method_108_code 44 = .ok (.aload_n 0, 1))
theorem d_M_throughOf_45 : m_D k_M_throughOf 45 (.invokevirtual 340) 3 := (by decide +kernel : decode prog_14_method_108_code 45 = .ok (.invokevirtual 340, 3))
theorem d_M_throughOf_48 : m_D k_M_throughOf 48 (.iload_n 1) 1 := (by decide +kernel : decode prog_14_method_108_code 48 = .ok (.iload_n 1, 1))
theorem d_M_throughOf_49 : m_D k_M_throughOf 49 (.iand) 1 := (by decide +kernel : decode prog_14_method_108_code 49 = .ok (.iand, 1))
theorem d_M_throughOf_50 : m_D k_M_throughOf 50 (.putfield 421) 3 := (by decide +kernel : decode prog_14_method_108_code 50 = .ok (.putfield 421, 3))
theorem d_M_throughOf_53 : m_D k_M_throughOf 53 (.aload_n 0) 1 := (by decide +kernel : decode prog_14_method_108_code 53 = .ok (.aload_n 0, 1))
theorem d_M_throughOf_54 : m_D k_M_throughOf 54 (.invokevirtual 418) 3 := (by decide +kernel : decode prog_14_method_108_code 54 = .ok (.invokevirtual 418, 3))
theorem d_M_throughOf_57 : m_D k_M_throughOf 57 (.iload_n 2) 1 := (by decide +kernel : decode prog_14_method_108_code 57 = .ok (.iload_n 2, 1))
theorem d_M_throughOf_58 : m_D k_M_throughOf 58 (.ireturn) 1 := (by decide +kernel : decode prog_14_method_108_code 58 = .ok (.ireturn, 1))
def fn_M_throughOf_l8 (x0 : Option mA) (x1 : Int32) (t1 : Int32 × Int32) : mP ((Int32 × Int32) ⊕ (Int32)) :=
  if 200 < t1.2 then
    m_rt (.inr t1.1)
  else
    if 0 ≤ t1.1 then
      m_rt (.inr t1.1)
    else
      m_bd (fn_M_throughs x0) fun v2 =>
      m_bd (α := Int32) (
        if (v2 &&& x1) = 0 then
          m_bd (fn_M_goesYear x0) fun _ =>
          m_rt t1.1
        else
          m_rt t1.2
        ) fun (t3 : Int32) =>
      m_rt (.inl (t3, (t1.2 + 1)))
def fn_M_throughOf (x0 : Option mA) (x1 : Int32) : mP Int32 :=
  m_th 11 x0 <|
  m_bd (fn_M_puts x0) fun _ =>
  m_bd (m_lp (fn_M_throughOf_l8 x0 x1) m_F ((-1), 0)) fun (t4 : Int32) =>
  m_bd (fn_M_throughs x0) fun v5 =>
  m_bd (m_pI 11 28 x0 (v5 &&& x1)) fun _ =>
  m_bd (fn_M_gives x0) fun _ =>
  m_rt t4
set_option maxHeartbeats 4000000 in
set_option maxRecDepth 100000 in
theorem sd_M_throughOf (x0 : Option mA) (x1 : Int32) : m_Sm k_M_throughOf 5 0 0 [.inr (.inr x0), .inl x1] (fn_M_throughOf x0 x1) (fun b => some (.inl b)) := by
  refine ⟨Nat.le_of_ble_eq_true rfl, ?_⟩
  refine sm_th ?_
  refine sm_iconst (pc' := 1) d_M_throughOf_0 rfl ic_m1 (sm_istore_n (i := 2) (L' := [(2, .inl (-1)), (0, .inr (.inr x0)), (1, .inl x1)]) (pc' := 2) d_M_throughOf_1 rfl rfl (Nat.le_of_ble_eq_true rfl) rfl (sm_aload_n (i := 0) (j := 1) (pc' := 3) d_M_throughOf_2 rfl rfl rfl ?_))
  refine sm_callVv (ci := 11) (x := x0) (av := []) (st := []) (mc := 0) (ms := 0) (pc' := 6) d_M_throughOf_3 rfl (sd_M_puts x0) m_lv rfl cv_M_puts w_ml_M_415 rfl rfl (by decide) (Nat.le_of_ble_eq_true rfl) rfl rfl ?_
  refine sm_iconst (pc' := 7) d_M_throughOf_6 rfl ic_0 (sm_istore_n (i := 3) (L' := [(3, .inl 0), (2, .inl (-1)), (0, .inr (.inr x0)), (1, .inl x1)]) (pc' := 8) d_M_throughOf_7 rfl rfl (Nat.le_of_ble_eq_true rfl) rfl ?_)
  refine sm_sub [1, 0, 2, 3] rfl ?_
  refine sm_bd (mid := fun (t4 : Int32) => .inl (43, [(2, .inl t4), (0, .inr (.inr x0)), (1, .inl x1)], [])) (sm_lp (hd := fun (t1 : Int32 × Int32) => (.inl (8, [(2, .inl t1.1), (3, .inl t1.2), (0, .inr (.inr x0)), (1, .inl x1)], []) : mC)) (fun t1 => ?_) m_F ((-1), 0)) (fun t4 => ?_)
  · refine sm_iload_n (i := 3) (j := 1) (pc' := 9) d_M_throughOf_8 rfl rfl rfl (sm_sipush (pc' := 12) d_M_throughOf_9 rfl is_200 ?_)
    refine sm_icmp_gt (tgt := 43) (pc' := 15) d_M_throughOf_12 rfl rfl ?_ ?_
    · refine sm_sub [0, 2, 3] rfl ?_
      exact sm_rt rfl
    · refine sm_iload_n (i := 2) (j := 0) (pc' := 16) d_M_throughOf_15 rfl rfl rfl ?_
      refine sm_if_ge (tgt := 43) (pc' := 19) d_M_throughOf_16 rfl rfl ?_ ?_
      · refine sm_sub [0, 2, 3] rfl ?_
        exact sm_rt rfl
      · refine sm_aload_n (i := 0) (j := 2) (pc' := 20) d_M_throughOf_19 rfl rfl rfl ?_
        refine sm_callVi (ci := 11) (x := x0) (av := []) (st := []) (mc := 0) (ms := 0) (pc' := 23) d_M_throughOf_20 rfl (sd_M_throughs x0) m_lv rfl cv_M_throughs w_ml_M_340 rfl rfl (by decide) (Nat.le_of_ble_eq_true rfl) rfl rfl (fun v2 => ?_)
        refine sm_iload_n (i := 1) (j := 3) (pc' := 24) d_M_throughOf_23 rfl rfl rfl (sm_iand (pc' := 25) d_M_throughOf_24 rfl ?_)
        refine sm_bd (mid := fun (t3 : Int32) => .inl (37, [(0, .inr (.inr x0)), (1, .inl x1), (2, .inl t3), (3, .inl t1.2)], [])) ?_ (fun t3 => ?_)
        · refine sm_if_eq (tgt := 33) (pc' := 28) d_M_throughOf_25 rfl rfl ?_ ?_
          · refine sm_aload_n (i := 0) (j := 2) (pc' := 34) d_M_throughOf_33 rfl rfl rfl ?_
            refine sm_callVv (ci := 11) (x := x0) (av := []) (st := []) (mc := 0) (ms := 0) (pc' := 37) d_M_throughOf_34 rfl (sd_M_goesYear x0) m_lv rfl cv_M_goesYear w_ml_M_386 rfl rfl (by decide) (Nat.le_of_ble_eq_true rfl) rfl rfl ?_
            refine sm_sub [2, 3, 0, 1] rfl ?_
            exact sm_rt rfl
          · refine sm_iload_n (i := 3) (j := 1) (pc' := 29) d_M_throughOf_28 rfl rfl rfl (sm_istore_n (i := 2) (L' := [(2, .inl t1.2), (3, .inl t1.2), (0, .inr (.inr x0)), (1, .inl x1)]) (pc' := 30) d_M_throughOf_29 rfl rfl (Nat.le_of_ble_eq_true rfl) rfl (sm_goto (tgt := 37) d_M_throughOf_30 rfl (sm_sub [2, 3, 0, 1] rfl ?_)))
            exact sm_rt rfl
        · refine sm_iinc (j := 3) (L' := [(3, .inl (t1.2 + 1)), (0, .inr (.inr x0)), (1, .inl x1), (2, .inl t3)]) (pc' := 40) d_M_throughOf_37 rfl (v := (t1.2 + 1)) rfl (ix_1 _) (Nat.le_of_ble_eq_true rfl) rfl (sm_goto (tgt := 8) d_M_throughOf_40 rfl (sm_sub [3, 0, 1, 2] rfl ?_))
          exact sm_rt rfl
  · refine sm_aload_n (i := 0) (j := 1) (pc' := 44) d_M_throughOf_43 rfl rfl rfl (sm_aload_n (i := 0) (j := 1) (pc' := 45) d_M_throughOf_44 rfl rfl rfl ?_)
    refine sm_callVi (ci := 11) (x := x0) (av := []) (st := [.inr (.inr x0)]) (mc := 0) (ms := 0) (pc' := 48) d_M_throughOf_45 rfl (sd_M_throughs x0) m_lv rfl cv_M_throughs w_ml_M_340 rfl rfl (by decide) (Nat.le_of_ble_eq_true rfl) rfl rfl (fun v5 => ?_)
    refine sm_iload_n (i := 1) (j := 2) (pc' := 49) d_M_throughOf_48 rfl rfl rfl (sm_iand (pc' := 50) d_M_throughOf_49 rfl (sm_putI (pc' := 53) d_M_throughOf_50 rfl fl_M_421 (Or.inl rfl) rfl (sm_aload_n (i := 0) (j := 1) (pc' := 54) d_M_throughOf_53 rfl rfl rfl ?_)))
    refine sm_callVv (ci := 11) (x := x0) (av := []) (st := []) (mc := 0) (ms := 0) (pc' := 57) d_M_throughOf_54 rfl (sd_M_gives x0) m_lv rfl cv_M_gives w_ml_M_418 rfl rfl (by decide) (Nat.le_of_ble_eq_true rfl) rfl rfl ?_
    refine sm_iload_n (i := 2) (j := 0) (pc' := 58) d_M_throughOf_57 rfl rfl rfl ?_
    exact sm_ireturn d_M_throughOf_58 rfl rfl
theorem d_M_throughIn_0 : m_D k_M_throughIn 0 (.aload_n 0) 1 := (by decide +kernel : decode prog_14_method_109_code 0 = .ok (.aload_n 0, 1))
theorem d_M_throughIn_1 : m_D k_M_throughIn 1 (.iconst 0) 1 := (by decide +kernel : decode prog_14_method_109_code 1 = .ok (.iconst 0, 1))
theorem d_M_throughIn_2 : m_D k_M_throughIn 2 (.putfield 81) 3 := (by decide +kernel : decode prog_14_method_109_code 2 = .ok (.putfield 81, 3))
theorem d_M_throughIn_5 : m_D k_M_throughIn 5 (.aload_n 0) 1 := (by decide +kernel : decode prog_14_method_109_code 5 = .ok (.aload_n 0, 1))
theorem d_M_throughIn_6 : m_D k_M_throughIn 6 (.iconst 0) 1 := (by decide +kernel : decode prog_14_method_109_code 6 = .ok (.iconst 0, 1))
theorem d_M_throughIn_7 : m_D k_M_throughIn 7 (.putfield 84) 3 := (by decide +kernel : decode prog_14_method_109_code 7 = .ok (.putfield 84, 3))
theorem d_M_throughIn_10 : m_D k_M_throughIn 10 (.aload_n 0) 1 := (by decide +kernel : decode prog_14_method_109_code 10 = .ok (.aload_n 0, 1))
theorem d_M_throughIn_11 : m_D k_M_throughIn 11 (.iload_n 1) 1 := (by decide +kernel : decode prog_14_method_109_code 11 = .ok (.iload_n 1, 1))
theorem d_M_throughIn_12 : m_D k_M_throughIn 12 (.invokevirtual 357) 3 := (by decide +kernel : decode prog_14_method_109_code 12 = .ok (.invokevirtual 357, 3))
theorem d_M_throughIn_15 : m_D k_M_throughIn 15 (.ifCond .ne 9) 3 := (by decide +kernel : decode prog_14_method_109_code 15 = .ok (.ifCond .ne 9, 3))
theorem d_M_throughIn_18 : m_D k_M_throughIn 18 (.aload_n 0) 1 := (by decide +kernel : decode prog_14_method_109_code 18 = .ok (.aload_n 0, 1))
theorem d_M_throughIn_19 : m_D k_M_throughIn 19 (.iconst 2) 1 := (by decide +kernel : decode prog_14_method_109_code 19 = .ok (.iconst 2, 1))
theorem d_M_throughIn_20 : m_D k_M_throughIn 20 (.invokevirtual 331) 3 := (by decide +kernel : decode prog_14_method_109_code 20 = .ok (.invokevirtual 331, 3))
theorem d_M_throughIn_23 : m_D k_M_throughIn 23 (.ireturn) 1 := (by decide +kernel : decode prog_14_method_109_code 23 = .ok (.ireturn, 1))
theorem d_M_throughIn_24 : m_D k_M_throughIn 24 (.aload_n 0) 1 := (by decide +kernel : decode prog_14_method_109_code 24 = .ok (.aload_n 0, 1))
theorem d_M_throughIn_25 : m_D k_M_throughIn 25 (.iconst 1) 1 := (by decide +kernel : decode prog_14_method_109_code 25 = .ok (.iconst 1, 1))
theorem d_M_throughIn_26 : m_D k_M_throughIn 26 (.iload_n 1) 1 := (by decide +kernel : decode prog_14_method_109_code 26 = .ok (.iload_n 1, 1))
theorem d_M_throughIn_27 : m_D k_M_throughIn 27 (.ishl) 1 := (by decide +kernel : decode prog_14_method_109_code 27 = .ok (.ishl, 1))
theorem d_M_throughIn_28 : m_D k_M_throughIn 28 (.invokevirtual 424) 3 := (by decide +kernel : decode prog_14_method_109_code 28 = .ok (.invokevirtual 424, 3))
theorem d_M_throughIn_31 : m_D k_M_throughIn 31 (.istore_n 2) 1 := (by decide +kernel : decode prog_14_method_109_code 31 = .ok (.istore_n 2, 1))
theorem d_M_throughIn_32 : m_D k_M_throughIn 32 (.iload_n 2) 1 := (by decide +kernel : decode prog_14_method_109_code 32 = .ok (.iload_n 2, 1))
theorem d_M_throughIn_33 : m_D k_M_throughIn 33 (.ifCond .ge 12) 3 := (by decide +kernel : decode prog_14_method_109_code 33 = .ok (.ifCond .ge 12, 3))
theorem d_M_throughIn_36 : m_D k_M_throughIn 36 (.aload_n 0) 1 := (by decide +kernel : decode prog_14_method_109_code 36 = .ok (.aload_n 0, 1))
theorem d_M_throughIn_37 : m_D k_M_throughIn 37 (.bipush 8) 2 := (by decide +kernel : decode prog_14_method_109_code 37 = .ok (.bipush 8, 2))
theorem d_M_throughIn_39 : m_D k_M_throughIn 39 (.invokevirtual 331) 3 := (by decide +kernel : decode prog_14_method_109_code 39 = .ok (.invokevirtual 331, 3))
theorem d_M_throughIn_42 : m_D k_M_throughIn 42 (.goto 4) 3 := (by decide +kernel : decode prog_14_method_109_code 42 = .ok (.goto 4, 3))
theorem d_M_throughIn_45 : m_D k_M_throughIn 45 (.iload_n 2) 1 := (by decide +kernel : decode prog_14_method_109_code 45 = .ok (.iload_n 2, 1))
theorem d_M_throughIn_46 : m_D k_M_throughIn 46 (.ireturn) 1 := (by decide +kernel : decode prog_14_method_109_code 46 = .ok (.ireturn, 1))
def fn_M_throughIn (x0 : Option mA) (x1 : Int32) : mP Int32 :=
  m_th 11 x0 <|
  m_bd (m_pI 11 1 x0 0) fun _ =>
  m_bd (m_pI 11 0 x0 0) fun _ =>
  m_bd (fn_M_isThingAt x0 x1) fun v1 =>
  if v1 = 0 then
    m_bd (fn_M_refuse x0 2) fun v4 =>
    m_rt v4
  else
    m_bd (fn_M_throughOf x0 (1 <<< (x1 &&& 31))) fun v2 =>
    if 0 ≤ v2 then
      m_rt v2
    else
      m_bd (fn_M_refuse x0 8) fun v3 =>
      m_rt v3
set_option maxHeartbeats 4000000 in
set_option maxRecDepth 100000 in
theorem sd_M_throughIn (x0 : Option mA) (x1 : Int32) : m_Sm k_M_throughIn 6 0 0 [.inr (.inr x0), .inl x1] (fn_M_throughIn x0 x1) (fun b => some (.inl b)) := by
  refine ⟨Nat.le_of_ble_eq_true rfl, ?_⟩
  refine sm_th ?_
  refine sm_aload_n (i := 0) (j := 0) (pc' := 1) d_M_throughIn_0 rfl rfl rfl (sm_iconst (pc' := 2) d_M_throughIn_1 rfl ic_0 (sm_putI (pc' := 5) d_M_throughIn_2 rfl fl_M_81 (Or.inl rfl) rfl (sm_aload_n (i := 0) (j := 0) (pc' := 6) d_M_throughIn_5 rfl rfl rfl (sm_iconst (pc' := 7) d_M_throughIn_6 rfl ic_0 (sm_putI (pc' := 10) d_M_throughIn_7 rfl fl_M_84 (Or.inl rfl) rfl (sm_aload_n (i := 0) (j := 0) (pc' := 11) d_M_throughIn_10 rfl rfl rfl (sm_iload_n (i := 1) (j := 1) (pc' := 12) d_M_throughIn_11 rfl rfl rfl ?_)))))))
  refine sm_callVi (ci := 11) (x := x0) (av := [.inl x1]) (st := []) (mc := 0) (ms := 0) (pc' := 15) d_M_throughIn_12 rfl (sd_M_isThingAt x0 x1) m_lv rfl cv_M_isThingAt w_ml_M_357 rfl rfl (by decide) (Nat.le_of_ble_eq_true rfl) rfl rfl (fun v1 => ?_)
  refine sm_if_ne (tgt := 24) (pc' := 18) d_M_throughIn_15 rfl rfl ?_ ?_
  · refine sm_aload_n (i := 0) (j := 0) (pc' := 25) d_M_throughIn_24 rfl rfl rfl (sm_iconst (pc' := 26) d_M_throughIn_25 rfl ic_1 (sm_iload_n (i := 1) (j := 1) (pc' := 27) d_M_throughIn_26 rfl rfl rfl (sm_ishl (pc' := 28) d_M_throughIn_27 rfl ?_)))
    refine sm_callVi (ci := 11) (x := x0) (av := [.inl (1 <<< (x1 &&& 31))]) (st := []) (mc := 0) (ms := 0) (pc' := 31) d_M_throughIn_28 rfl (sd_M_throughOf x0 (1 <<< (x1 &&& 31))) m_lv rfl cv_M_throughOf w_ml_M_424 rfl rfl (by decide) (Nat.le_of_ble_eq_true rfl) rfl rfl (fun v2 => ?_)
    refine sm_istore_n (i := 2) (L' := [(2, .inl v2), (0, .inr (.inr x0)), (1, .inl x1)]) (pc' := 32) d_M_throughIn_31 rfl rfl (Nat.le_of_ble_eq_true rfl) rfl (sm_iload_n (i := 2) (j := 0) (pc' := 33) d_M_throughIn_32 rfl rfl rfl ?_)
    refine sm_if_ge (tgt := 45) (pc' := 36) d_M_throughIn_33 rfl rfl ?_ ?_
    · refine sm_iload_n (i := 2) (j := 0) (pc' := 46) d_M_throughIn_45 rfl rfl rfl ?_
      exact sm_ireturn d_M_throughIn_46 rfl rfl
    · refine sm_aload_n (i := 0) (j := 1) (pc' := 37) d_M_throughIn_36 rfl rfl rfl (sm_bipush (pc' := 39) d_M_throughIn_37 rfl ib_8 ?_)
      refine sm_callVi (ci := 11) (x := x0) (av := [.inl 8]) (st := []) (mc := 0) (ms := 0) (pc' := 42) d_M_throughIn_39 rfl (sd_M_refuse x0 8) m_lv rfl cv_M_refuse w_ml_M_331 rfl rfl (by decide) (Nat.le_of_ble_eq_true rfl) rfl rfl (fun v3 => ?_)
      refine sm_goto (tgt := 46) d_M_throughIn_42 rfl ?_
      exact sm_ireturn d_M_throughIn_46 rfl rfl
  · refine sm_aload_n (i := 0) (j := 0) (pc' := 19) d_M_throughIn_18 rfl rfl rfl (sm_iconst (pc' := 20) d_M_throughIn_19 rfl ic_2 ?_)
    refine sm_callVi (ci := 11) (x := x0) (av := [.inl 2]) (st := []) (mc := 0) (ms := 0) (pc' := 23) d_M_throughIn_20 rfl (sd_M_refuse x0 2) m_lv rfl cv_M_refuse w_ml_M_331 rfl rfl (by decide) (Nat.le_of_ble_eq_true rfl) rfl rfl (fun v4 => ?_)
    exact sm_ireturn d_M_throughIn_23 rfl rfl
theorem d_M_firstThrough_0 : m_D k_M_firstThrough 0 (.aload_n 0) 1 := (by decide +kernel : decode prog_14_method_110_code 0 = .ok (.aload_n 0, 1))
theorem d_M_firstThrough_1 : m_D k_M_firstThrough 1 (.iconst 0) 1 := (by decide +kernel : decode prog_14_method_110_code 1 = .ok (.iconst 0, 1))
theorem d_M_firstThrough_2 : m_D k_M_firstThrough 2 (.putfield 81) 3 := (by decide +kernel : decode prog_14_method_110_code 2 = .ok (.putfield 81, 3))
theorem d_M_firstThrough_5 : m_D k_M_firstThrough 5 (.aload_n 0) 1 := (by decide +kernel : decode prog_14_method_110_code 5 = .ok (.aload_n 0, 1))
theorem d_M_firstThrough_6 : m_D k_M_firstThrough 6 (.iconst 0) 1 := (by decide +kernel : decode prog_14_method_110_code 6 = .ok (.iconst 0, 1))
theorem d_M_firstThrough_7 : m_D k_M_firstThrough 7 (.putfield 84) 3 := (by decide +kernel : decode prog_14_method_110_code 7 = .ok (.putfield 84, 3))
theorem d_M_firstThrough_10 : m_D k_M_firstThrough 10 (.aload_n 0) 1 := (by decide +kernel : decode prog_14_method_110_code 10 = .ok (.aload_n 0, 1))
theorem d_M_firstThrough_11 : m_D k_M_firstThrough 11 (.sipush 255) 3 := (by decide +kernel : decode prog_14_method_110_code 11 = .ok (.sipush 255, 3))
theorem d_M_firstThrough_14 : m_D k_M_firstThrough 14 (.invokevirtual 424) 3 := (by decide +kernel : decode prog_14_method_110_code 14 = .ok (.invokevirtual 424, 3))
theorem d_M_firstThrough_17 : m_D k_M_firstThrough 17 (.ifCond .ge 10) 3 := (by decide +kernel : decode prog_14_method_110_code 17 = .ok (.ifCond .ge 10, 3))
theorem d_M_firstThrough_20 : m_D k_M_firstThrough 20 (.aload_n 0) 1 := (by decide +kernel : decode prog_14_method_110_code 20 = .ok (.aload_n 0, 1))
theorem d_M_firstThrough_21 : m_D k_M_firstThrough 21 (.bipush 8) 2 := (by decide +kernel : decode prog_14_method_110_code 21 = .ok (.bipush 8, 2))
theorem d_M_firstThrough_23 : m_D k_M_firstThrough 23 (.invokevirtual 331) 3 := (by decide +kernel : decode prog_14_method_110_code 23 = .ok (.invokevirtual 331, 3))
theorem d_M_firstThrough_26 : m_D k_M_firstThrough 26 (.ireturn) 1 := (by decide +kernel : decode prog_14_method_110_code 26 = .ok (.ireturn, 1))
theorem d_M_firstThrough_27 : m_D k_M_firstThrough 27 (.iconst 0) 1 := (by decide +kernel : decode prog_14_method_110_code 27 = .ok (.iconst 0, 1))
theorem d_M_firstThrough_28 : m_D k_M_firstThrough 28 (.istore_n 1) 1 := (by decide +kernel : decode prog_14_method_110_code 28 = .ok (.istore_n 1, 1))
theorem d_M_firstThrough_29 : m_D k_M_firstThrough 29 (.aload_n 0) 1 := (by decide +kernel : decode prog_14_method_110_code 29 = .ok (.aload_n 0, 1))
theorem d_M_firstThrough_30 : m_D k_M_firstThrough 30 (.getfield 421) 3 := (by decide +kernel : decode prog_14_method_110_code 30 = .ok (.getfield 421, 3))
theorem d_M_firstThrough_33 : m_D k_M_firstThrough 33 (.iload_n 1) 1 := (by decide +kernel : decode prog_14_method_110_code 33 = .ok (.iload_n 1, 1))
theorem d_M_firstThrough_34 : m_D k_M_firstThrough 34 (.invokestatic 120) 3 := (by decide +kernel : decode prog_14_method_110_code 34 = .ok (.invokestatic 120, 3))
theorem d_M_firstThrough_37 : m_D k_M_firstThrough 37 (.ifCond .ne 9) 3 := (by decide +kernel : decode prog_14_method_110_code 37 = .ok (.ifCond .ne 9, 3))
theorem d_M_firstThrough_40 : m_D k_M_firstThrough 40 (.iinc 1 1) 3 := (by decide +kernel : decode prog_14_method_110_code 40 = .ok (.iinc 1 1, 3))
theorem d_M_firstThrough_43 : m_D k_M_firstThrough 43 (.goto (-14)) 3 := (by decide +kernel : decode prog_14_method_110_code 43 = .ok (.goto (-14), 3))
theorem d_M_firstThrough_46 : m_D k_M_firstThrough 46 (.iload_n 1) 1 := (by decide +kernel : decode prog_14_method_110_code 46 = .ok (.iload_n 1, 1))
theorem d_M_firstThrough_47 : m_D k_M_firstThrough 47 (.ireturn) 1 := (by decide +kernel : decode prog_14_method_110_code 47 = .ok (.ireturn, 1))
def fn_M_firstThrough_l29 (x0 : Option mA) (t2 : Int32) : mP ((Int32) ⊕ (Int32)) :=
  m_bd (m_gI 11 28 x0) fun v3 =>
  m_bd (fn_M_has v3 t2) fun v4 =>
  if v4 = 0 then
    m_rt (.inl (t2 + 1))
  else
    m_rt (.inr t2)
def fn_M_firstThrough (x0 : Option mA) : mP Int32 :=
  m_th 11 x0 <|
  m_bd (m_pI 11 1 x0 0) fun _ =>
  m_bd (m_pI 11 0 x0 0) fun _ =>
  m_bd (fn_M_throughOf x0 255) fun v1 =>
  if 0 ≤ v1 then
    m_bd (m_lp (fn_M_firstThrough_l29 x0) m_F 0) fun (t5 : Int32) =>
    m_rt t5
  else
    m_bd (fn_M_refuse x0 8) fun v6 =>
    m_rt v6
set_option maxHeartbeats 4000000 in
set_option maxRecDepth 100000 in
theorem sd_M_firstThrough (x0 : Option mA) : m_Sm k_M_firstThrough 6 0 0 [.inr (.inr x0)] (fn_M_firstThrough x0) (fun b => some (.inl b)) := by
  refine ⟨Nat.le_of_ble_eq_true rfl, ?_⟩
  refine sm_th ?_
  refine sm_aload_n (i := 0) (j := 0) (pc' := 1) d_M_firstThrough_0 rfl rfl rfl (sm_iconst (pc' := 2) d_M_firstThrough_1 rfl ic_0 (sm_putI (pc' := 5) d_M_firstThrough_2 rfl fl_M_81 (Or.inl rfl) rfl (sm_aload_n (i := 0) (j := 0) (pc' := 6) d_M_firstThrough_5 rfl rfl rfl (sm_iconst (pc' := 7) d_M_firstThrough_6 rfl ic_0 (sm_putI (pc' := 10) d_M_firstThrough_7 rfl fl_M_84 (Or.inl rfl) rfl (sm_aload_n (i := 0) (j := 0) (pc' := 11) d_M_firstThrough_10 rfl rfl rfl (sm_sipush (pc' := 14) d_M_firstThrough_11 rfl is_255 ?_)))))))
  refine sm_callVi (ci := 11) (x := x0) (av := [.inl 255]) (st := []) (mc := 0) (ms := 0) (pc' := 17) d_M_firstThrough_14 rfl (sd_M_throughOf x0 255) m_lv rfl cv_M_throughOf w_ml_M_424 rfl rfl (by decide) (Nat.le_of_ble_eq_true rfl) rfl rfl (fun v1 => ?_)
  refine sm_if_ge (tgt := 27) (pc' := 20) d_M_firstThrough_17 rfl rfl ?_ ?_
  · refine sm_iconst (pc' := 28) d_M_firstThrough_27 rfl ic_0 (sm_istore_n (i := 1) (L' := [(1, .inl 0), (0, .inr (.inr x0))]) (pc' := 29) d_M_firstThrough_28 rfl rfl (Nat.le_of_ble_eq_true rfl) rfl ?_)
    refine sm_sub [0, 1] rfl ?_
    refine sm_bd (mid := fun (t5 : Int32) => .inl (46, [(1, .inl t5)], [])) (sm_lp (hd := fun (t2 : Int32) => (.inl (29, [(1, .inl t2), (0, .inr (.inr x0))], []) : mC)) (fun t2 => ?_) m_F 0) (fun t5 => ?_)
    · refine sm_aload_n (i := 0) (j := 1) (pc' := 30) d_M_firstThrough_29 rfl rfl rfl ?_
      refine sm_getI (pc' := 33) d_M_firstThrough_30 rfl fl_M_421 rfl ⟨by decide, by decide⟩ (fun v3 => ?_)
      refine sm_iload_n (i := 1) (j := 0) (pc' := 34) d_M_firstThrough_33 rfl rfl rfl ?_
      refine sm_callSi (av := [.inl v3, .inl t2]) (st := []) (mc := 0) (ms := 0) (pc' := 37) d_M_firstThrough_34 rfl (sd_M_has v3 t2) cs_M_has w_ml_M_120 rfl rfl (by decide) (Nat.le_of_ble_eq_true rfl) rfl rfl (fun v4 => ?_)
      refine sm_if_ne (tgt := 46) (pc' := 40) d_M_firstThrough_37 rfl rfl ?_ ?_
      · refine sm_sub [0] rfl ?_
        exact sm_rt rfl
      · refine sm_iinc (j := 0) (L' := [(1, .inl (t2 + 1)), (0, .inr (.inr x0))]) (pc' := 43) d_M_firstThrough_40 rfl (v := (t2 + 1)) rfl (ix_1 _) (Nat.le_of_ble_eq_true rfl) rfl (sm_goto (tgt := 29) d_M_firstThrough_43 rfl (sm_sub [0, 1] rfl ?_))
        exact sm_rt rfl
    · refine sm_iload_n (i := 1) (j := 0) (pc' := 47) d_M_firstThrough_46 rfl rfl rfl ?_
      exact sm_ireturn d_M_firstThrough_47 rfl rfl
  · refine sm_aload_n (i := 0) (j := 0) (pc' := 21) d_M_firstThrough_20 rfl rfl rfl (sm_bipush (pc' := 23) d_M_firstThrough_21 rfl ib_8 ?_)
    refine sm_callVi (ci := 11) (x := x0) (av := [.inl 8]) (st := []) (mc := 0) (ms := 0) (pc' := 26) d_M_firstThrough_23 rfl (sd_M_refuse x0 8) m_lv rfl cv_M_refuse w_ml_M_331 rfl rfl (by decide) (Nat.le_of_ble_eq_true rfl) rfl rfl (fun v6 => ?_)
    exact sm_ireturn d_M_firstThrough_26 rfl rfl
theorem d_M_throughBy_0 : m_D k_M_throughBy 0 (.aload_n 0) 1 := (by decide +kernel : decode prog_14_method_111_code 0 = .ok (.aload_n 0, 1))
theorem d_M_throughBy_1 : m_D k_M_throughBy 1 (.iconst 0) 1 := (by decide +kernel : decode prog_14_method_111_code 1 = .ok (.iconst 0, 1))
theorem d_M_throughBy_2 : m_D k_M_throughBy 2 (.putfield 81) 3 := (by decide +kernel : decode prog_14_method_111_code 2 = .ok (.putfield 81, 3))
theorem d_M_throughBy_5 : m_D k_M_throughBy 5 (.aload_n 0) 1 := (by decide +kernel : decode prog_14_method_111_code 5 = .ok (.aload_n 0, 1))
theorem d_M_throughBy_6 : m_D k_M_throughBy 6 (.iconst 0) 1 := (by decide +kernel : decode prog_14_method_111_code 6 = .ok (.iconst 0, 1))
theorem d_M_throughBy_7 : m_D k_M_throughBy 7 (.putfield 84) 3 := (by decide +kernel : decode prog_14_method_111_code 7 = .ok (.putfield 84, 3))
theorem d_M_throughBy_10 : m_D k_M_throughBy 10 (.iload_n 1) 1 := (by decide +kernel : decode prog_14_method_111_code 10 = .ok (.iload_n 1, 1))
theorem d_M_throughBy_11 : m_D k_M_throughBy 11 (.invokestatic 412) 3 := (by decide +kernel : decode prog_14_method_111_code 11 = .ok (.invokestatic 412, 3))
theorem d_M_throughBy_14 : m_D k_M_throughBy 14 (.ifCond .ne 9) 3 := (by decide +kernel : decode prog_14_method_111_code 14 = .ok (.ifCond .ne 9, 3))
theorem d_M_throughBy_17 : m_D k_M_throughBy 17 (.aload_n 0) 1 := (by decide +kernel : decode prog_14_method_111_code 17 = .ok (.aload_n 0, 1))
theorem d_M_throughBy_18 : m_D k_M_throughBy 18 (.iconst 5) 1 := (by decide +kernel : decode prog_14_method_111_code 18 = .ok (.iconst 5, 1))
theorem d_M_throughBy_19 : m_D k_M_throughBy 19 (.invokevirtual 331) 3 := (by decide +kernel : decode prog_14_method_111_code 19 = .ok (.invokevirtual 331, 3))
theorem d_M_throughBy_22 : m_D k_M_throughBy 22 (.ireturn) 1 := (by decide +kernel : decode prog_14_method_111_code 22 = .ok (.ireturn, 1))
theorem d_M_throughBy_23 : m_D k_M_throughBy 23 (.aload_n 0) 1 := (by decide +kernel : decode prog_14_method_111_code 23 = .ok (.aload_n 0, 1))
theorem d_M_throughBy_24 : m_D k_M_throughBy 24 (.invokevirtual 415) 3 := (by decide +kernel : decode prog_14_method_111_code 24 = .ok (.invokevirtual 415, 3))
theorem d_M_throughBy_27 : m_D k_M_throughBy 27 (.iconst 0) 1 := (by decide +kernel : decode prog_14_method_111_code 27 = .ok (.iconst 0, 1))
theorem d_M_throughBy_28 : m_D k_M_throughBy 28 (.istore_n 2) 1 := (by decide +kernel : decode prog_14_method_111_code 28 = .ok (.istore_n 2, 1))
theorem d_M_throughBy_29 : m_D k_M_throughBy 29 (.iload_n 2) 1 := (by decide +kernel : decode prog_14_method_111_code 29 = .ok (.iload_n 2, 1))
theorem d_M_throughBy_30 : m_D k_M_throughBy 30 (.iload_n 1) 1 := (by decide +kernel : decode prog_14_method_111_code 30 = .ok (.iload_n 1, 1))
theorem d_M_throughBy_31 : m_D k_M_throughBy 31 (.if_icmp .ge 13) 3 := (by decide +kernel : decode prog_14_method_111_code 31 = .ok (.if_icmp .ge 13, 3))
theorem d_M_throughBy_34 : m_D k_M_throughBy 34 (.aload_n 0) 1 := (by decide +kernel : decode prog_14_method_111_code 34 = .ok (.aload_n 0, 1))
theorem d_M_throughBy_35 : m_D k_M_throughBy 35 (.invokevirtual 386) 3 := (by decide +kernel : decode prog_14_method_111_code 35 = .ok (.invokevirtual 386, 3))
theorem d_M_throughBy_38 : m_D k_M_throughBy 38 (.iinc 2 1) 3 := (by decide +kernel : decode prog_14_method_111_code 38 = .ok (.iinc 2 1, 3))
theorem d_M_throughBy_41 : m_D k_M_throughBy 41 (.goto (-12)) 3 := (by decide +kernel : decode prog_14_method_111_code 41 = .ok (.goto (-12), 3))
theorem d_M_throughBy_44 : m_D k_M_throughBy 44 (.aload_n 0) 1 := (by decide +kernel : decode prog_14_method_111_code 44 = .ok (.aload_n 0, 1))
theorem d_M_throughBy_45 : m_D k_M_throughBy 45 (.invokevirtual 340) 3 := (by decide +kernel : decode prog_14_method_111_code 45 = .ok (.invokevirtual 340, 3))
theorem d_M_throughBy_48 : m_D k_M_throughBy 48 (.istore_n 2) 1 := (by decide +kernel : decode prog_14_method_111_code 48 = .ok (.istore_n 2, 1))
theorem d_M_throughBy_49 : m_D k_M_throughBy 49 (.aload_n 0) 1 := (by decide +kernel : decode prog_14_method_111_code 49 = .ok (.aload_n 0, 1))
theorem d_M_throughBy_50 : m_D k_M_throughBy 50 (.invokevirtual 418) 3 := (by decide +kernel : decode prog_14_method_111_code 50 = .ok (.invokevirtual 418, 3))
theorem d_M_throughBy_53 : m_D k_M_throughBy 53 (.iload_n 2) 1 := (by decide +kernel : decode prog_14_method_111_code 53 = .ok (.iload_n 2, 1))
theorem d_M_throughBy_54 : m_D k_M_throughBy 54 (.ireturn) 1 := (by decide +kernel : decode prog_14_method_111_code 54 = .ok (.ireturn, 1))
def fn_M_throughBy_l29 (x0 : Option mA) (x1 : Int32) (t2 : Int32) : mP ((Int32) ⊕ (Unit)) :=
  if x1 ≤ t2 then
    m_rt (.inr ())
  else
    m_bd (fn_M_goesYear x0) fun _ =>
    m_rt (.inl (t2 + 1))
def fn_M_throughBy (x0 : Option mA) (x1 : Int32) : mP Int32 :=
  m_th 11 x0 <|
  m_bd (m_pI 11 1 x0 0) fun _ =>
  m_bd (m_pI 11 0 x0 0) fun _ =>
  m_bd (fn_M_isAhead x1) fun v1 =>
  if v1 = 0 then
    m_bd (fn_M_refuse x0 5) fun v5 =>
    m_rt v5
  else
    m_bd (fn_M_puts x0) fun _ =>
    m_bd (m_lp (fn_M_throughBy_l29 x0 x1) m_F 0) fun (t3 : Unit) =>
    m_bd (fn_M_throughs x0) fun v4 =>
    m_bd (fn_M_gives x0) fun _ =>
    m_rt v4
set_option maxHeartbeats 4000000 in
set_option maxRecDepth 100000 in
theorem sd_M_throughBy (x0 : Option mA) (x1 : Int32) : m_Sm k_M_throughBy 5 0 0 [.inr (.inr x0), .inl x1] (fn_M_throughBy x0 x1) (fun b => some (.inl b)) := by
  refine ⟨Nat.le_of_ble_eq_true rfl, ?_⟩
  refine sm_th ?_
  refine sm_aload_n (i := 0) (j := 0) (pc' := 1) d_M_throughBy_0 rfl rfl rfl (sm_iconst (pc' := 2) d_M_throughBy_1 rfl ic_0 (sm_putI (pc' := 5) d_M_throughBy_2 rfl fl_M_81 (Or.inl rfl) rfl (sm_aload_n (i := 0) (j := 0) (pc' := 6) d_M_throughBy_5 rfl rfl rfl (sm_iconst (pc' := 7) d_M_throughBy_6 rfl ic_0 (sm_putI (pc' := 10) d_M_throughBy_7 rfl fl_M_84 (Or.inl rfl) rfl (sm_iload_n (i := 1) (j := 1) (pc' := 11) d_M_throughBy_10 rfl rfl rfl ?_))))))
  refine sm_callSi (av := [.inl x1]) (st := []) (mc := 0) (ms := 0) (pc' := 14) d_M_throughBy_11 rfl (sd_M_isAhead x1) cs_M_isAhead w_ml_M_412 rfl rfl (by decide) (Nat.le_of_ble_eq_true rfl) rfl rfl (fun v1 => ?_)
  refine sm_if_ne (tgt := 23) (pc' := 17) d_M_throughBy_14 rfl rfl ?_ ?_
  · refine sm_aload_n (i := 0) (j := 0) (pc' := 24) d_M_throughBy_23 rfl rfl rfl ?_
    refine sm_callVv (ci := 11) (x := x0) (av := []) (st := []) (mc := 0) (ms := 0) (pc' := 27) d_M_throughBy_24 rfl (sd_M_puts x0) m_lv rfl cv_M_puts w_ml_M_415 rfl rfl (by decide) (Nat.le_of_ble_eq_true rfl) rfl rfl ?_
    refine sm_iconst (pc' := 28) d_M_throughBy_27 rfl ic_0 (sm_istore_n (i := 2) (L' := [(2, .inl 0), (0, .inr (.inr x0)), (1, .inl x1)]) (pc' := 29) d_M_throughBy_28 rfl rfl (Nat.le_of_ble_eq_true rfl) rfl ?_)
    refine sm_sub [0, 1, 2] rfl ?_
    refine sm_bd (mid := fun (t3 : Unit) => .inl (44, [(0, .inr (.inr x0))], [])) (sm_lp (hd := fun (t2 : Int32) => (.inl (29, [(2, .inl t2), (0, .inr (.inr x0)), (1, .inl x1)], []) : mC)) (fun t2 => ?_) m_F 0) (fun t3 => ?_)
    · refine sm_iload_n (i := 2) (j := 0) (pc' := 30) d_M_throughBy_29 rfl rfl rfl (sm_iload_n (i := 1) (j := 2) (pc' := 31) d_M_throughBy_30 rfl rfl rfl ?_)
      refine sm_icmp_ge (tgt := 44) (pc' := 34) d_M_throughBy_31 rfl rfl ?_ ?_
      · refine sm_sub [1] rfl ?_
        exact sm_rt rfl
      · refine sm_aload_n (i := 0) (j := 1) (pc' := 35) d_M_throughBy_34 rfl rfl rfl ?_
        refine sm_callVv (ci := 11) (x := x0) (av := []) (st := []) (mc := 0) (ms := 0) (pc' := 38) d_M_throughBy_35 rfl (sd_M_goesYear x0) m_lv rfl cv_M_goesYear w_ml_M_386 rfl rfl (by decide) (Nat.le_of_ble_eq_true rfl) rfl rfl ?_
        refine sm_iinc (j := 0) (L' := [(2, .inl (t2 + 1)), (0, .inr (.inr x0)), (1, .inl x1)]) (pc' := 41) d_M_throughBy_38 rfl (v := (t2 + 1)) rfl (ix_1 _) (Nat.le_of_ble_eq_true rfl) rfl (sm_goto (tgt := 29) d_M_throughBy_41 rfl (sm_sub [0, 1, 2] rfl ?_))
        exact sm_rt rfl
    · refine sm_aload_n (i := 0) (j := 0) (pc' := 45) d_M_throughBy_44 rfl rfl rfl ?_
      refine sm_callVi (ci := 11) (x := x0) (av := []) (st := []) (mc := 0) (ms := 0) (pc' := 48) d_M_throughBy_45 rfl (sd_M_throughs x0) m_lv rfl cv_M_throughs w_ml_M_340 rfl rfl (by decide) (Nat.le_of_ble_eq_true rfl) rfl rfl (fun v4 => ?_)
      refine sm_istore_n (i := 2) (L' := [(2, .inl v4), (0, .inr (.inr x0))]) (pc' := 49) d_M_throughBy_48 rfl rfl (Nat.le_of_ble_eq_true rfl) rfl (sm_aload_n (i := 0) (j := 1) (pc' := 50) d_M_throughBy_49 rfl rfl rfl ?_)
      refine sm_callVv (ci := 11) (x := x0) (av := []) (st := []) (mc := 0) (ms := 0) (pc' := 53) d_M_throughBy_50 rfl (sd_M_gives x0) m_lv rfl cv_M_gives w_ml_M_418 rfl rfl (by decide) (Nat.le_of_ble_eq_true rfl) rfl rfl ?_
      refine sm_iload_n (i := 2) (j := 0) (pc' := 54) d_M_throughBy_53 rfl rfl rfl ?_
      exact sm_ireturn d_M_throughBy_54 rfl rfl
  · refine sm_aload_n (i := 0) (j := 0) (pc' := 18) d_M_throughBy_17 rfl rfl rfl (sm_iconst (pc' := 19) d_M_throughBy_18 rfl ic_5 ?_)
    refine sm_callVi (ci := 11) (x := x0) (av := [.inl 5]) (st := []) (mc := 0) (ms := 0) (pc' := 22) d_M_throughBy_19 rfl (sd_M_refuse x0 5) m_lv rfl cv_M_refuse w_ml_M_331 rfl rfl (by decide) (Nat.le_of_ble_eq_true rfl) rfl rfl (fun v5 => ?_)
    exact sm_ireturn d_M_throughBy_22 rfl rfl
theorem d_M_showsIn_0 : m_D k_M_showsIn 0 (.aload_n 0) 1 := (by decide +kernel : decode prog_14_method_112_code 0 = .ok (.aload_n 0, 1))
theorem d_M_showsIn_1 : m_D k_M_showsIn 1 (.iconst 0) 1 := (by decide +kernel : decode prog_14_method_112_code 1 = .ok (.iconst 0, 1))
theorem d_M_showsIn_2 : m_D k_M_showsIn 2 (.putfield 81) 3 := (by decide +kernel : decode prog_14_method_112_code 2 = .ok (.putfield 81, 3))
theorem d_M_showsIn_5 : m_D k_M_showsIn 5 (.aload_n 0) 1 := (by decide +kernel : decode prog_14_method_112_code 5 = .ok (.aload_n 0, 1))
theorem d_M_showsIn_6 : m_D k_M_showsIn 6 (.iconst 0) 1 := (by decide +kernel : decode prog_14_method_112_code 6 = .ok (.iconst 0, 1))
theorem d_M_showsIn_7 : m_D k_M_showsIn 7 (.putfield 84) 3 := (by decide +kernel : decode prog_14_method_112_code 7 = .ok (.putfield 84, 3))
theorem d_M_showsIn_10 : m_D k_M_showsIn 10 (.aload_n 0) 1 := (by decide +kernel : decode prog_14_method_112_code 10 = .ok (.aload_n 0, 1))
theorem d_M_showsIn_11 : m_D k_M_showsIn 11 (.iload_n 1) 1 := (by decide +kernel : decode prog_14_method_112_code 11 = .ok (.iload_n 1, 1))
theorem d_M_showsIn_12 : m_D k_M_showsIn 12 (.invokevirtual 349) 3 := (by decide +kernel : decode prog_14_method_112_code 12 = .ok (.invokevirtual 349, 3))
theorem d_M_showsIn_15 : m_D k_M_showsIn 15 (.ifCond .ne 9) 3 := (by decide +kernel : decode prog_14_method_112_code 15 = .ok (.ifCond .ne 9, 3))
theorem d_M_showsIn_18 : m_D k_M_showsIn 18 (.aload_n 0) 1 := (by decide +kernel : decode prog_14_method_112_code 18 = .ok (.aload_n 0, 1))
theorem d_M_showsIn_19 : m_D k_M_showsIn 19 (.iconst 2) 1 := (by decide +kernel : decode prog_14_method_112_code 19 = .ok (.iconst 2, 1))
theorem d_M_showsIn_20 : m_D k_M_showsIn 20 (.invokevirtual 331) 3 := (by decide +kernel : decode prog_14_method_112_code 20 = .ok (.invokevirtual 331, 3))
theorem d_M_showsIn_23 : m_D k_M_showsIn 23 (.ireturn) 1 := (by decide +kernel : decode prog_14_method_112_code 23 = .ok (.ireturn, 1))
theorem d_M_showsIn_24 : m_D k_M_showsIn 24 (.iconst (-1)) 1 := (by decide +kernel : decode prog_14_method_112_code 24 = .ok (.iconst (-1), 1))
theorem d_M_showsIn_25 : m_D k_M_showsIn 25 (.istore_n 2) 1 := (by decide +kernel : decode prog_14_method_112_code 25 = .ok (.istore_n 2, 1))
theorem d_M_showsIn_26 : m_D k_M_showsIn 26 (.aload_n 0) 1 := (by decide +kernel : decode prog_14_method_112_code 26 = .ok (.aload_n 0, 1))
theorem d_M_showsIn_27 : m_D k_M_showsIn 27 (.invokevirtual 415) 3 := (by decide +kernel : decode prog_14_method_112_code 27 = .ok (.invokevirtual 415, 3))
theorem d_M_showsIn_30 : m_D k_M_showsIn 30 (.iconst 0) 1 := (by decide +kernel : decode prog_14_method_112_code 30 = .ok (.iconst 0, 1))
theorem d_M_showsIn_31 : m_D k_M_showsIn 31 (.istore_n 3) 1 := (by decide +kernel : decode prog_14_method_112_code 31 = .ok (.istore_n 3, 1))
theorem d_M_showsIn_32 : m_D k_M_showsIn 32 (.iload_n 3) 1 := (by decide +kernel : decode prog_14_method_112_code 32 = .ok (.iload_n 3, 1))
theorem d_M_showsIn_33 : m_D k_M_showsIn 33 (.sipush 200) 3 := (by decide +kernel : decode prog_14_method_112_code 33 = .ok (.sipush 200, 3))
theorem d_M_showsIn_36 : m_D k_M_showsIn 36 (.if_icmp .gt 27) 3 := (by decide +kernel : decode prog_14_method_112_code 36 = .ok (.if_icmp .gt 27, 3))
theorem d_M_showsIn_39 : m_D k_M_showsIn 39 (.iload_n 2) 1 := (by decide +kernel : decode prog_14_method_112_code 39 = .ok (.iload_n 2, 1))
theorem d_M_showsIn_40 : m_D k_M_showsIn 40 (.ifCond .ge 23) 3 := (by decide +kernel : decode prog_14_method_112_code 40 = .ok (.ifCond .ge 23, 3))
theorem d_M_showsIn_43 : m_D k_M_showsIn 43 (.aload_n 0) 1 := (by decide +kernel : decode prog_14_method_112_code 43 = .ok (.aload_n 0, 1))
theorem d_M_showsIn_44 : m_D k_M_showsIn 44 (.iload_n 1) 1 := (by decide +kernel : decode prog_14_method_112_code 44 = .ok (.iload_n 1, 1))
theorem d_M_showsIn_45 : m_D k_M_showsIn 45 (.invokevirtual 313) 3 := (by decide +kernel : decode prog_14_method_112_code 45 = .ok (.invokevirtual 313, 3))
theorem d_M_showsIn_48 : m_D k_M_showsIn 48 (.ifCond .eq 5) 3 := (by decide +kernel : decode prog_14_method_112_code 48 = .ok (.ifCond .eq 5, 3))
theorem d_M_showsIn_51 : m_D k_M_showsIn 51 (.iload_n 3) 1 := (by decide +kernel : decode prog_14_method_112_code 51 = .ok (.iload_n 3, 1))
theorem d_M_showsIn_52 : m_D k_M_showsIn 52 (.istore_n 2) 1 := (by decide +kernel : decode prog_14_method_112_code 52 = .ok (.istore_n 2, 1))
theorem d_M_showsIn_53 : m_D k_M_showsIn 53 (.aload_n 0) 1 := (by decide +kernel : decode prog_14_method_112_code 53 = .ok (.aload_n 0, 1))
theorem d_M_showsIn_54 : m_D k_M_showsIn 54 (.invokevirtual 386) 3 := (by decide +kernel : decode prog_14_method_112_code 54 = .ok (.invokevirtual 386, 3))
theorem d_M_showsIn_57 : m_D k_M_showsIn 57 (.iinc 3 1) 3 := (by decide +kernel : decode prog_14_method_112_code 57 = .ok (.iinc 3 1, 3))
theorem d_M_showsIn_60 : m_D k_M_showsIn 60 (.goto (-28)) 3 := (by decide +kernel : decode prog_14_method_112_code 60 = .ok (.goto (-28), 3))
theorem d_M_showsIn_63 : m_D k_M_showsIn 63 (.aload_n 0) 1 := (by decide +kernel : decode prog_14_method_112_code 63 = .ok (.aload_n 0, 1))
theorem d_M_showsIn_64 : m_D k_M_showsIn 64 (.invokevirtual 418) 3 := (by decide +kernel : decode prog_14_method_112_code 64 = .ok (.invokevirtual 418, 3))
theorem d_M_showsIn_67 : m_D k_M_showsIn 67 (.iload_n 2) 1 := (by decide +kernel : decode prog_14_method_112_code 67 = .ok (.iload_n 2, 1))
theorem d_M_showsIn_68 : m_D k_M_showsIn 68 (.ifCond .ge 12) 3 := (by decide +kernel : decode prog_14_method_112_code 68 = .ok (.ifCond .ge 12, 3))
theorem d_M_showsIn_71 : m_D k_M_showsIn 71 (.aload_n 0) 1 := (by decide +kernel : decode prog_14_method_112_code 71 = .ok (.aload_n 0, 1))
theorem d_M_showsIn_72 : m_D k_M_showsIn 72 (.bipush 8) 2 := (by decide +kernel : decode prog_14_method_112_code 72 = .ok (.bipush 8, 2))
theorem d_M_showsIn_74 : m_D k_M_showsIn 74 (.invokevirtual 331) 3 := (by decide +kernel : decode prog_14_method_112_code 74 = .ok (.invokevirtual 331, 3))
theorem d_M_showsIn_77 : m_D k_M_showsIn 77 (.goto 4) 3 := (by decide +kernel : decode prog_14_method_112_code 77 = .ok (.goto 4, 3))
theorem d_M_showsIn_80 : m_D k_M_showsIn 80 (.iload_n 2) 1 := (by decide +kernel : decode prog_14_method_112_code 80 = .ok (.iload_n 2, 1))
theorem d_M_showsIn_81 : m_D k_M_showsIn 81 (.ireturn) 1 := (by decide +kernel : decode prog_14_method_112_code 81 = .ok (.ireturn, 1))
def fn_M_showsIn_l32 (x0 : Option mA) (x1 : Int32) (t2 : Int32 × Int32) : mP ((Int32 × Int32) ⊕ (Int32)) :=
  if 200 < t2.2 then
    m_rt (.inr t2.1)
  else
    if 0 ≤ t2.1 then
      m_rt (.inr t2.1)
    else
      m_bd (fn_M_showsNow x0 x1) fun v3 =>
      m_bd (α := Int32) (
        if v3 = 0 then
          m_rt t2.1
        else
          m_rt t2.2
        ) fun (t4 : Int32) =>
      m_bd (fn_M_goesYear x0) fun _ =>
      m_rt (.inl (t4, (t2.2 + 1)))
def fn_M_showsIn (x0 : Option mA) (x1 : Int32) : mP Int32 :=
  m_th 11 x0 <|
  m_bd (m_pI 11 1 x0 0) fun _ =>
  m_bd (m_pI 11 0 x0 0) fun _ =>
  m_bd (fn_M_isPersonAt x0 x1) fun v1 =>
  if v1 = 0 then
    m_bd (fn_M_refuse x0 2) fun v7 =>
    m_rt v7
  else
    m_bd (fn_M_puts x0) fun _ =>
    m_bd (m_lp (fn_M_showsIn_l32 x0 x1) m_F ((-1), 0)) fun (t5 : Int32) =>
    m_bd (fn_M_gives x0) fun _ =>
    if 0 ≤ t5 then
      m_rt t5
    else
      m_bd (fn_M_refuse x0 8) fun v6 =>
      m_rt v6
set_option maxHeartbeats 4000000 in
set_option maxRecDepth 100000 in
theorem sd_M_showsIn (x0 : Option mA) (x1 : Int32) : m_Sm k_M_showsIn 5 0 0 [.inr (.inr x0), .inl x1] (fn_M_showsIn x0 x1) (fun b => some (.inl b)) := by
  refine ⟨Nat.le_of_ble_eq_true rfl, ?_⟩
  refine sm_th ?_
  refine sm_aload_n (i := 0) (j := 0) (pc' := 1) d_M_showsIn_0 rfl rfl rfl (sm_iconst (pc' := 2) d_M_showsIn_1 rfl ic_0 (sm_putI (pc' := 5) d_M_showsIn_2 rfl fl_M_81 (Or.inl rfl) rfl (sm_aload_n (i := 0) (j := 0) (pc' := 6) d_M_showsIn_5 rfl rfl rfl (sm_iconst (pc' := 7) d_M_showsIn_6 rfl ic_0 (sm_putI (pc' := 10) d_M_showsIn_7 rfl fl_M_84 (Or.inl rfl) rfl (sm_aload_n (i := 0) (j := 0) (pc' := 11) d_M_showsIn_10 rfl rfl rfl (sm_iload_n (i := 1) (j := 1) (pc' := 12) d_M_showsIn_11 rfl rfl rfl ?_)))))))
  refine sm_callVi (ci := 11) (x := x0) (av := [.inl x1]) (st := []) (mc := 0) (ms := 0) (pc' := 15) d_M_showsIn_12 rfl (sd_M_isPersonAt x0 x1) m_lv rfl cv_M_isPersonAt w_ml_M_349 rfl rfl (by decide) (Nat.le_of_ble_eq_true rfl) rfl rfl (fun v1 => ?_)
  refine sm_if_ne (tgt := 24) (pc' := 18) d_M_showsIn_15 rfl rfl ?_ ?_
  · refine sm_iconst (pc' := 25) d_M_showsIn_24 rfl ic_m1 (sm_istore_n (i := 2) (L' := [(2, .inl (-1)), (0, .inr (.inr x0)), (1, .inl x1)]) (pc' := 26) d_M_showsIn_25 rfl rfl (Nat.le_of_ble_eq_true rfl) rfl (sm_aload_n (i := 0) (j := 1) (pc' := 27) d_M_showsIn_26 rfl rfl rfl ?_))
    refine sm_callVv (ci := 11) (x := x0) (av := []) (st := []) (mc := 0) (ms := 0) (pc' := 30) d_M_showsIn_27 rfl (sd_M_puts x0) m_lv rfl cv_M_puts w_ml_M_415 rfl rfl (by decide) (Nat.le_of_ble_eq_true rfl) rfl rfl ?_
    refine sm_iconst (pc' := 31) d_M_showsIn_30 rfl ic_0 (sm_istore_n (i := 3) (L' := [(3, .inl 0), (2, .inl (-1)), (0, .inr (.inr x0)), (1, .inl x1)]) (pc' := 32) d_M_showsIn_31 rfl rfl (Nat.le_of_ble_eq_true rfl) rfl ?_)
    refine sm_sub [1, 0, 2, 3] rfl ?_
    refine sm_bd (mid := fun (t5 : Int32) => .inl (63, [(2, .inl t5), (0, .inr (.inr x0))], [])) (sm_lp (hd := fun (t2 : Int32 × Int32) => (.inl (32, [(2, .inl t2.1), (3, .inl t2.2), (0, .inr (.inr x0)), (1, .inl x1)], []) : mC)) (fun t2 => ?_) m_F ((-1), 0)) (fun t5 => ?_)
    · refine sm_iload_n (i := 3) (j := 1) (pc' := 33) d_M_showsIn_32 rfl rfl rfl (sm_sipush (pc' := 36) d_M_showsIn_33 rfl is_200 ?_)
      refine sm_icmp_gt (tgt := 63) (pc' := 39) d_M_showsIn_36 rfl rfl ?_ ?_
      · refine sm_sub [0, 2] rfl ?_
        exact sm_rt rfl
      · refine sm_iload_n (i := 2) (j := 0) (pc' := 40) d_M_showsIn_39 rfl rfl rfl ?_
        refine sm_if_ge (tgt := 63) (pc' := 43) d_M_showsIn_40 rfl rfl ?_ ?_
        · refine sm_sub [0, 2] rfl ?_
          exact sm_rt rfl
        · refine sm_aload_n (i := 0) (j := 2) (pc' := 44) d_M_showsIn_43 rfl rfl rfl (sm_iload_n (i := 1) (j := 3) (pc' := 45) d_M_showsIn_44 rfl rfl rfl ?_)
          refine sm_callVi (ci := 11) (x := x0) (av := [.inl x1]) (st := []) (mc := 0) (ms := 0) (pc' := 48) d_M_showsIn_45 rfl (sd_M_showsNow x0 x1) m_lv rfl cv_M_showsNow w_ml_M_313 rfl rfl (by decide) (Nat.le_of_ble_eq_true rfl) rfl rfl (fun v3 => ?_)
          refine sm_bd (mid := fun (t4 : Int32) => .inl (53, [(0, .inr (.inr x0)), (1, .inl x1), (2, .inl t4), (3, .inl t2.2)], [])) ?_ (fun t4 => ?_)
          · refine sm_if_eq (tgt := 53) (pc' := 51) d_M_showsIn_48 rfl rfl ?_ ?_
            · refine sm_sub [2, 3, 0, 1] rfl ?_
              exact sm_rt rfl
            · refine sm_iload_n (i := 3) (j := 1) (pc' := 52) d_M_showsIn_51 rfl rfl rfl (sm_istore_n (i := 2) (L' := [(2, .inl t2.2), (3, .inl t2.2), (0, .inr (.inr x0)), (1, .inl x1)]) (pc' := 53) d_M_showsIn_52 rfl rfl (Nat.le_of_ble_eq_true rfl) rfl (sm_sub [2, 3, 0, 1] rfl ?_))
              exact sm_rt rfl
          · refine sm_aload_n (i := 0) (j := 0) (pc' := 54) d_M_showsIn_53 rfl rfl rfl ?_
            refine sm_callVv (ci := 11) (x := x0) (av := []) (st := []) (mc := 0) (ms := 0) (pc' := 57) d_M_showsIn_54 rfl (sd_M_goesYear x0) m_lv rfl cv_M_goesYear w_ml_M_386 rfl rfl (by decide) (Nat.le_of_ble_eq_true rfl) rfl rfl ?_
            refine sm_iinc (j := 3) (L' := [(3, .inl (t2.2 + 1)), (0, .inr (.inr x0)), (1, .inl x1), (2, .inl t4)]) (pc' := 60) d_M_showsIn_57 rfl (v := (t2.2 + 1)) rfl (ix_1 _) (Nat.le_of_ble_eq_true rfl) rfl (sm_goto (tgt := 32) d_M_showsIn_60 rfl (sm_sub [3, 0, 1, 2] rfl ?_))
            exact sm_rt rfl
    · refine sm_aload_n (i := 0) (j := 1) (pc' := 64) d_M_showsIn_63 rfl rfl rfl ?_
      refine sm_callVv (ci := 11) (x := x0) (av := []) (st := []) (mc := 0) (ms := 0) (pc' := 67) d_M_showsIn_64 rfl (sd_M_gives x0) m_lv rfl cv_M_gives w_ml_M_418 rfl rfl (by decide) (Nat.le_of_ble_eq_true rfl) rfl rfl ?_
      refine sm_iload_n (i := 2) (j := 0) (pc' := 68) d_M_showsIn_67 rfl rfl rfl ?_
      refine sm_if_ge (tgt := 80) (pc' := 71) d_M_showsIn_68 rfl rfl ?_ ?_
      · refine sm_iload_n (i := 2) (j := 0) (pc' := 81) d_M_showsIn_80 rfl rfl rfl ?_
        exact sm_ireturn d_M_showsIn_81 rfl rfl
      · refine sm_aload_n (i := 0) (j := 1) (pc' := 72) d_M_showsIn_71 rfl rfl rfl (sm_bipush (pc' := 74) d_M_showsIn_72 rfl ib_8 ?_)
        refine sm_callVi (ci := 11) (x := x0) (av := [.inl 8]) (st := []) (mc := 0) (ms := 0) (pc' := 77) d_M_showsIn_74 rfl (sd_M_refuse x0 8) m_lv rfl cv_M_refuse w_ml_M_331 rfl rfl (by decide) (Nat.le_of_ble_eq_true rfl) rfl rfl (fun v6 => ?_)
        refine sm_goto (tgt := 81) d_M_showsIn_77 rfl ?_
        exact sm_ireturn d_M_showsIn_81 rfl rfl
  · refine sm_aload_n (i := 0) (j := 0) (pc' := 19) d_M_showsIn_18 rfl rfl rfl (sm_iconst (pc' := 20) d_M_showsIn_19 rfl ic_2 ?_)
    refine sm_callVi (ci := 11) (x := x0) (av := [.inl 2]) (st := []) (mc := 0) (ms := 0) (pc' := 23) d_M_showsIn_20 rfl (sd_M_refuse x0 2) m_lv rfl cv_M_refuse w_ml_M_331 rfl rfl (by decide) (Nat.le_of_ble_eq_true rfl) rfl rfl (fun v7 => ?_)
    exact sm_ireturn d_M_showsIn_23 rfl rfl
theorem d_M_diesIn_0 : m_D k_M_diesIn 0 (.aload_n 0) 1 := (by decide +kernel : decode prog_14_method_113_code 0 = .ok (.aload_n 0, 1))
theorem d_M_diesIn_1 : m_D k_M_diesIn 1 (.iconst 0) 1 := (by decide +kernel : decode prog_14_method_113_code 1 = .ok (.iconst 0, 1))
theorem d_M_diesIn_2 : m_D k_M_diesIn 2 (.putfield 81) 3 := (by decide +kernel : decode prog_14_method_113_code 2 = .ok (.putfield 81, 3))
theorem d_M_diesIn_5 : m_D k_M_diesIn 5 (.aload_n 0) 1 := (by decide +kernel : decode prog_14_method_113_code 5 = .ok (.aload_n 0, 1))
theorem d_M_diesIn_6 : m_D k_M_diesIn 6 (.iconst 0) 1 := (by decide +kernel : decode prog_14_method_113_code 6 = .ok (.iconst 0, 1))
theorem d_M_diesIn_7 : m_D k_M_diesIn 7 (.putfield 84) 3 := (by decide +kernel : decode prog_14_method_113_code 7 = .ok (.putfield 84, 3))
theorem d_M_diesIn_10 : m_D k_M_diesIn 10 (.aload_n 0) 1 := (by decide +kernel : decode prog_14_method_113_code 10 = .ok (.aload_n 0, 1))
theorem d_M_diesIn_11 : m_D k_M_diesIn 11 (.iload_n 1) 1 := (by decide +kernel : decode prog_14_method_113_code 11 = .ok (.iload_n 1, 1))
theorem d_M_diesIn_12 : m_D k_M_diesIn 12 (.invokevirtual 349) 3 := (by decide +kernel : decode prog_14_method_113_code 12 = .ok (.invokevirtual 349, 3))
theorem d_M_diesIn_15 : m_D k_M_diesIn 15 (.ifCond .ne 9) 3 := (by decide +kernel : decode prog_14_method_113_code 15 = .ok (.ifCond .ne 9, 3))
theorem d_M_diesIn_18 : m_D k_M_diesIn 18 (.aload_n 0) 1 := (by decide +kernel : decode prog_14_method_113_code 18 = .ok (.aload_n 0, 1))
theorem d_M_diesIn_19 : m_D k_M_diesIn 19 (.iconst 2) 1 := (by decide +kernel : decode prog_14_method_113_code 19 = .ok (.iconst 2, 1))
theorem d_M_diesIn_20 : m_D k_M_diesIn 20 (.invokevirtual 331) 3 := (by decide +kernel : decode prog_14_method_113_code 20 = .ok (.invokevirtual 331, 3))
theorem d_M_diesIn_23 : m_D k_M_diesIn 23 (.ireturn) 1 := (by decide +kernel : decode prog_14_method_113_code 23 = .ok (.ireturn, 1))
theorem d_M_diesIn_24 : m_D k_M_diesIn 24 (.aload_n 0) 1 := (by decide +kernel : decode prog_14_method_113_code 24 = .ok (.aload_n 0, 1))
theorem d_M_diesIn_25 : m_D k_M_diesIn 25 (.getfield 35) 3 := (by decide +kernel : decode prog_14_method_113_code 25 = .ok (.getfield 35, 3))
theorem d_M_diesIn_28 : m_D k_M_diesIn 28 (.bipush 19) 2 := (by decide +kernel : decode prog_14_method_113_code 28 = .ok (.bipush 19, 2))
theorem d_M_diesIn_30 : m_D k_M_diesIn 30 (.iload_n 1) 1 := (by decide +kernel : decode prog_14_method_113_code 30 = .ok (.iload_n 1, 1))
theorem d_M_diesIn_31 : m_D k_M_diesIn 31 (.iadd) 1 := (by decide +kernel : decode prog_14_method_113_code 31 = .ok (.iadd, 1))
theorem d_M_diesIn_32 : m_D k_M_diesIn 32 (.iaload) 1 := (by decide +kernel : decode prog_14_method_113_code 32 = .ok (.iaload, 1))
theorem d_M_diesIn_33 : m_D k_M_diesIn 33 (.ifCond .ne 12) 3 := (by decide +kernel : decode prog_14_method_113_code 33 = .ok (.ifCond .ne 12, 3))
theorem d_M_diesIn_36 : m_D k_M_diesIn 36 (.aload_n 0) 1 := (by decide +kernel : decode prog_14_method_113_code 36 = .ok (.aload_n 0, 1))
theorem d_M_diesIn_37 : m_D k_M_diesIn 37 (.bipush 8) 2 := (by decide +kernel : decode prog_14_method_113_code 37 = .ok (.bipush 8, 2))
theorem d_M_diesIn_39 : m_D k_M_diesIn 39 (.invokevirtual 331) 3 := (by decide +kernel : decode prog_14_method_113_code 39 = .ok (.invokevirtual 331, 3))
theorem d_M_diesIn_42 : m_D k_M_diesIn 42 (.goto 23) 3 := (by decide +kernel : decode prog_14_method_113_code 42 = .ok (.goto 23, 3))
theorem d_M_diesIn_45 : m_D k_M_diesIn 45 (.iconst 1) 1 := (by decide +kernel : decode prog_14_method_113_code 45 = .ok (.iconst 1, 1))
theorem d_M_diesIn_46 : m_D k_M_diesIn 46 (.aload_n 0) 1 := (by decide +kernel : decode prog_14_method_113_code 46 = .ok (.aload_n 0, 1))
theorem d_M_diesIn_47 : m_D k_M_diesIn 47 (.getfield 35) 3 := (by decide +kernel : decode prog_14_method_113_code 47 = .ok (.getfield 35, 3))
theorem d_M_diesIn_50 : m_D k_M_diesIn 50 (.iconst 3) 1 := (by decide +kernel : decode prog_14_method_113_code 50 = .ok (.iconst 3, 1))
theorem d_M_diesIn_51 : m_D k_M_diesIn 51 (.iaload) 1 := (by decide +kernel : decode prog_14_method_113_code 51 = .ok (.iaload, 1))
theorem d_M_diesIn_52 : m_D k_M_diesIn 52 (.aload_n 0) 1 := (by decide +kernel : decode prog_14_method_113_code 52 = .ok (.aload_n 0, 1))
theorem d_M_diesIn_53 : m_D k_M_diesIn 53 (.getfield 35) 3 := (by decide +kernel : decode prog_14_method_113_code 53 = .ok (.getfield 35, 3))
theorem d_M_diesIn_56 : m_D k_M_diesIn 56 (.bipush 7) 2 := (by decide +kernel : decode prog_14_method_113_code 56 = .ok (.bipush 7, 2))
theorem d_M_diesIn_58 : m_D k_M_diesIn 58 (.iload_n 1) 1 := (by decide +kernel : decode prog_14_method_113_code 58 = .ok (.iload_n 1, 1))
theorem d_M_diesIn_59 : m_D k_M_diesIn 59 (.iadd) 1 := (by decide +kernel : decode prog_14_method_113_code 59 = .ok (.iadd, 1))
theorem d_M_diesIn_60 : m_D k_M_diesIn 60 (.iaload) 1 := (by decide +kernel : decode prog_14_method_113_code 60 = .ok (.iaload, 1))
theorem d_M_diesIn_61 : m_D k_M_diesIn 61 (.isub) 1 := (by decide +kernel : decode prog_14_method_113_code 61 = .ok (.isub, 1))
theorem d_M_diesIn_62 : m_D k_M_diesIn 62 (.invokestatic 253) 3 := (by decide +kernel : decode prog_14_method_113_code 62 = .ok (.invokestatic 253, 3))
theorem d_M_diesIn_65 : m_D k_M_diesIn 65 (.ireturn) 1 := (by decide +kernel : decode prog_14_method_113_code 65 = .ok (.ireturn, 1))
def fn_M_diesIn (x0 : Option mA) (x1 : Int32) : mP Int32 :=
  m_th 11 x0 <|
  m_bd (m_pI 11 1 x0 0) fun _ =>
  m_bd (m_pI 11 0 x0 0) fun _ =>
  m_bd (fn_M_isPersonAt x0 x1) fun v1 =>
  if v1 = 0 then
    m_bd (fn_M_refuse x0 2) fun v9 =>
    m_rt v9
  else
    m_bd (m_gR 11 20 x0) fun v2 =>
    m_bd (m_aI 0 v2 (19 + x1)) fun v3 =>
    if v3 = 0 then
      m_bd (fn_M_refuse x0 8) fun v8 =>
      m_rt v8
    else
      m_bd (m_gR 11 20 x0) fun v4 =>
      m_bd (m_aI 0 v4 3) fun v5 =>
      m_bd (m_gR 11 20 x0) fun v6 =>
      m_bd (m_aI 0 v6 (7 + x1)) fun v7 =>
      m_rt (iMax 1 (v5 - v7))
set_option maxHeartbeats 4000000 in
set_option maxRecDepth 100000 in
theorem sd_M_diesIn (x0 : Option mA) (x1 : Int32) : m_Sm k_M_diesIn 3 0 0 [.inr (.inr x0), .inl x1] (fn_M_diesIn x0 x1) (fun b => some (.inl b)) := by
  refine ⟨Nat.le_of_ble_eq_true rfl, ?_⟩
  refine sm_th ?_
  refine sm_aload_n (i := 0) (j := 0) (pc' := 1) d_M_diesIn_0 rfl rfl rfl (sm_iconst (pc' := 2) d_M_diesIn_1 rfl ic_0 (sm_putI (pc' := 5) d_M_diesIn_2 rfl fl_M_81 (Or.inl rfl) rfl (sm_aload_n (i := 0) (j := 0) (pc' := 6) d_M_diesIn_5 rfl rfl rfl (sm_iconst (pc' := 7) d_M_diesIn_6 rfl ic_0 (sm_putI (pc' := 10) d_M_diesIn_7 rfl fl_M_84 (Or.inl rfl) rfl (sm_aload_n (i := 0) (j := 0) (pc' := 11) d_M_diesIn_10 rfl rfl rfl (sm_iload_n (i := 1) (j := 1) (pc' := 12) d_M_diesIn_11 rfl rfl rfl ?_)))))))
  refine sm_callVi (ci := 11) (x := x0) (av := [.inl x1]) (st := []) (mc := 0) (ms := 0) (pc' := 15) d_M_diesIn_12 rfl (sd_M_isPersonAt x0 x1) m_lv rfl cv_M_isPersonAt w_ml_M_349 rfl rfl (by decide) (Nat.le_of_ble_eq_true rfl) rfl rfl (fun v1 => ?_)
  refine sm_if_ne (tgt := 24) (pc' := 18) d_M_diesIn_15 rfl rfl ?_ ?_
  · refine sm_aload_n (i := 0) (j := 0) (pc' := 25) d_M_diesIn_24 rfl rfl rfl ?_
    refine sm_getR (pc' := 28) d_M_diesIn_25 rfl fl_M_35 rfl rfl (fun v2 => ?_)
    refine sm_bipush (pc' := 30) d_M_diesIn_28 rfl ib_19 (sm_iload_n (i := 1) (j := 1) (pc' := 31) d_M_diesIn_30 rfl rfl rfl (sm_iadd (pc' := 32) d_M_diesIn_31 rfl ?_))
    refine sm_iald (pc' := 33) d_M_diesIn_32 rfl (fun v3 => ?_)
    refine sm_if_ne (tgt := 45) (pc' := 36) d_M_diesIn_33 rfl rfl ?_ ?_
    · refine sm_iconst (pc' := 46) d_M_diesIn_45 rfl ic_1 (sm_aload_n (i := 0) (j := 0) (pc' := 47) d_M_diesIn_46 rfl rfl rfl ?_)
      refine sm_getR (pc' := 50) d_M_diesIn_47 rfl fl_M_35 rfl rfl (fun v4 => ?_)
      refine sm_iconst (pc' := 51) d_M_diesIn_50 rfl ic_3 ?_
      refine sm_iald (pc' := 52) d_M_diesIn_51 rfl (fun v5 => ?_)
      refine sm_aload_n (i := 0) (j := 0) (pc' := 53) d_M_diesIn_52 rfl rfl rfl ?_
      refine sm_getR (pc' := 56) d_M_diesIn_53 rfl fl_M_35 rfl rfl (fun v6 => ?_)
      refine sm_bipush (pc' := 58) d_M_diesIn_56 rfl ib_7 (sm_iload_n (i := 1) (j := 1) (pc' := 59) d_M_diesIn_58 rfl rfl rfl (sm_iadd (pc' := 60) d_M_diesIn_59 rfl ?_))
      refine sm_iald (pc' := 61) d_M_diesIn_60 rfl (fun v7 => ?_)
      refine sm_isub (pc' := 62) d_M_diesIn_61 rfl (sm_mmax (pc' := 65) d_M_diesIn_62 rfl w_ml_M_253 (by decide) (Nat.le_of_ble_eq_true rfl) ?_)
      exact sm_ireturn d_M_diesIn_65 rfl rfl
    · refine sm_aload_n (i := 0) (j := 0) (pc' := 37) d_M_diesIn_36 rfl rfl rfl (sm_bipush (pc' := 39) d_M_diesIn_37 rfl ib_8 ?_)
      refine sm_callVi (ci := 11) (x := x0) (av := [.inl 8]) (st := []) (mc := 0) (ms := 0) (pc' := 42) d_M_diesIn_39 rfl (sd_M_refuse x0 8) m_lv rfl cv_M_refuse w_ml_M_331 rfl rfl (by decide) (Nat.le_of_ble_eq_true rfl) rfl rfl (fun v8 => ?_)
      refine sm_goto (tgt := 65) d_M_diesIn_42 rfl ?_
      exact sm_ireturn d_M_diesIn_65 rfl rfl
  · refine sm_aload_n (i := 0) (j := 0) (pc' := 19) d_M_diesIn_18 rfl rfl rfl (sm_iconst (pc' := 20) d_M_diesIn_19 rfl ic_2 ?_)
    refine sm_callVi (ci := 11) (x := x0) (av := [.inl 2]) (st := []) (mc := 0) (ms := 0) (pc' := 23) d_M_diesIn_20 rfl (sd_M_refuse x0 2) m_lv rfl cv_M_refuse w_ml_M_331 rfl rfl (by decide) (Nat.le_of_ble_eq_true rfl) rfl rfl (fun v9 => ?_)
    exact sm_ireturn d_M_diesIn_23 rfl rfl
theorem d_M_worst_0 : m_D k_M_worst 0 (.aload_n 0) 1 := (by decide +kernel : decode prog_14_method_114_code 0 = .ok (.aload_n 0, 1))
theorem d_M_worst_1 : m_D k_M_worst 1 (.iconst 0) 1 := (by decide +kernel : decode prog_14_method_114_code 1 = .ok (.iconst 0, 1))
theorem d_M_worst_2 : m_D k_M_worst 2 (.putfield 81) 3 := (by decide +kernel : decode prog_14_method_114_code 2 = .ok (.putfield 81, 3))
theorem d_M_worst_5 : m_D k_M_worst 5 (.aload_n 0) 1 := (by decide +kernel : decode prog_14_method_114_code 5 = .ok (.aload_n 0, 1))
theorem d_M_worst_6 : m_D k_M_worst 6 (.iconst 0) 1 := (by decide +kernel : decode prog_14_method_114_code 6 = .ok (.iconst 0, 1))
theorem d_M_worst_7 : m_D k_M_worst 7 (.putfield 84) 3 := (by decide +kernel : decode prog_14_method_114_code 7 = .ok (.putfield 84, 3))
theorem d_M_worst_10 : m_D k_M_worst 10 (.iload_n 1) 1 := (by decide +kernel : decode prog_14_method_114_code 10 = .ok (.iload_n 1, 1))
theorem d_M_worst_11 : m_D k_M_worst 11 (.i2l) 1 := (by decide +kernel : decode prog_14_method_114_code 11 = .ok (.i2l, 1))
theorem d_M_worst_12 : m_D k_M_worst 12 (.lconst 0) 1 := (by decide +kernel : decode prog_14_method_114_code 12 = .ok (.lconst 0, 1))
theorem d_M_worst_13 : m_D k_M_worst 13 (.ldc2_w 427) 3 := (by decide +kernel : decode prog_14_method_114_code 13 = .ok (.ldc2_w 427, 3))
theorem d_M_worst_16 : m_D k_M_worst 16 (.invokestatic 116) 3 := (by decide +kernel : decode prog_14_method_114_code 16 = .ok (.invokestatic 116, 3))
theorem d_M_worst_19 : m_D k_M_worst 19 (.ifCond .ne 9) 3 := (by decide +kernel : decode prog_14_method_114_code 19 = .ok (.ifCond .ne 9, 3))
theorem d_M_worst_22 : m_D k_M_worst 22 (.aload_n 0) 1 := (by decide +kernel : decode prog_14_method_114_code 22 = .ok (.aload_n 0, 1))
theorem d_M_worst_23 : m_D k_M_worst 23 (.iconst 5) 1 := (by decide +kernel : decode prog_14_method_114_code 23 = .ok (.iconst 5, 1))
theorem d_M_worst_24 : m_D k_M_worst 24 (.invokevirtual 331) 3 := (by decide +kernel : decode prog_14_method_114_code 24 = .ok (.invokevirtual 331, 3))
theorem d_M_worst_27 : m_D k_M_worst 27 (.ireturn) 1 := (by decide +kernel : decode prog_14_method_114_code 27 = .ok (.ireturn, 1))
theorem d_M_worst_28 : m_D k_M_worst 28 (.iconst (-1)) 1 := (by decide +kernel : decode prog_14_method_114_code 28 = .ok (.iconst (-1), 1))
theorem d_M_worst_29 : m_D k_M_worst 29 (.istore_n 2) 1 := (by decide +kernel : decode prog_14_method_114_code 29 = .ok (.istore_n 2, 1))
theorem d_M_worst_30 : m_D k_M_worst 30 (.iconst 0) 1 := (by decide +kernel : decode prog_14_method_114_code 30 = .ok (.iconst 0, 1))
theorem d_M_worst_31 : m_D k_M_worst 31 (.istore_n 3) 1 := (by decide +kernel : decode prog_14_method_114_code 31 = .ok (.istore_n 3, 1))
theorem d_M_worst_32 : m_D k_M_worst 32 (.aload_n 0) 1 := (by decide +kernel : decode prog_14_method_114_code 32 = .ok (.aload_n 0, 1))
theorem d_M_worst_33 : m_D k_M_worst 33 (.invokevirtual 415) 3 := (by decide +kernel : decode prog_14_method_114_code 33 = .ok (.invokevirtual 415, 3))
theorem d_M_worst_36 : m_D k_M_worst 36 (.iconst 0) 1 := (by decide +kernel : decode prog_14_method_114_code 36 = .ok (.iconst 0, 1))
theorem d_M_worst_37 : m_D k_M_worst 37 (.istore 4) 2 := (by decide +kernel : decode prog_14_method_114_code 37 = .ok (.istore 4, 2))
theorem d_M_worst_39 : m_D k_M_worst 39 (.iload 4) 2 := (by decide +kernel : decode prog_14_method_114_code 39 = .ok (.iload 4, 2))
theorem d_M_worst_41 : m_D k_M_worst 41 (.aload_n 0) 1 := (by decide +kernel : decode prog_14_method_114_code 41 = .ok (.aload_n 0, 1))
theorem d_M_worst_42 : m_D k_M_worst 42 (.getfield 35) 3 := (by decide +kernel : decode prog_14_method_114_code 42 = .ok (.getfield 35, 3))
theorem d_M_worst_45 : m_D k_M_worst 45 (.iconst 0) 1 := (by decide +kernel : decode prog_14_method_114_code 45 = .ok (.iconst 0, 1))
theorem d_M_worst_46 : m_D k_M_worst 46 (.iaload) 1 := (by decide +kernel : decode prog_14_method_114_code 46 = .ok (.iaload, 1))
theorem d_M_worst_47 : m_D k_M_worst 47 (.if_icmp .ge 90) 3 := (by decide +kernel : decode prog_14_method_114_code 47 = .ok (.if_icmp .ge 90, 3))
theorem d_M_worst_50 : m_D k_M_worst 50 (.iconst 0) 1 := (by decide +kernel : decode prog_14_method_114_code 50 = .ok (.iconst 0, 1))
theorem d_M_worst_51 : m_D k_M_worst 51 (.istore 5) 2 := (by decide +kernel : decode prog_14_method_114_code 51 = .ok (.istore 5, 2))
theorem d_M_worst_53 : m_D k_M_worst 53 (.iload 5) 2 := (by decide +kernel : decode prog_14_method_114_code 53 = .ok (.iload 5, 2))
theorem d_M_worst_55 : m_D k_M_worst 55 (.bipush 8) 2 := (by decide +kernel : decode prog_14_method_114_code 55 = .ok (.bipush 8, 2))
theorem d_M_worst_57 : m_D k_M_worst 57 (.if_icmp .ge 26) 3 := (by decide +kernel : decode prog_14_method_114_code 57 = .ok (.if_icmp .ge 26, 3))
theorem d_M_worst_60 : m_D k_M_worst 60 (.aload_n 0) 1 := (by decide +kernel : decode prog_14_method_114_code 60 = .ok (.aload_n 0, 1))
theorem d_M_worst_61 : m_D k_M_worst 61 (.getfield 35) 3 := (by decide +kernel : decode prog_14_method_114_code 61 = .ok (.getfield 35, 3))
theorem d_M_worst_64 : m_D k_M_worst 64 (.bipush 57) 2 := (by decide +kernel : decode prog_14_method_114_code 64 = .ok (.bipush 57, 2))
theorem d_M_worst_66 : m_D k_M_worst 66 (.bipush 8) 2 := (by decide +kernel : decode prog_14_method_114_code 66 = .ok (.bipush 8, 2))
theorem d_M_worst_68 : m_D k_M_worst 68 (.iload 4) 2 := (by decide +kernel : decode prog_14_method_114_code 68 = .ok (.iload 4, 2))
theorem d_M_worst_70 : m_D k_M_worst 70 (.imul) 1 := (by decide +kernel : decode prog_14_method_114_code 70 = .ok (.imul, 1))
theorem d_M_worst_71 : m_D k_M_worst 71 (.iadd) 1 := (by decide +kernel : decode prog_14_method_114_code 71 = .ok (.iadd, 1))
theorem d_M_worst_72 : m_D k_M_worst 72 (.iload 5) 2 := (by decide +kernel : decode prog_14_method_114_code 72 = .ok (.iload 5, 2))
theorem d_M_worst_74 : m_D k_M_worst 74 (.iadd) 1 := (by decide +kernel : decode prog_14_method_114_code 74 = .ok (.iadd, 1))
theorem d_M_worst_75 : m_D k_M_worst 75 (.iconst 0) 1 := (by decide +kernel : decode prog_14_method_114_code 75 = .ok (.iconst 0, 1))
theorem d_M_worst_76 : m_D k_M_worst 76 (.iastore) 1 := (by decide +kernel : decode prog_14_method_114_code 76 = .ok (.iastore, 1))
theorem d_M_worst_77 : m_D k_M_worst 77 (.iinc 5 1) 3 := (by decide +kernel : decode prog_14_method_114_code 77 = .ok (.iinc 5 1, 3))
theorem d_M_worst_80 : m_D k_M_worst 80 (.goto (-27)) 3 := (by decide +kernel : decode prog_14_method_114_code 80 = .ok (.goto (-27), 3))
theorem d_M_worst_83 : m_D k_M_worst 83 (.iconst 0) 1 := (by decide +kernel : decode prog_14_method_114_code 83 = .ok (.iconst 0, 1))
theorem d_M_worst_84 : m_D k_M_worst 84 (.istore 5) 2 := (by decide +kernel : decode prog_14_method_114_code 84 = .ok (.istore 5, 2))
theorem d_M_worst_86 : m_D k_M_worst 86 (.iload 5) 2 := (by decide +kernel : decode prog_14_method_114_code 86 = .ok (.iload 5, 2))
theorem d_M_worst_88 : m_D k_M_worst 88 (.iload_n 1) 1 := (by decide +kernel : decode prog_14_method_114_code 88 = .ok (.iload_n 1, 1))
theorem d_M_worst_89 : m_D k_M_worst 89 (.if_icmp .ge 13) 3 := (by decide +kernel : decode prog_14_method_114_code 89 = .ok (.if_icmp .ge 13, 3))
theorem d_M_worst_92 : m_D k_M_worst 92 (.aload_n 0) 1 := (by decide +kernel : decode prog_14_method_114_code 92 = .ok (.aload_n 0, 1))
theorem d_M_worst_93 : m_D k_M_worst 93 (.invokevirtual 386) 3 := (by decide +kernel : decode prog_14_method_114_code 93 = .ok (.invokevirtual 386, 3))
theorem d_M_worst_96 : m_D k_M_worst 96 (.iinc 5 1) 3 := (by decide +kernel : decode prog_14_method_114_code 96 = .ok (.iinc 5 1, 3))
theorem d_M_worst_99 : m_D k_M_worst 99 (.goto (-13)) 3 := (by decide +kernel : decode prog_14_method_114_code 99 = .ok (.goto (-13), 3))
theorem d_M_worst_102 : m_D k_M_worst 102 (.aload_n 0) 1 := (by decide +kernel : decode prog_14_method_114_code 102 = .ok (.aload_n 0, 1))
theorem d_M_worst_103 : m_D k_M_worst 103 (.invokevirtual 346) 3 := (by decide +kernel : decode prog_14_method_114_code 103 = .ok (.invokevirtual 346, 3))
theorem d_M_worst_106 : m_D k_M_worst 106 (.istore 5) 2 := (by decide +kernel : decode prog_14_method_114_code 106 = .ok (.istore 5, 2))
theorem d_M_worst_108 : m_D k_M_worst 108 (.aload_n 0) 1 := (by decide +kernel : decode prog_14_method_114_code 108 = .ok (.aload_n 0, 1))
theorem d_M_worst_109 : m_D k_M_worst 109 (.invokevirtual 418) 3 := (by decide +kernel : decode prog_14_method_114_code 109 = .ok (.invokevirtual 418, 3))
theorem d_M_worst_112 : m_D k_M_worst 112 (.iload_n 2) 1 := (by decide +kernel : decode prog_14_method_114_code 112 = .ok (.iload_n 2, 1))
theorem d_M_worst_113 : m_D k_M_worst 113 (.ifCond .lt 12) 3 := (by decide +kernel : decode prog_14_method_114_code 113 = .ok (.ifCond .lt 12, 3))
theorem d_M_worst_116 : m_D k_M_worst 116 (.iload 5) 2 := (by decide +kernel : decode prog_14_method_114_code 116 = .ok (.iload 5, 2))
theorem d_M_worst_118 : m_D k_M_worst 118 (.iload_n 3) 1 := (by decide +kernel : decode prog_14_method_114_code 118 = .ok (.iload_n 3, 1))
theorem d_M_worst_119 : m_D k_M_worst 119 (.if_icmp .lt 6) 3 := (by decide +kernel : decode prog_14_method_114_code 119 = .ok (.if_icmp .lt 6, 3))
theorem d_M_worst_122 : m_D k_M_worst 122 (.goto 9) 3 := (by decide +kernel : decode prog_14_method_114_code 122 = .ok (.goto 9, 3))
theorem d_M_worst_125 : m_D k_M_worst 125 (.iload 4) 2 := (by decide +kernel : decode prog_14_method_114_code 125 = .ok (.iload 4, 2))
theorem d_M_worst_127 : m_D k_M_worst 127 (.istore_n 2) 1 := (by decide +kernel : decode prog_14_method_114_code 127 = .ok (.istore_n 2, 1))
theorem d_M_worst_128 : m_D k_M_worst 128 (.iload 5) 2 := (by decide +kernel : decode prog_14_method_114_code 128 = .ok (.iload 5, 2))
theorem d_M_worst_130 : m_D k_M_worst 130 (.istore_n 3) 1 := (by decide +kernel : decode prog_14_method_114_code 130 = .ok (.istore_n 3, 1))
theorem d_M_worst_131 : m_D k_M_worst 131 (.iinc 4 1) 3 := (by decide +kernel : decode prog_14_method_114_code 131 = .ok (.iinc 4 1, 3))
theorem d_M_worst_134 : m_D k_M_worst 134 (.goto (-95)) 3 := (by decide +kernel : decode prog_14_method_114_code 134 = .ok (.goto (-95), 3))
theorem d_M_worst_137 : m_D k_M_worst 137 (.iload_n 2) 1 := (by decide +kernel : decode prog_14_method_114_code 137 = .ok (.iload_n 2, 1))
theorem d_M_worst_138 : m_D k_M_worst 138 (.ifCond .ge 12) 3 := (by decide +kernel : decode prog_14_method_114_code 138 = .ok (.ifCond .ge 12, 3))
theorem d_M_worst_141 : m_D k_M_worst 141 (.aload_n 0) 1 := (by decide +kernel : decode prog_14_method_114_code 141 = .ok (.aload_n 0, 1))
theorem d_M_worst_142 : m_D k_M_worst 142 (.bipush 8) 2 := (by decide +kernel : decode prog_14_method_114_code 142 = .ok (.bipush 8, 2))
theorem d_M_worst_144 : m_D k_M_worst 144 (.invokevirtual 331) 3 := (by decide +kernel : decode prog_14_method_114_code 144 = .ok (.invokevirtual 331, 3))
theorem d_M_worst_147 : m_D k_M_worst 147 (.goto 4) 3 := (by decide +kernel : decode prog_14_method_114_code 147 = .ok (.goto 4, 3))
theorem d_M_worst_150 : m_D k_M_worst 150 (.iload_n 2) 1 := (by decide +kernel : decode prog_14_method_114_code 150 = .ok (.iload_n 2, 1))
theorem d_M_worst_151 : m_D k_M_worst 151 (.ireturn) 1 := (by decide +kernel : decode prog_14_method_114_code 151 = .ok (.ireturn, 1))
def fn_M_worst_l53 (x0 : Option mA) (t2 : Int32 × Int32 × Int32) (t5 : Int32) : mP ((Int32) ⊕ (Unit)) :=
  if 8 ≤ t5 then
    m_rt (.inr ())
  else
    m_bd (m_gR 11 20 x0) fun v6 =>
    m_bd (m_tI 0 v6 ((57 + (8 * t2.2.2)) + t5) 0) fun _ =>
    m_rt (.inl (t5 + 1))
def fn_M_worst_l86 (x0 : Option mA) (x1 : Int32) (t8 : Int32) : mP ((Int32) ⊕ (Unit)) :=
  if x1 ≤ t8 then
    m_rt (.inr ())
  else
    m_bd (fn_M_goesYear x0) fun _ =>
    m_rt (.inl (t8 + 1))
def fn_M_worst_l39 (x0 : Option mA) (x1 : Int32) (t2 : Int32 × Int32 × Int32) : mP ((Int32 × Int32 × Int32) ⊕ (Int32)) :=
  m_bd (m_gR 11 20 x0) fun v3 =>
  m_bd (m_aI 0 v3 0) fun v4 =>
  if v4 ≤ t2.2.2 then
    m_rt (.inr t2.1)
  else
    m_bd (m_lp (fn_M_worst_l53 x0 t2) m_F 0) fun (t7 : Unit) =>
    m_bd (m_lp (fn_M_worst_l86 x0 x1) m_F 0) fun (t9 : Unit) =>
    m_bd (fn_M_allRust x0) fun v10 =>
    m_bd (fn_M_gives x0) fun _ =>
    m_bd (α := Int32 × Int32) (
      if t2.1 < 0 then
        m_rt (t2.2.2, v10)
      else
        if v10 < t2.2.1 then
          m_rt (t2.2.2, v10)
        else
          m_rt (t2.1, t2.2.1)
      ) fun (t11 : Int32 × Int32) =>
    m_rt (.inl (t11.1, t11.2, (t2.2.2 + 1)))
def fn_M_worst (x0 : Option mA) (x1 : Int32) : mP Int32 :=
  m_th 11 x0 <|
  m_bd (m_pI 11 1 x0 0) fun _ =>
  m_bd (m_pI 11 0 x0 0) fun _ =>
  m_bd (fn_M_isIn (x1).toInt64 0 50) fun v1 =>
  if v1 = 0 then
    m_bd (fn_M_refuse x0 5) fun v14 =>
    m_rt v14
  else
    m_bd (fn_M_puts x0) fun _ =>
    m_bd (m_lp (fn_M_worst_l39 x0 x1) m_F ((-1), 0, 0)) fun (t12 : Int32) =>
    if 0 ≤ t12 then
      m_rt t12
    else
      m_bd (fn_M_refuse x0 8) fun v13 =>
      m_rt v13
set_option maxHeartbeats 4000000 in
set_option maxRecDepth 100000 in
theorem sd_M_worst (x0 : Option mA) (x1 : Int32) : m_Sm k_M_worst 5 0 0 [.inr (.inr x0), .inl x1] (fn_M_worst x0 x1) (fun b => some (.inl b)) := by
  refine ⟨Nat.le_of_ble_eq_true rfl, ?_⟩
  refine sm_th ?_
  refine sm_aload_n (i := 0) (j := 0) (pc' := 1) d_M_worst_0 rfl rfl rfl (sm_iconst (pc' := 2) d_M_worst_1 rfl ic_0 (sm_putI (pc' := 5) d_M_worst_2 rfl fl_M_81 (Or.inl rfl) rfl (sm_aload_n (i := 0) (j := 0) (pc' := 6) d_M_worst_5 rfl rfl rfl (sm_iconst (pc' := 7) d_M_worst_6 rfl ic_0 (sm_putI (pc' := 10) d_M_worst_7 rfl fl_M_84 (Or.inl rfl) rfl (sm_iload_n (i := 1) (j := 1) (pc' := 11) d_M_worst_10 rfl rfl rfl (sm_i2l (pc' := 12) d_M_worst_11 rfl (sm_lconst (pc' := 13) (v := 0) d_M_worst_12 rfl rfl (sm_ldc2 (v := 50) (pc' := 16) d_M_worst_13 rfl w_cl_M_427 ?_)))))))))
  refine sm_callSi (av := [.inr (.inl (x1).toInt64), .inr (.inl 0), .inr (.inl 50)]) (st := []) (mc := 0) (ms := 0) (pc' := 19) d_M_worst_16 rfl (sd_M_isIn (x1).toInt64 0 50) cs_M_isIn w_ml_M_116 rfl rfl (by decide) (Nat.le_of_ble_eq_true rfl) rfl rfl (fun v1 => ?_)
  refine sm_if_ne (tgt := 28) (pc' := 22) d_M_worst_19 rfl rfl ?_ ?_
  · refine sm_iconst (pc' := 29) d_M_worst_28 rfl ic_m1 (sm_istore_n (i := 2) (L' := [(2, .inl (-1)), (0, .inr (.inr x0)), (1, .inl x1)]) (pc' := 30) d_M_worst_29 rfl rfl (Nat.le_of_ble_eq_true rfl) rfl (sm_iconst (pc' := 31) d_M_worst_30 rfl ic_0 (sm_istore_n (i := 3) (L' := [(3, .inl 0), (2, .inl (-1)), (0, .inr (.inr x0)), (1, .inl x1)]) (pc' := 32) d_M_worst_31 rfl rfl (Nat.le_of_ble_eq_true rfl) rfl (sm_aload_n (i := 0) (j := 2) (pc' := 33) d_M_worst_32 rfl rfl rfl ?_))))
    refine sm_callVv (ci := 11) (x := x0) (av := []) (st := []) (mc := 0) (ms := 0) (pc' := 36) d_M_worst_33 rfl (sd_M_puts x0) m_lv rfl cv_M_puts w_ml_M_415 rfl rfl (by decide) (Nat.le_of_ble_eq_true rfl) rfl rfl ?_
    refine sm_iconst (pc' := 37) d_M_worst_36 rfl ic_0 (sm_istore (L' := [(4, .inl 0), (3, .inl 0), (2, .inl (-1)), (0, .inr (.inr x0)), (1, .inl x1)]) (pc' := 39) d_M_worst_37 rfl (Nat.le_of_ble_eq_true rfl) rfl ?_)
    refine sm_sub [2, 1, 0, 3, 4] rfl ?_
    refine sm_bd (mid := fun (t12 : Int32) => .inl (137, [(2, .inl t12), (0, .inr (.inr x0))], [])) (sm_lp (hd := fun (t2 : Int32 × Int32 × Int32) => (.inl (39, [(2, .inl t2.1), (3, .inl t2.2.1), (4, .inl t2.2.2), (0, .inr (.inr x0)), (1, .inl x1)], []) : mC)) (fun t2 => ?_) m_F ((-1), 0, 0)) (fun t12 => ?_)
    · refine sm_iload (j := 2) (pc' := 41) d_M_worst_39 rfl rfl (sm_aload_n (i := 0) (j := 3) (pc' := 42) d_M_worst_41 rfl rfl rfl ?_)
      refine sm_getR (pc' := 45) d_M_worst_42 rfl fl_M_35 rfl rfl (fun v3 => ?_)
      refine sm_iconst (pc' := 46) d_M_worst_45 rfl ic_0 ?_
      refine sm_iald (pc' := 47) d_M_worst_46 rfl (fun v4 => ?_)
      refine sm_icmp_ge (tgt := 137) (pc' := 50) d_M_worst_47 rfl rfl ?_ ?_
      · refine sm_sub [0, 3] rfl ?_
        exact sm_rt rfl
      · refine sm_iconst (pc' := 51) d_M_worst_50 rfl ic_0 (sm_istore (L' := [(5, .inl 0), (2, .inl t2.1), (3, .inl t2.2.1), (4, .inl t2.2.2), (0, .inr (.inr x0)), (1, .inl x1)]) (pc' := 53) d_M_worst_51 rfl (Nat.le_of_ble_eq_true rfl) rfl ?_)
        refine sm_sub [0, 4, 5, 1, 2, 3] rfl ?_
        refine sm_bd (mid := fun (t7 : Unit) => .inl (83, [(0, .inr (.inr x0)), (1, .inl x1), (2, .inl t2.1), (3, .inl t2.2.1), (4, .inl t2.2.2)], [])) (sm_lp (hd := fun (t5 : Int32) => (.inl (53, [(5, .inl t5), (0, .inr (.inr x0)), (1, .inl x1), (2, .inl t2.1), (3, .inl t2.2.1), (4, .inl t2.2.2)], []) : mC)) (fun t5 => ?_) m_F 0) (fun t7 => ?_)
        · refine sm_iload (j := 0) (pc' := 55) d_M_worst_53 rfl rfl (sm_bipush (pc' := 57) d_M_worst_55 rfl ib_8 ?_)
          refine sm_icmp_ge (tgt := 83) (pc' := 60) d_M_worst_57 rfl rfl ?_ ?_
          · refine sm_sub [1, 2, 3, 4, 5] rfl ?_
            exact sm_rt rfl
          · refine sm_aload_n (i := 0) (j := 1) (pc' := 61) d_M_worst_60 rfl rfl rfl ?_
            refine sm_getR (pc' := 64) d_M_worst_61 rfl fl_M_35 rfl rfl (fun v6 => ?_)
            refine sm_bipush (pc' := 66) d_M_worst_64 rfl ib_57 (sm_bipush (pc' := 68) d_M_worst_66 rfl ib_8 (sm_iload (j := 5) (pc' := 70) d_M_worst_68 rfl rfl (sm_imul (pc' := 71) d_M_worst_70 rfl (sm_iadd (pc' := 72) d_M_worst_71 rfl (sm_iload (j := 0) (pc' := 74) d_M_worst_72 rfl rfl (sm_iadd (pc' := 75) d_M_worst_74 rfl (sm_iconst (pc' := 76) d_M_worst_75 rfl ic_0 (sm_iast (pc' := 77) d_M_worst_76 rfl (sm_iinc (j := 0) (L' := [(5, .inl (t5 + 1)), (0, .inr (.inr x0)), (1, .inl x1), (2, .inl t2.1), (3, .inl t2.2.1), (4, .inl t2.2.2)]) (pc' := 80) d_M_worst_77 rfl (v := (t5 + 1)) rfl (ix_1 _) (Nat.le_of_ble_eq_true rfl) rfl ?_)))))))))
            refine sm_goto (tgt := 53) d_M_worst_80 rfl (sm_sub [0, 1, 2, 3, 4, 5] rfl ?_)
            exact sm_rt rfl
        · refine sm_iconst (pc' := 84) d_M_worst_83 rfl ic_0 (sm_istore (L' := [(5, .inl 0), (0, .inr (.inr x0)), (1, .inl x1), (2, .inl t2.1), (3, .inl t2.2.1), (4, .inl t2.2.2)]) (pc' := 86) d_M_worst_84 rfl (Nat.le_of_ble_eq_true rfl) rfl ?_)
          refine sm_sub [0, 1, 2, 3, 4, 5] rfl ?_
          refine sm_bd (mid := fun (t9 : Unit) => .inl (102, [(0, .inr (.inr x0)), (1, .inl x1), (2, .inl t2.1), (3, .inl t2.2.1), (4, .inl t2.2.2)], [])) (sm_lp (hd := fun (t8 : Int32) => (.inl (86, [(5, .inl t8), (0, .inr (.inr x0)), (1, .inl x1), (2, .inl t2.1), (3, .inl t2.2.1), (4, .inl t2.2.2)], []) : mC)) (fun t8 => ?_) m_F 0) (fun t9 => ?_)
          · refine sm_iload (j := 0) (pc' := 88) d_M_worst_86 rfl rfl (sm_iload_n (i := 1) (j := 2) (pc' := 89) d_M_worst_88 rfl rfl rfl ?_)
            refine sm_icmp_ge (tgt := 102) (pc' := 92) d_M_worst_89 rfl rfl ?_ ?_
            · refine sm_sub [1, 2, 3, 4, 5] rfl ?_
              exact sm_rt rfl
            · refine sm_aload_n (i := 0) (j := 1) (pc' := 93) d_M_worst_92 rfl rfl rfl ?_
              refine sm_callVv (ci := 11) (x := x0) (av := []) (st := []) (mc := 0) (ms := 0) (pc' := 96) d_M_worst_93 rfl (sd_M_goesYear x0) m_lv rfl cv_M_goesYear w_ml_M_386 rfl rfl (by decide) (Nat.le_of_ble_eq_true rfl) rfl rfl ?_
              refine sm_iinc (j := 0) (L' := [(5, .inl (t8 + 1)), (0, .inr (.inr x0)), (1, .inl x1), (2, .inl t2.1), (3, .inl t2.2.1), (4, .inl t2.2.2)]) (pc' := 99) d_M_worst_96 rfl (v := (t8 + 1)) rfl (ix_1 _) (Nat.le_of_ble_eq_true rfl) rfl (sm_goto (tgt := 86) d_M_worst_99 rfl (sm_sub [0, 1, 2, 3, 4, 5] rfl ?_))
              exact sm_rt rfl
          · refine sm_aload_n (i := 0) (j := 0) (pc' := 103) d_M_worst_102 rfl rfl rfl ?_
            refine sm_callVi (ci := 11) (x := x0) (av := []) (st := []) (mc := 0) (ms := 0) (pc' := 106) d_M_worst_103 rfl (sd_M_allRust x0) m_lv rfl cv_M_allRust w_ml_M_346 rfl rfl (by decide) (Nat.le_of_ble_eq_true rfl) rfl rfl (fun v10 => ?_)
            refine sm_istore (L' := [(5, .inl v10), (0, .inr (.inr x0)), (1, .inl x1), (2, .inl t2.1), (3, .inl t2.2.1), (4, .inl t2.2.2)]) (pc' := 108) d_M_worst_106 rfl (Nat.le_of_ble_eq_true rfl) rfl (sm_aload_n (i := 0) (j := 1) (pc' := 109) d_M_worst_108 rfl rfl rfl ?_)
            refine sm_callVv (ci := 11) (x := x0) (av := []) (st := []) (mc := 0) (ms := 0) (pc' := 112) d_M_worst_109 rfl (sd_M_gives x0) m_lv rfl cv_M_gives w_ml_M_418 rfl rfl (by decide) (Nat.le_of_ble_eq_true rfl) rfl rfl ?_
            refine sm_iload_n (i := 2) (j := 3) (pc' := 113) d_M_worst_112 rfl rfl rfl ?_
            refine sm_bd (mid := fun (t11 : Int32 × Int32) => .inl (131, [(0, .inr (.inr x0)), (1, .inl x1), (2, .inl t11.1), (3, .inl t11.2), (4, .inl t2.2.2)], [])) ?_ (fun t11 => ?_)
            · refine sm_if_lt (tgt := 125) (pc' := 116) d_M_worst_113 rfl rfl ?_ ?_
              · refine sm_iload (j := 5) (pc' := 127) d_M_worst_125 rfl rfl (sm_istore_n (i := 2) (L' := [(2, .inl t2.2.2), (5, .inl v10), (0, .inr (.inr x0)), (1, .inl x1), (3, .inl t2.2.1), (4, .inl t2.2.2)]) (pc' := 128) d_M_worst_127 rfl rfl (Nat.le_of_ble_eq_true rfl) rfl (sm_iload (j := 1) (pc' := 130) d_M_worst_128 rfl rfl (sm_istore_n (i := 3) (L' := [(3, .inl v10), (2, .inl t2.2.2), (5, .inl v10), (0, .inr (.inr x0)), (1, .inl x1), (4, .inl t2.2.2)]) (pc' := 131) d_M_worst_130 rfl rfl (Nat.le_of_ble_eq_true rfl) rfl (sm_sub [3, 4, 1, 0, 5] rfl ?_))))
                exact sm_rt rfl
              · refine sm_iload (j := 0) (pc' := 118) d_M_worst_116 rfl rfl (sm_iload_n (i := 3) (j := 4) (pc' := 119) d_M_worst_118 rfl rfl rfl ?_)
                refine sm_icmp_lt (tgt := 125) (pc' := 122) d_M_worst_119 rfl rfl ?_ ?_
                · refine sm_iload (j := 5) (pc' := 127) d_M_worst_125 rfl rfl (sm_istore_n (i := 2) (L' := [(2, .inl t2.2.2), (5, .inl v10), (0, .inr (.inr x0)), (1, .inl x1), (3, .inl t2.2.1), (4, .inl t2.2.2)]) (pc' := 128) d_M_worst_127 rfl rfl (Nat.le_of_ble_eq_true rfl) rfl (sm_iload (j := 1) (pc' := 130) d_M_worst_128 rfl rfl (sm_istore_n (i := 3) (L' := [(3, .inl v10), (2, .inl t2.2.2), (5, .inl v10), (0, .inr (.inr x0)), (1, .inl x1), (4, .inl t2.2.2)]) (pc' := 131) d_M_worst_130 rfl rfl (Nat.le_of_ble_eq_true rfl) rfl (sm_sub [3, 4, 1, 0, 5] rfl ?_))))
                  exact sm_rt rfl
                · refine sm_goto (tgt := 131) d_M_worst_122 rfl (sm_sub [1, 2, 3, 4, 5] rfl ?_)
                  exact sm_rt rfl
            · refine sm_iinc (j := 4) (L' := [(4, .inl (t2.2.2 + 1)), (0, .inr (.inr x0)), (1, .inl x1), (2, .inl t11.1), (3, .inl t11.2)]) (pc' := 134) d_M_worst_131 rfl (v := (t2.2.2 + 1)) rfl (ix_1 _) (Nat.le_of_ble_eq_true rfl) rfl (sm_goto (tgt := 39) d_M_worst_134 rfl (sm_sub [3, 4, 0, 1, 2] rfl ?_))
              exact sm_rt rfl
    · refine sm_iload_n (i := 2) (j := 0) (pc' := 138) d_M_worst_137 rfl rfl rfl ?_
      refine sm_if_ge (tgt := 150) (pc' := 141) d_M_worst_138 rfl rfl ?_ ?_
      · refine sm_iload_n (i := 2) (j := 0) (pc' := 151) d_M_worst_150 rfl rfl rfl ?_
        exact sm_ireturn d_M_worst_151 rfl rfl
      · refine sm_aload_n (i := 0) (j := 1) (pc' := 142) d_M_worst_141 rfl rfl rfl (sm_bipush (pc' := 144) d_M_worst_142 rfl ib_8 ?_)
        refine sm_callVi (ci := 11) (x := x0) (av := [.inl 8]) (st := []) (mc := 0) (ms := 0) (pc' := 147) d_M_worst_144 rfl (sd_M_refuse x0 8) m_lv rfl cv_M_refuse w_ml_M_331 rfl rfl (by decide) (Nat.le_of_ble_eq_true rfl) rfl rfl (fun v13 => ?_)
        refine sm_goto (tgt := 151) d_M_worst_147 rfl ?_
        exact sm_ireturn d_M_worst_151 rfl rfl
  · refine sm_aload_n (i := 0) (j := 0) (pc' := 23) d_M_worst_22 rfl rfl rfl (sm_iconst (pc' := 24) d_M_worst_23 rfl ic_5 ?_)
    refine sm_callVi (ci := 11) (x := x0) (av := [.inl 5]) (st := []) (mc := 0) (ms := 0) (pc' := 27) d_M_worst_24 rfl (sd_M_refuse x0 5) m_lv rfl cv_M_refuse w_ml_M_331 rfl rfl (by decide) (Nat.le_of_ble_eq_true rfl) rfl rfl (fun v14 => ?_)
    exact sm_ireturn d_M_worst_27 rfl rfl
