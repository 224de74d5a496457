/-! 10.ref8, laid by wip/whole/gen.py -/
theorem d_M_runsYears_0 : m_D k_M_runsYears 0 (.aload_n 0) 1 := (by decide +kernel : decode prog_14_method_162_code 0 = .ok (.aload_n 0, 1))
theorem d_M_runsYears_1 : m_D k_M_runsYears 1 (.iload_n 1) 1 := (by decide +kernel : decode prog_14_method_162_code 1 = .ok (.iload_n 1, 1))
theorem d_M_runsYears_2 : m_D k_M_runsYears 2 (.putfield 526) 3 := (by decide +kernel : decode prog_14_method_162_code 2 = .ok (.putfield 526, 3))
theorem d_M_runsYears_5 : m_D k_M_runsYears 5 (.aload_n 0) 1 := (by decide +kernel : decode prog_14_method_162_code 5 = .ok (.aload_n 0, 1))
theorem d_M_runsYears_6 : m_D k_M_runsYears 6 (.iconst 0) 1 := (by decide +kernel : decode prog_14_method_162_code 6 = .ok (.iconst 0, 1))
theorem d_M_runsYears_7 : m_D k_M_runsYears 7 (.putfield 554) 3 := (by decide +kernel : decode prog_14_method_162_code 7 = .ok (.putfield 554, 3))
theorem d_M_runsYears_10 : m_D k_M_runsYears 10 (.aload_n 0) 1 := (by decide +kernel : decode prog_14_method_162_code 10 = .ok (.aload_n 0, 1))
theorem d_M_runsYears_11 : m_D k_M_runsYears 11 (.iconst 0) 1 := (by decide +kernel : decode prog_14_method_162_code 11 = .ok (.iconst 0, 1))
theorem d_M_runsYears_12 : m_D k_M_runsYears 12 (.putfield 564) 3 := (by decide +kernel : decode prog_14_method_162_code 12 = .ok (.putfield 564, 3))
theorem d_M_runsYears_15 : m_D k_M_runsYears 15 (.aload_n 0) 1 := (by decide +kernel : decode prog_14_method_162_code 15 = .ok (.aload_n 0, 1))
theorem d_M_runsYears_16 : m_D k_M_runsYears 16 (.iconst 0) 1 := (by decide +kernel : decode prog_14_method_162_code 16 = .ok (.iconst 0, 1))
theorem d_M_runsYears_17 : m_D k_M_runsYears 17 (.putfield 533) 3 := (by decide +kernel : decode prog_14_method_162_code 17 = .ok (.putfield 533, 3))
theorem d_M_runsYears_20 : m_D k_M_runsYears 20 (.aload_n 0) 1 := (by decide +kernel : decode prog_14_method_162_code 20 = .ok (.aload_n 0, 1))
theorem d_M_runsYears_21 : m_D k_M_runsYears 21 (.iconst 0) 1 := (by decide +kernel : decode prog_14_method_162_code 21 = .ok (.iconst 0, 1))
theorem d_M_runsYears_22 : m_D k_M_runsYears 22 (.putfield 530) 3 := (by decide +kernel : decode prog_14_method_162_code 22 = .ok (.putfield 530, 3))
theorem d_M_runsYears_25 : m_D k_M_runsYears 25 (.aload_n 0) 1 := (by decide +kernel : decode prog_14_method_162_code 25 = .ok (.aload_n 0, 1))
theorem d_M_runsYears_26 : m_D k_M_runsYears 26 (.iconst 0) 1 := (by decide +kernel : decode prog_14_method_162_code 26 = .ok (.iconst 0, 1))
theorem d_M_runsYears_27 : m_D k_M_runsYears 27 (.putfield 372) 3 := (by decide +kernel : decode prog_14_method_162_code 27 = .ok (.putfield 372, 3))
theorem d_M_runsYears_30 : m_D k_M_runsYears 30 (.aload_n 0) 1 := (by decide +kernel : decode prog_14_method_162_code 30 = .ok (.aload_n 0, 1))
theorem d_M_runsYears_31 : m_D k_M_runsYears 31 (.iconst 0) 1 := (by decide +kernel : decode prog_14_method_162_code 31 = .ok (.iconst 0, 1))
theorem d_M_runsYears_32 : m_D k_M_runsYears 32 (.putfield 561) 3 := (by decide +kernel : decode prog_14_method_162_code 32 = .ok (.putfield 561, 3))
theorem d_M_runsYears_35 : m_D k_M_runsYears 35 (.aload_n 0) 1 := (by decide +kernel : decode prog_14_method_162_code 35 = .ok (.aload_n 0, 1))
theorem d_M_runsYears_36 : m_D k_M_runsYears 36 (.iconst 0) 1 := (by decide +kernel : decode prog_14_method_162_code 36 = .ok (.iconst 0, 1))
theorem d_M_runsYears_37 : m_D k_M_runsYears 37 (.putfield 557) 3 := (by decide +kernel : decode prog_14_method_162_code 37 = .ok (.putfield 557, 3))
theorem d_M_runsYears_40 : m_D k_M_runsYears 40 (.aload_n 0) 1 := (by decide +kernel : decode prog_14_method_162_code 40 = .ok (.aload_n 0, 1))
theorem d_M_runsYears_41 : m_D k_M_runsYears 41 (.iconst 0) 1 := (by decide +kernel : decode prog_14_method_162_code 41 = .ok (.iconst 0, 1))
theorem d_M_runsYears_42 : m_D k_M_runsYears 42 (.aload_n 0) 1 := (by decide +kernel : decode prog_14_method_162_code 42 = .ok (.aload_n 0, 1))
theorem d_M_runsYears_43 : m_D k_M_runsYears 43 (.getfield 35) 3 := (by decide +kernel : decode prog_14_method_162_code 43 = .ok (.getfield 35, 3))
theorem d_M_runsYears_46 : m_D k_M_runsYears 46 (.bipush 106) 2 := (by decide +kernel : decode prog_14_method_162_code 46 = .ok (.bipush 106, 2))
theorem d_M_runsYears_48 : m_D k_M_runsYears 48 (.iaload) 1 := (by decide +kernel : decode prog_14_method_162_code 48 = .ok (.iaload, 1))
theorem d_M_runsYears_49 : m_D k_M_runsYears 49 (.invokevirtual 573) 3 := (by decide +kernel : decode prog_14_method_162_code 49 = .ok (.invokevirtual 573, 3))
theorem d_M_runsYears_52 : m_D k_M_runsYears 52 (.return_) 1 := (by decide +kernel : decode prog_14_method_162_code 52 = .ok (.return_, 1))
def fn_M_runsYears (x0 : Option mA) (x1 : Int32) : mP Unit :=
  m_th 11 x0 <|
  m_bd (m_pI 11 45 x0 x1) fun _ =>
  m_bd (m_pI 11 46 x0 0) fun _ =>
  m_bd (m_pI 11 47 x0 0) fun _ =>
  m_bd (m_pI 11 48 x0 0) fun _ =>
  m_bd (m_pI 11 49 x0 0) fun _ =>
  m_bd (m_pI 11 27 x0 0) fun _ =>
  m_bd (m_pI 11 50 x0 0) fun _ =>
  m_bd (m_pZ 11 44 x0 0) fun _ =>
  m_bd (m_gR 11 20 x0) fun v1 =>
  m_bd (m_aI 0 v1 106) fun v2 =>
  m_bd (fn_M_doAll (fn_M_doOne 8) x0 0 v2) fun _ =>
  m_rt ()
set_option maxHeartbeats 4000000 in
set_option maxRecDepth 100000 in
theorem sd_M_runsYears (x0 : Option mA) (x1 : Int32) : m_Sm k_M_runsYears 25 0 0 [.inr (.inr x0), .inl x1] (fn_M_runsYears x0 x1) (fun _ => none) := by
  refine ⟨Nat.le_of_ble_eq_true rfl, ?_⟩
  refine sm_th ?_
  refine sm_aload_n (i := 0) (j := 0) (pc' := 1) d_M_runsYears_0 rfl rfl rfl (sm_iload_n (i := 1) (j := 1) (pc' := 2) d_M_runsYears_1 rfl rfl rfl (sm_putI (pc' := 5) d_M_runsYears_2 rfl fl_M_526 (Or.inl rfl) rfl (sm_aload_n (i := 0) (j := 0) (pc' := 6) d_M_runsYears_5 rfl rfl rfl (sm_iconst (pc' := 7) d_M_runsYears_6 rfl ic_0 (sm_putI (pc' := 10) d_M_runsYears_7 rfl fl_M_554 (Or.inl rfl) rfl (sm_aload_n (i := 0) (j := 0) (pc' := 11) d_M_runsYears_10 rfl rfl rfl (sm_iconst (pc' := 12) d_M_runsYears_11 rfl ic_0 (sm_putI (pc' := 15) d_M_runsYears_12 rfl fl_M_564 (Or.inl rfl) rfl (sm_aload_n (i := 0) (j := 0) (pc' := 16) d_M_runsYears_15 rfl rfl rfl ?_)))))))))
  refine sm_iconst (pc' := 17) d_M_runsYears_16 rfl ic_0 (sm_putI (pc' := 20) d_M_runsYears_17 rfl fl_M_533 (Or.inl rfl) rfl (sm_aload_n (i := 0) (j := 0) (pc' := 21) d_M_runsYears_20 rfl rfl rfl (sm_iconst (pc' := 22) d_M_runsYears_21 rfl ic_0 (sm_putI (pc' := 25) d_M_runsYears_22 rfl fl_M_530 (Or.inl rfl) rfl (sm_aload_n (i := 0) (j := 0) (pc' := 26) d_M_runsYears_25 rfl rfl rfl (sm_iconst (pc' := 27) d_M_runsYears_26 rfl ic_0 (sm_putI (pc' := 30) d_M_runsYears_27 rfl fl_M_372 (Or.inl rfl) rfl (sm_aload_n (i := 0) (j := 0) (pc' := 31) d_M_runsYears_30 rfl rfl rfl (sm_iconst (pc' := 32) d_M_runsYears_31 rfl ic_0 ?_)))))))))
  refine sm_putI (pc' := 35) d_M_runsYears_32 rfl fl_M_561 (Or.inl rfl) rfl (sm_aload_n (i := 0) (j := 0) (pc' := 36) d_M_runsYears_35 rfl rfl rfl (sm_iconst (pc' := 37) d_M_runsYears_36 rfl ic_0 (sm_putZ (pc' := 40) d_M_runsYears_37 rfl fl_M_557 (Or.inl rfl) rfl (sm_aload_n (i := 0) (j := 0) (pc' := 41) d_M_runsYears_40 rfl rfl rfl (sm_iconst (pc' := 42) d_M_runsYears_41 rfl ic_0 (sm_aload_n (i := 0) (j := 0) (pc' := 43) d_M_runsYears_42 rfl rfl rfl ?_))))))
  refine sm_getR (pc' := 46) d_M_runsYears_43 rfl fl_M_35 rfl rfl (fun v1 => ?_)
  refine sm_bipush (pc' := 48) d_M_runsYears_46 rfl ib_106 ?_
  refine sm_iald (pc' := 49) d_M_runsYears_48 rfl (fun v2 => ?_)
  refine sm_callVv (ci := 11) (x := x0) (av := [.inl 0, .inl v2]) (st := []) (mc := 0) (ms := 0) (pc' := 52) d_M_runsYears_49 rfl (sd_M_doAll (fn_M_doOne 8) 23 (sd_M_doOne 8) (lv_M_doOne 8) x0 0 v2) m_lv rfl cv_M_doAll w_ml_M_573 rfl rfl (by decide) (Nat.le_of_ble_eq_true rfl) rfl rfl ?_
  exact sm_return d_M_runsYears_52 rfl rfl
theorem d_M_live_0 : m_D k_M_live 0 (.aload_n 0) 1 := (by decide +kernel : decode prog_14_method_163_code 0 = .ok (.aload_n 0, 1))
theorem d_M_live_1 : m_D k_M_live 1 (.iconst 0) 1 := (by decide +kernel : decode prog_14_method_163_code 1 = .ok (.iconst 0, 1))
theorem d_M_live_2 : m_D k_M_live 2 (.putfield 81) 3 := (by decide +kernel : decode prog_14_method_163_code 2 = .ok (.putfield 81, 3))
theorem d_M_live_5 : m_D k_M_live 5 (.aload_n 0) 1 := (by decide +kernel : decode prog_14_method_163_code 5 = .ok (.aload_n 0, 1))
theorem d_M_live_6 : m_D k_M_live 6 (.iconst 0) 1 := (by decide +kernel : decode prog_14_method_163_code 6 = .ok (.iconst 0, 1))
theorem d_M_live_7 : m_D k_M_live 7 (.putfield 84) 3 := (by decide +kernel : decode prog_14_method_163_code 7 = .ok (.putfield 84, 3))
theorem d_M_live_10 : m_D k_M_live 10 (.iload_n 1) 1 := (by decide +kernel : decode prog_14_method_163_code 10 = .ok (.iload_n 1, 1))
theorem d_M_live_11 : m_D k_M_live 11 (.i2l) 1 := (by decide +kernel : decode prog_14_method_163_code 11 = .ok (.i2l, 1))
theorem d_M_live_12 : m_D k_M_live 12 (.lconst 0) 1 := (by decide +kernel : decode prog_14_method_163_code 12 = .ok (.lconst 0, 1))
theorem d_M_live_13 : m_D k_M_live 13 (.ldc2_w 579) 3 := (by decide +kernel : decode prog_14_method_163_code 13 = .ok (.ldc2_w 579, 3))
theorem d_M_live_16 : m_D k_M_live 16 (.invokestatic 116) 3 := (by decide +kernel : decode prog_14_method_163_code 16 = .ok (.invokestatic 116, 3))
theorem d_M_live_19 : m_D k_M_live 19 (.ifCond .ne 9) 3 := (by decide +kernel : decode prog_14_method_163_code 19 = .ok (.ifCond .ne 9, 3))
theorem d_M_live_22 : m_D k_M_live 22 (.aload_n 0) 1 := (by decide +kernel : decode prog_14_method_163_code 22 = .ok (.aload_n 0, 1))
theorem d_M_live_23 : m_D k_M_live 23 (.iconst 5) 1 := (by decide +kernel : decode prog_14_method_163_code 23 = .ok (.iconst 5, 1))
theorem d_M_live_24 : m_D k_M_live 24 (.invokevirtual 331) 3 := (by decide +kernel : decode prog_14_method_163_code 24 = .ok (.invokevirtual 331, 3))
theorem d_M_live_27 : m_D k_M_live 27 (.ireturn) 1 := (by decide +kernel : decode prog_14_method_163_code 27 = .ok (.ireturn, 1))
theorem d_M_live_28 : m_D k_M_live 28 (.aload_n 0) 1 := (by decide +kernel : decode prog_14_method_163_code 28 = .ok (.aload_n 0, 1))
theorem d_M_live_29 : m_D k_M_live 29 (.getfield 35) 3 := (by decide +kernel : decode prog_14_method_163_code 29 = .ok (.getfield 35, 3))
theorem d_M_live_32 : m_D k_M_live 32 (.bipush 105) 2 := (by decide +kernel : decode prog_14_method_163_code 32 = .ok (.bipush 105, 2))
theorem d_M_live_34 : m_D k_M_live 34 (.iaload) 1 := (by decide +kernel : decode prog_14_method_163_code 34 = .ok (.iaload, 1))
theorem d_M_live_35 : m_D k_M_live 35 (.ifCond .ne 10) 3 := (by decide +kernel : decode prog_14_method_163_code 35 = .ok (.ifCond .ne 10, 3))
theorem d_M_live_38 : m_D k_M_live 38 (.aload_n 0) 1 := (by decide +kernel : decode prog_14_method_163_code 38 = .ok (.aload_n 0, 1))
theorem d_M_live_39 : m_D k_M_live 39 (.bipush 8) 2 := (by decide +kernel : decode prog_14_method_163_code 39 = .ok (.bipush 8, 2))
theorem d_M_live_41 : m_D k_M_live 41 (.invokevirtual 331) 3 := (by decide +kernel : decode prog_14_method_163_code 41 = .ok (.invokevirtual 331, 3))
theorem d_M_live_44 : m_D k_M_live 44 (.ireturn) 1 := (by decide +kernel : decode prog_14_method_163_code 44 = .ok (.ireturn, 1))
theorem d_M_live_45 : m_D k_M_live 45 (.aload_n 0) 1 := (by decide +kernel : decode prog_14_method_163_code 45 = .ok (.aload_n 0, 1))
theorem d_M_live_46 : m_D k_M_live 46 (.iload_n 1) 1 := (by decide +kernel : decode prog_14_method_163_code 46 = .ok (.iload_n 1, 1))
theorem d_M_live_47 : m_D k_M_live 47 (.invokevirtual 581) 3 := (by decide +kernel : decode prog_14_method_163_code 47 = .ok (.invokevirtual 581, 3))
theorem d_M_live_50 : m_D k_M_live 50 (.aload_n 0) 1 := (by decide +kernel : decode prog_14_method_163_code 50 = .ok (.aload_n 0, 1))
theorem d_M_live_51 : m_D k_M_live 51 (.getfield 74) 3 := (by decide +kernel : decode prog_14_method_163_code 51 = .ok (.getfield 74, 3))
theorem d_M_live_54 : m_D k_M_live 54 (.iconst 0) 1 := (by decide +kernel : decode prog_14_method_163_code 54 = .ok (.iconst 0, 1))
theorem d_M_live_55 : m_D k_M_live 55 (.aload_n 0) 1 := (by decide +kernel : decode prog_14_method_163_code 55 = .ok (.aload_n 0, 1))
theorem d_M_live_56 : m_D k_M_live 56 (.getfield 564) 3 := (by decide +kernel : decode prog_14_method_163_code 56 = .ok (.getfield 564, 3))
theorem d_M_live_59 : m_D k_M_live 59 (.iastore) 1 := (by decide +kernel : decode prog_14_method_163_code 59 = .ok (.iastore, 1))
theorem d_M_live_60 : m_D k_M_live 60 (.aload_n 0) 1 := (by decide +kernel : decode prog_14_method_163_code 60 = .ok (.aload_n 0, 1))
theorem d_M_live_61 : m_D k_M_live 61 (.getfield 74) 3 := (by decide +kernel : decode prog_14_method_163_code 61 = .ok (.getfield 74, 3))
theorem d_M_live_64 : m_D k_M_live 64 (.iconst 1) 1 := (by decide +kernel : decode prog_14_method_163_code 64 = .ok (.iconst 1, 1))
theorem d_M_live_65 : m_D k_M_live 65 (.aload_n 0) 1 := (by decide +kernel : decode prog_14_method_163_code 65 = .ok (.aload_n 0, 1))
theorem d_M_live_66 : m_D k_M_live 66 (.getfield 533) 3 := (by decide +kernel : decode prog_14_method_163_code 66 = .ok (.getfield 533, 3))
theorem d_M_live_69 : m_D k_M_live 69 (.iastore) 1 := (by decide +kernel : decode prog_14_method_163_code 69 = .ok (.iastore, 1))
theorem d_M_live_70 : m_D k_M_live 70 (.aload_n 0) 1 := (by decide +kernel : decode prog_14_method_163_code 70 = .ok (.aload_n 0, 1))
theorem d_M_live_71 : m_D k_M_live 71 (.getfield 74) 3 := (by decide +kernel : decode prog_14_method_163_code 71 = .ok (.getfield 74, 3))
theorem d_M_live_74 : m_D k_M_live 74 (.iconst 2) 1 := (by decide +kernel : decode prog_14_method_163_code 74 = .ok (.iconst 2, 1))
theorem d_M_live_75 : m_D k_M_live 75 (.aload_n 0) 1 := (by decide +kernel : decode prog_14_method_163_code 75 = .ok (.aload_n 0, 1))
theorem d_M_live_76 : m_D k_M_live 76 (.getfield 530) 3 := (by decide +kernel : decode prog_14_method_163_code 76 = .ok (.getfield 530, 3))
theorem d_M_live_79 : m_D k_M_live 79 (.iastore) 1 := (by decide +kernel : decode prog_14_method_163_code 79 = .ok (.iastore, 1))
theorem d_M_live_80 : m_D k_M_live 80 (.aload_n 0) 1 := (by decide +kernel : decode prog_14_method_163_code 80 = .ok (.aload_n 0, 1))
theorem d_M_live_81 : m_D k_M_live 81 (.getfield 74) 3 := (by decide +kernel : decode prog_14_method_163_code 81 = .ok (.getfield 74, 3))
theorem d_M_live_84 : m_D k_M_live 84 (.iconst 3) 1 := (by decide +kernel : decode prog_14_method_163_code 84 = .ok (.iconst 3, 1))
theorem d_M_live_85 : m_D k_M_live 85 (.aload_n 0) 1 := (by decide +kernel : decode prog_14_method_163_code 85 = .ok (.aload_n 0, 1))
theorem d_M_live_86 : m_D k_M_live 86 (.getfield 372) 3 := (by decide +kernel : decode prog_14_method_163_code 86 = .ok (.getfield 372, 3))
theorem d_M_live_89 : m_D k_M_live 89 (.iastore) 1 := (by decide +kernel : decode prog_14_method_163_code 89 = .ok (.iastore, 1))
theorem d_M_live_90 : m_D k_M_live 90 (.aload_n 0) 1 := (by decide +kernel : decode prog_14_method_163_code 90 = .ok (.aload_n 0, 1))
theorem d_M_live_91 : m_D k_M_live 91 (.getfield 74) 3 := (by decide +kernel : decode prog_14_method_163_code 91 = .ok (.getfield 74, 3))
theorem d_M_live_94 : m_D k_M_live 94 (.iconst 4) 1 := (by decide +kernel : decode prog_14_method_163_code 94 = .ok (.iconst 4, 1))
theorem d_M_live_95 : m_D k_M_live 95 (.aload_n 0) 1 := (by decide +kernel : decode prog_14_method_163_code 95 = .ok (.aload_n 0, 1))
theorem d_M_live_96 : m_D k_M_live 96 (.getfield 561) 3 := (by decide +kernel : decode prog_14_method_163_code 96 = .ok (.getfield 561, 3))
theorem d_M_live_99 : m_D k_M_live 99 (.iastore) 1 := (by decide +kernel : decode prog_14_method_163_code 99 = .ok (.iastore, 1))
theorem d_M_live_100 : m_D k_M_live 100 (.aload_n 0) 1 := (by decide +kernel : decode prog_14_method_163_code 100 = .ok (.aload_n 0, 1))
theorem d_M_live_101 : m_D k_M_live 101 (.iconst 1) 1 := (by decide +kernel : decode prog_14_method_163_code 101 = .ok (.iconst 1, 1))
theorem d_M_live_102 : m_D k_M_live 102 (.putfield 584) 3 := (by decide +kernel : decode prog_14_method_163_code 102 = .ok (.putfield 584, 3))
theorem d_M_live_105 : m_D k_M_live 105 (.aload_n 0) 1 := (by decide +kernel : decode prog_14_method_163_code 105 = .ok (.aload_n 0, 1))
theorem d_M_live_106 : m_D k_M_live 106 (.getfield 554) 3 := (by decide +kernel : decode prog_14_method_163_code 106 = .ok (.getfield 554, 3))
theorem d_M_live_109 : m_D k_M_live 109 (.ireturn) 1 := (by decide +kernel : decode prog_14_method_163_code 109 = .ok (.ireturn, 1))
def fn_M_live (x0 : Option mA) (x1 : Int32) : mP Int32 :=
  m_th 11 x0 <|
  m_bd (m_pI 11 1 x0 0) fun _ =>
  m_bd (m_pI 11 0 x0 0) fun _ =>
  m_bd (fn_M_isIn (x1).toInt64 0 9999) fun v1 =>
  if v1 = 0 then
    m_bd (fn_M_refuse x0 5) fun v16 =>
    m_rt v16
  else
    m_bd (m_gR 11 20 x0) fun v2 =>
    m_bd (m_aI 0 v2 105) fun v3 =>
    if v3 = 0 then
      m_bd (fn_M_refuse x0 8) fun v15 =>
      m_rt v15
    else
      m_bd (fn_M_runsYears x0 x1) fun _ =>
      m_bd (m_gR 11 42 x0) fun v4 =>
      m_bd (m_gI 11 47 x0) fun v5 =>
      m_bd (m_tI 0 v4 0 v5) fun _ =>
      m_bd (m_gR 11 42 x0) fun v6 =>
      m_bd (m_gI 11 48 x0) fun v7 =>
      m_bd (m_tI 0 v6 1 v7) fun _ =>
      m_bd (m_gR 11 42 x0) fun v8 =>
      m_bd (m_gI 11 49 x0) fun v9 =>
      m_bd (m_tI 0 v8 2 v9) fun _ =>
      m_bd (m_gR 11 42 x0) fun v10 =>
      m_bd (m_gI 11 27 x0) fun v11 =>
      m_bd (m_tI 0 v10 3 v11) fun _ =>
      m_bd (m_gR 11 42 x0) fun v12 =>
      m_bd (m_gI 11 50 x0) fun v13 =>
      m_bd (m_tI 0 v12 4 v13) fun _ =>
      m_bd (m_pZ 11 43 x0 1) fun _ =>
      m_bd (m_gI 11 46 x0) fun v14 =>
      m_rt v14
set_option maxHeartbeats 4000000 in
set_option maxRecDepth 100000 in
theorem sd_M_live (x0 : Option mA) (x1 : Int32) : m_Sm k_M_live 26 0 0 [.inr (.inr x0), .inl x1] (fn_M_live x0 x1) (fun b => some (.inl b)) := by
  refine ⟨Nat.le_of_ble_eq_true rfl, ?_⟩
  refine sm_th ?_
  refine sm_aload_n (i := 0) (j := 0) (pc' := 1) d_M_live_0 rfl rfl rfl (sm_iconst (pc' := 2) d_M_live_1 rfl ic_0 (sm_putI (pc' := 5) d_M_live_2 rfl fl_M_81 (Or.inl rfl) rfl (sm_aload_n (i := 0) (j := 0) (pc' := 6) d_M_live_5 rfl rfl rfl (sm_iconst (pc' := 7) d_M_live_6 rfl ic_0 (sm_putI (pc' := 10) d_M_live_7 rfl fl_M_84 (Or.inl rfl) rfl (sm_iload_n (i := 1) (j := 1) (pc' := 11) d_M_live_10 rfl rfl rfl (sm_i2l (pc' := 12) d_M_live_11 rfl (sm_lconst (pc' := 13) (v := 0) d_M_live_12 rfl rfl (sm_ldc2 (v := 9999) (pc' := 16) d_M_live_13 rfl w_cl_M_579 ?_)))))))))
  refine sm_callSi (av := [.inr (.inl (x1).toInt64), .inr (.inl 0), .inr (.inl 9999)]) (st := []) (mc := 0) (ms := 0) (pc' := 19) d_M_live_16 rfl (sd_M_isIn (x1).toInt64 0 9999) cs_M_isIn w_ml_M_116 rfl rfl (by decide) (Nat.le_of_ble_eq_true rfl) rfl rfl (fun v1 => ?_)
  refine sm_if_ne (tgt := 28) (pc' := 22) d_M_live_19 rfl rfl ?_ ?_
  · refine sm_aload_n (i := 0) (j := 0) (pc' := 29) d_M_live_28 rfl rfl rfl ?_
    refine sm_getR (pc' := 32) d_M_live_29 rfl fl_M_35 rfl rfl (fun v2 => ?_)
    refine sm_bipush (pc' := 34) d_M_live_32 rfl ib_105 ?_
    refine sm_iald (pc' := 35) d_M_live_34 rfl (fun v3 => ?_)
    refine sm_if_ne (tgt := 45) (pc' := 38) d_M_live_35 rfl rfl ?_ ?_
    · refine sm_aload_n (i := 0) (j := 0) (pc' := 46) d_M_live_45 rfl rfl rfl (sm_iload_n (i := 1) (j := 1) (pc' := 47) d_M_live_46 rfl rfl rfl ?_)
      refine sm_callVv (ci := 11) (x := x0) (av := [.inl x1]) (st := []) (mc := 0) (ms := 0) (pc' := 50) d_M_live_47 rfl (sd_M_runsYears x0 x1) m_lv rfl cv_M_runsYears w_ml_M_581 rfl rfl (by decide) (Nat.le_of_ble_eq_true rfl) rfl rfl ?_
      refine sm_aload_n (i := 0) (j := 0) (pc' := 51) d_M_live_50 rfl rfl rfl ?_
      refine sm_getR (pc' := 54) d_M_live_51 rfl fl_M_74 rfl rfl (fun v4 => ?_)
      refine sm_iconst (pc' := 55) d_M_live_54 rfl ic_0 (sm_aload_n (i := 0) (j := 0) (pc' := 56) d_M_live_55 rfl rfl rfl ?_)
      refine sm_getI (pc' := 59) d_M_live_56 rfl fl_M_564 rfl ⟨by decide, by decide⟩ (fun v5 => ?_)
      refine sm_iast (pc' := 60) d_M_live_59 rfl (sm_aload_n (i := 0) (j := 0) (pc' := 61) d_M_live_60 rfl rfl rfl ?_)
      refine sm_getR (pc' := 64) d_M_live_61 rfl fl_M_74 rfl rfl (fun v6 => ?_)
      refine sm_iconst (pc' := 65) d_M_live_64 rfl ic_1 (sm_aload_n (i := 0) (j := 0) (pc' := 66) d_M_live_65 rfl rfl rfl ?_)
      refine sm_getI (pc' := 69) d_M_live_66 rfl fl_M_533 rfl ⟨by decide, by decide⟩ (fun v7 => ?_)
      refine sm_iast (pc' := 70) d_M_live_69 rfl (sm_aload_n (i := 0) (j := 0) (pc' := 71) d_M_live_70 rfl rfl rfl ?_)
      refine sm_getR (pc' := 74) d_M_live_71 rfl fl_M_74 rfl rfl (fun v8 => ?_)
      refine sm_iconst (pc' := 75) d_M_live_74 rfl ic_2 (sm_aload_n (i := 0) (j := 0) (pc' := 76) d_M_live_75 rfl rfl rfl ?_)
      refine sm_getI (pc' := 79) d_M_live_76 rfl fl_M_530 rfl ⟨by decide, by decide⟩ (fun v9 => ?_)
      refine sm_iast (pc' := 80) d_M_live_79 rfl (sm_aload_n (i := 0) (j := 0) (pc' := 81) d_M_live_80 rfl rfl rfl ?_)
      refine sm_getR (pc' := 84) d_M_live_81 rfl fl_M_74 rfl rfl (fun v10 => ?_)
      refine sm_iconst (pc' := 85) d_M_live_84 rfl ic_3 (sm_aload_n (i := 0) (j := 0) (pc' := 86) d_M_live_85 rfl rfl rfl ?_)
      refine sm_getI (pc' := 89) d_M_live_86 rfl fl_M_372 rfl ⟨by decide, by decide⟩ (fun v11 => ?_)
      refine sm_iast (pc' := 90) d_M_live_89 rfl (sm_aload_n (i := 0) (j := 0) (pc' := 91) d_M_live_90 rfl rfl rfl ?_)
      refine sm_getR (pc' := 94) d_M_live_91 rfl fl_M_74 rfl rfl (fun v12 => ?_)
      refine sm_iconst (pc' := 95) d_M_live_94 rfl ic_4 (sm_aload_n (i := 0) (j := 0) (pc' := 96) d_M_live_95 rfl rfl rfl ?_)
      refine sm_getI (pc' := 99) d_M_live_96 rfl fl_M_561 rfl ⟨by decide, by decide⟩ (fun v13 => ?_)
      refine sm_iast (pc' := 100) d_M_live_99 rfl (sm_aload_n (i := 0) (j := 0) (pc' := 101) d_M_live_100 rfl rfl rfl (sm_iconst (pc' := 102) d_M_live_101 rfl ic_1 (sm_putZ (pc' := 105) d_M_live_102 rfl fl_M_584 (Or.inl rfl) rfl (sm_aload_n (i := 0) (j := 0) (pc' := 106) d_M_live_105 rfl rfl rfl ?_))))
      refine sm_getI (pc' := 109) d_M_live_106 rfl fl_M_554 rfl ⟨by decide, by decide⟩ (fun v14 => ?_)
      exact sm_ireturn d_M_live_109 rfl rfl
    · refine sm_aload_n (i := 0) (j := 0) (pc' := 39) d_M_live_38 rfl rfl rfl (sm_bipush (pc' := 41) d_M_live_39 rfl ib_8 ?_)
      refine sm_callVi (ci := 11) (x := x0) (av := [.inl 8]) (st := []) (mc := 0) (ms := 0) (pc' := 44) d_M_live_41 rfl (sd_M_refuse x0 8) m_lv rfl cv_M_refuse w_ml_M_331 rfl rfl (by decide) (Nat.le_of_ble_eq_true rfl) rfl rfl (fun v15 => ?_)
      exact sm_ireturn d_M_live_44 rfl rfl
  · refine sm_aload_n (i := 0) (j := 0) (pc' := 23) d_M_live_22 rfl rfl rfl (sm_iconst (pc' := 24) d_M_live_23 rfl ic_5 ?_)
    refine sm_callVi (ci := 11) (x := x0) (av := [.inl 5]) (st := []) (mc := 0) (ms := 0) (pc' := 27) d_M_live_24 rfl (sd_M_refuse x0 5) m_lv rfl cv_M_refuse w_ml_M_331 rfl rfl (by decide) (Nat.le_of_ble_eq_true rfl) rfl rfl (fun v16 => ?_)
    exact sm_ireturn d_M_live_27 rfl rfl
theorem d_M_lived_0 : m_D k_M_lived 0 (.aload_n 0) 1 := (by decide +kernel : decode prog_14_method_164_code 0 = .ok (.aload_n 0, 1))
theorem d_M_lived_1 : m_D k_M_lived 1 (.iconst 0) 1 := (by decide +kernel : decode prog_14_method_164_code 1 = .ok (.iconst 0, 1))
theorem d_M_lived_2 : m_D k_M_lived 2 (.putfield 81) 3 := (by decide +kernel : decode prog_14_method_164_code 2 = .ok (.putfield 81, 3))
theorem d_M_lived_5 : m_D k_M_lived 5 (.aload_n 0) 1 := (by decide +kernel : decode prog_14_method_164_code 5 = .ok (.aload_n 0, 1))
theorem d_M_lived_6 : m_D k_M_lived 6 (.iconst 0) 1 := (by decide +kernel : decode prog_14_method_164_code 6 = .ok (.iconst 0, 1))
theorem d_M_lived_7 : m_D k_M_lived 7 (.putfield 84) 3 := (by decide +kernel : decode prog_14_method_164_code 7 = .ok (.putfield 84, 3))
theorem d_M_lived_10 : m_D k_M_lived 10 (.iload_n 1) 1 := (by decide +kernel : decode prog_14_method_164_code 10 = .ok (.iload_n 1, 1))
theorem d_M_lived_11 : m_D k_M_lived 11 (.i2l) 1 := (by decide +kernel : decode prog_14_method_164_code 11 = .ok (.i2l, 1))
theorem d_M_lived_12 : m_D k_M_lived 12 (.lconst 0) 1 := (by decide +kernel : decode prog_14_method_164_code 12 = .ok (.lconst 0, 1))
theorem d_M_lived_13 : m_D k_M_lived 13 (.ldc2_w 352) 3 := (by decide +kernel : decode prog_14_method_164_code 13 = .ok (.ldc2_w 352, 3))
theorem d_M_lived_16 : m_D k_M_lived 16 (.invokestatic 116) 3 := (by decide +kernel : decode prog_14_method_164_code 16 = .ok (.invokestatic 116, 3))
theorem d_M_lived_19 : m_D k_M_lived 19 (.ifCond .ne 9) 3 := (by decide +kernel : decode prog_14_method_164_code 19 = .ok (.ifCond .ne 9, 3))
theorem d_M_lived_22 : m_D k_M_lived 22 (.aload_n 0) 1 := (by decide +kernel : decode prog_14_method_164_code 22 = .ok (.aload_n 0, 1))
theorem d_M_lived_23 : m_D k_M_lived 23 (.iconst 5) 1 := (by decide +kernel : decode prog_14_method_164_code 23 = .ok (.iconst 5, 1))
theorem d_M_lived_24 : m_D k_M_lived 24 (.invokevirtual 331) 3 := (by decide +kernel : decode prog_14_method_164_code 24 = .ok (.invokevirtual 331, 3))
theorem d_M_lived_27 : m_D k_M_lived 27 (.ireturn) 1 := (by decide +kernel : decode prog_14_method_164_code 27 = .ok (.ireturn, 1))
theorem d_M_lived_28 : m_D k_M_lived 28 (.aload_n 0) 1 := (by decide +kernel : decode prog_14_method_164_code 28 = .ok (.aload_n 0, 1))
theorem d_M_lived_29 : m_D k_M_lived 29 (.getfield 584) 3 := (by decide +kernel : decode prog_14_method_164_code 29 = .ok (.getfield 584, 3))
theorem d_M_lived_32 : m_D k_M_lived 32 (.ifCond .eq 12) 3 := (by decide +kernel : decode prog_14_method_164_code 32 = .ok (.ifCond .eq 12, 3))
theorem d_M_lived_35 : m_D k_M_lived 35 (.aload_n 0) 1 := (by decide +kernel : decode prog_14_method_164_code 35 = .ok (.aload_n 0, 1))
theorem d_M_lived_36 : m_D k_M_lived 36 (.getfield 74) 3 := (by decide +kernel : decode prog_14_method_164_code 36 = .ok (.getfield 74, 3))
theorem d_M_lived_39 : m_D k_M_lived 39 (.iload_n 1) 1 := (by decide +kernel : decode prog_14_method_164_code 39 = .ok (.iload_n 1, 1))
theorem d_M_lived_40 : m_D k_M_lived 40 (.iaload) 1 := (by decide +kernel : decode prog_14_method_164_code 40 = .ok (.iaload, 1))
theorem d_M_lived_41 : m_D k_M_lived 41 (.goto 9) 3 := (by decide +kernel : decode prog_14_method_164_code 41 = .ok (.goto 9, 3))
theorem d_M_lived_44 : m_D k_M_lived 44 (.aload_n 0) 1 := (by decide +kernel : decode prog_14_method_164_code 44 = .ok (.aload_n 0, 1))
theorem d_M_lived_45 : m_D k_M_lived 45 (.bipush 8) 2 := (by decide +kernel : decode prog_14_method_164_code 45 = .ok (.bipush 8, 2))
theorem d_M_lived_47 : m_D k_M_lived 47 (.invokevirtual 331) 3 := (by decide +kernel : decode prog_14_method_164_code 47 = .ok (.invokevirtual 331, 3))
theorem d_M_lived_50 : m_D k_M_lived 50 (.ireturn) 1 := (by decide +kernel : decode prog_14_method_164_code 50 = .ok (.ireturn, 1))
def fn_M_lived (x0 : Option mA) (x1 : Int32) : mP Int32 :=
  m_th 11 x0 <|
  m_bd (m_pI 11 1 x0 0) fun _ =>
  m_bd (m_pI 11 0 x0 0) fun _ =>
  m_bd (fn_M_isIn (x1).toInt64 0 4) fun v1 =>
  if v1 = 0 then
    m_bd (fn_M_refuse x0 5) fun v6 =>
    m_rt v6
  else
    m_bd (m_gI 11 43 x0) fun v2 =>
    if v2 = 0 then
      m_bd (fn_M_refuse x0 8) fun v3 =>
      m_rt v3
    else
      m_bd (m_gR 11 42 x0) fun v4 =>
      m_bd (m_aI 0 v4 x1) fun v5 =>
      m_rt v5
set_option maxHeartbeats 4000000 in
set_option maxRecDepth 100000 in
theorem sd_M_lived (x0 : Option mA) (x1 : Int32) : m_Sm k_M_lived 2 0 0 [.inr (.inr x0), .inl x1] (fn_M_lived x0 x1) (fun b => some (.inl b)) := by
  refine ⟨Nat.le_of_ble_eq_true rfl, ?_⟩
  refine sm_th ?_
  refine sm_aload_n (i := 0) (j := 0) (pc' := 1) d_M_lived_0 rfl rfl rfl (sm_iconst (pc' := 2) d_M_lived_1 rfl ic_0 (sm_putI (pc' := 5) d_M_lived_2 rfl fl_M_81 (Or.inl rfl) rfl (sm_aload_n (i := 0) (j := 0) (pc' := 6) d_M_lived_5 rfl rfl rfl (sm_iconst (pc' := 7) d_M_lived_6 rfl ic_0 (sm_putI (pc' := 10) d_M_lived_7 rfl fl_M_84 (Or.inl rfl) rfl (sm_iload_n (i := 1) (j := 1) (pc' := 11) d_M_lived_10 rfl rfl rfl (sm_i2l (pc' := 12) d_M_lived_11 rfl (sm_lconst (pc' := 13) (v := 0) d_M_lived_12 rfl rfl (sm_ldc2 (v := 4) (pc' := 16) d_M_lived_13 rfl w_cl_M_352 ?_)))))))))
  refine sm_callSi (av := [.inr (.inl (x1).toInt64), .inr (.inl 0), .inr (.inl 4)]) (st := []) (mc := 0) (ms := 0) (pc' := 19) d_M_lived_16 rfl (sd_M_isIn (x1).toInt64 0 4) cs_M_isIn w_ml_M_116 rfl rfl (by decide) (Nat.le_of_ble_eq_true rfl) rfl rfl (fun v1 => ?_)
  refine sm_if_ne (tgt := 28) (pc' := 22) d_M_lived_19 rfl rfl ?_ ?_
  · refine sm_aload_n (i := 0) (j := 0) (pc' := 29) d_M_lived_28 rfl rfl rfl ?_
    refine sm_getI (pc' := 32) d_M_lived_29 rfl fl_M_584 rfl ⟨by decide, by decide⟩ (fun v2 => ?_)
    refine sm_if_eq (tgt := 44) (pc' := 35) d_M_lived_32 rfl rfl ?_ ?_
    · refine sm_aload_n (i := 0) (j := 0) (pc' := 45) d_M_lived_44 rfl rfl rfl (sm_bipush (pc' := 47) d_M_lived_45 rfl ib_8 ?_)
      refine sm_callVi (ci := 11) (x := x0) (av := [.inl 8]) (st := []) (mc := 0) (ms := 0) (pc' := 50) d_M_lived_47 rfl (sd_M_refuse x0 8) m_lv rfl cv_M_refuse w_ml_M_331 rfl rfl (by decide) (Nat.le_of_ble_eq_true rfl) rfl rfl (fun v3 => ?_)
      exact sm_ireturn d_M_lived_50 rfl rfl
    · refine sm_aload_n (i := 0) (j := 0) (pc' := 36) d_M_lived_35 rfl rfl rfl ?_
      refine sm_getR (pc' := 39) d_M_lived_36 rfl fl_M_74 rfl rfl (fun v4 => ?_)
      refine sm_iload_n (i := 1) (j := 1) (pc' := 40) d_M_lived_39 rfl rfl rfl ?_
      refine sm_iald (pc' := 41) d_M_lived_40 rfl (fun v5 => ?_)
      refine sm_goto (tgt := 50) d_M_lived_41 rfl ?_
      exact sm_ireturn d_M_lived_50 rfl rfl
  · refine sm_aload_n (i := 0) (j := 0) (pc' := 23) d_M_lived_22 rfl rfl rfl (sm_iconst (pc' := 24) d_M_lived_23 rfl ic_5 ?_)
    refine sm_callVi (ci := 11) (x := x0) (av := [.inl 5]) (st := []) (mc := 0) (ms := 0) (pc' := 27) d_M_lived_24 rfl (sd_M_refuse x0 5) m_lv rfl cv_M_refuse w_ml_M_331 rfl rfl (by decide) (Nat.le_of_ble_eq_true rfl) rfl rfl (fun v6 => ?_)
    exact sm_ireturn d_M_lived_27 rfl rfl
theorem d_M_mean_0 : m_D k_M_mean 0 (.aload_n 0) 1 := (by decide +kernel : decode prog_14_method_165_code 0 = .ok (.aload_n 0, 1))
theorem d_M_mean_1 : m_D k_M_mean 1 (.iconst 0) 1 := (by decide +kernel : decode prog_14_method_165_code 1 = .ok (.iconst 0, 1))
theorem d_M_mean_2 : m_D k_M_mean 2 (.putfield 81) 3 := (by decide +kernel : decode prog_14_method_165_code 2 = .ok (.putfield 81, 3))
theorem d_M_mean_5 : m_D k_M_mean 5 (.aload_n 0) 1 := (by decide +kernel : decode prog_14_method_165_code 5 = .ok (.aload_n 0, 1))
theorem d_M_mean_6 : m_D k_M_mean 6 (.iconst 0) 1 := (by decide +kernel : decode prog_14_method_165_code 6 = .ok (.iconst 0, 1))
theorem d_M_mean_7 : m_D k_M_mean 7 (.putfield 84) 3 := (by decide +kernel : decode prog_14_method_165_code 7 = .ok (.putfield 84, 3))
theorem d_M_mean_10 : m_D k_M_mean 10 (.iload_n 2) 1 := (by decide +kernel : decode prog_14_method_165_code 10 = .ok (.iload_n 2, 1))
theorem d_M_mean_11 : m_D k_M_mean 11 (.i2l) 1 := (by decide +kernel : decode prog_14_method_165_code 11 = .ok (.i2l, 1))
theorem d_M_mean_12 : m_D k_M_mean 12 (.lconst 1) 1 := (by decide +kernel : decode prog_14_method_165_code 12 = .ok (.lconst 1, 1))
theorem d_M_mean_13 : m_D k_M_mean 13 (.ldc2_w 439) 3 := (by decide +kernel : decode prog_14_method_165_code 13 = .ok (.ldc2_w 439, 3))
theorem d_M_mean_16 : m_D k_M_mean 16 (.invokestatic 116) 3 := (by decide +kernel : decode prog_14_method_165_code 16 = .ok (.invokestatic 116, 3))
theorem d_M_mean_19 : m_D k_M_mean 19 (.ifCond .eq 18) 3 := (by decide +kernel : decode prog_14_method_165_code 19 = .ok (.ifCond .eq 18, 3))
theorem d_M_mean_22 : m_D k_M_mean 22 (.iload_n 1) 1 := (by decide +kernel : decode prog_14_method_165_code 22 = .ok (.iload_n 1, 1))
theorem d_M_mean_23 : m_D k_M_mean 23 (.i2l) 1 := (by decide +kernel : decode prog_14_method_165_code 23 = .ok (.i2l, 1))
theorem d_M_mean_24 : m_D k_M_mean 24 (.lconst 0) 1 := (by decide +kernel : decode prog_14_method_165_code 24 = .ok (.lconst 0, 1))
theorem d_M_mean_25 : m_D k_M_mean 25 (.sipush 10000) 3 := (by decide +kernel : decode prog_14_method_165_code 25 = .ok (.sipush 10000, 3))
theorem d_M_mean_28 : m_D k_M_mean 28 (.iload_n 2) 1 := (by decide +kernel : decode prog_14_method_165_code 28 = .ok (.iload_n 2, 1))
theorem d_M_mean_29 : m_D k_M_mean 29 (.isub) 1 := (by decide +kernel : decode prog_14_method_165_code 29 = .ok (.isub, 1))
theorem d_M_mean_30 : m_D k_M_mean 30 (.i2l) 1 := (by decide +kernel : decode prog_14_method_165_code 30 = .ok (.i2l, 1))
theorem d_M_mean_31 : m_D k_M_mean 31 (.invokestatic 116) 3 := (by decide +kernel : decode prog_14_method_165_code 31 = .ok (.invokestatic 116, 3))
theorem d_M_mean_34 : m_D k_M_mean 34 (.ifCond .ne 9) 3 := (by decide +kernel : decode prog_14_method_165_code 34 = .ok (.ifCond .ne 9, 3))
theorem d_M_mean_37 : m_D k_M_mean 37 (.aload_n 0) 1 := (by decide +kernel : decode prog_14_method_165_code 37 = .ok (.aload_n 0, 1))
theorem d_M_mean_38 : m_D k_M_mean 38 (.iconst 5) 1 := (by decide +kernel : decode prog_14_method_165_code 38 = .ok (.iconst 5, 1))
theorem d_M_mean_39 : m_D k_M_mean 39 (.invokevirtual 96) 3 := (by decide +kernel : decode prog_14_method_165_code 39 = .ok (.invokevirtual 96, 3))
theorem d_M_mean_42 : m_D k_M_mean 42 (.ireturn) 1 := (by decide +kernel : decode prog_14_method_165_code 42 = .ok (.ireturn, 1))
theorem d_M_mean_43 : m_D k_M_mean 43 (.aload_n 0) 1 := (by decide +kernel : decode prog_14_method_165_code 43 = .ok (.aload_n 0, 1))
theorem d_M_mean_44 : m_D k_M_mean 44 (.getfield 35) 3 := (by decide +kernel : decode prog_14_method_165_code 44 = .ok (.getfield 35, 3))
theorem d_M_mean_47 : m_D k_M_mean 47 (.bipush 105) 2 := (by decide +kernel : decode prog_14_method_165_code 47 = .ok (.bipush 105, 2))
theorem d_M_mean_49 : m_D k_M_mean 49 (.iaload) 1 := (by decide +kernel : decode prog_14_method_165_code 49 = .ok (.iaload, 1))
theorem d_M_mean_50 : m_D k_M_mean 50 (.ifCond .ne 10) 3 := (by decide +kernel : decode prog_14_method_165_code 50 = .ok (.ifCond .ne 10, 3))
theorem d_M_mean_53 : m_D k_M_mean 53 (.aload_n 0) 1 := (by decide +kernel : decode prog_14_method_165_code 53 = .ok (.aload_n 0, 1))
theorem d_M_mean_54 : m_D k_M_mean 54 (.bipush 8) 2 := (by decide +kernel : decode prog_14_method_165_code 54 = .ok (.bipush 8, 2))
theorem d_M_mean_56 : m_D k_M_mean 56 (.invokevirtual 96) 3 := (by decide +kernel : decode prog_14_method_165_code 56 = .ok (.invokevirtual 96, 3))
theorem d_M_mean_59 : m_D k_M_mean 59 (.ireturn) 1 := (by decide +kernel : decode prog_14_method_165_code 59 = .ok (.ireturn, 1))
theorem d_M_mean_60 : m_D k_M_mean 60 (.iconst 0) 1 := (by decide +kernel : decode prog_14_method_165_code 60 = .ok (.iconst 0, 1))
theorem d_M_mean_61 : m_D k_M_mean 61 (.istore_n 3) 1 := (by decide +kernel : decode prog_14_method_165_code 61 = .ok (.istore_n 3, 1))
theorem d_M_mean_62 : m_D k_M_mean 62 (.iload_n 3) 1 := (by decide +kernel : decode prog_14_method_165_code 62 = .ok (.iload_n 3, 1))
theorem d_M_mean_63 : m_D k_M_mean 63 (.bipush 105) 2 := (by decide +kernel : decode prog_14_method_165_code 63 = .ok (.bipush 105, 2))
theorem d_M_mean_65 : m_D k_M_mean 65 (.if_icmp .ge 21) 3 := (by decide +kernel : decode prog_14_method_165_code 65 = .ok (.if_icmp .ge 21, 3))
theorem d_M_mean_68 : m_D k_M_mean 68 (.aload_n 0) 1 := (by decide +kernel : decode prog_14_method_165_code 68 = .ok (.aload_n 0, 1))
theorem d_M_mean_69 : m_D k_M_mean 69 (.getfield 41) 3 := (by decide +kernel : decode prog_14_method_165_code 69 = .ok (.getfield 41, 3))
theorem d_M_mean_72 : m_D k_M_mean 72 (.iload_n 3) 1 := (by decide +kernel : decode prog_14_method_165_code 72 = .ok (.iload_n 3, 1))
theorem d_M_mean_73 : m_D k_M_mean 73 (.aload_n 0) 1 := (by decide +kernel : decode prog_14_method_165_code 73 = .ok (.aload_n 0, 1))
theorem d_M_mean_74 : m_D k_M_mean 74 (.getfield 35) 3 := (by decide +kernel : decode prog_14_method_165_code 74 = .ok (.getfield 35, 3))
theorem d_M_mean_77 : m_D k_M_mean 77 (.iload_n 3) 1 := (by decide +kernel : decode prog_14_method_165_code 77 = .ok (.iload_n 3, 1))
theorem d_M_mean_78 : m_D k_M_mean 78 (.iaload) 1 := (by decide +kernel : decode prog_14_method_165_code 78 = .ok (.iaload, 1))
theorem d_M_mean_79 : m_D k_M_mean 79 (.iastore) 1 := (by decide +kernel : decode prog_14_method_165_code 79 = .ok (.iastore, 1))
theorem d_M_mean_80 : m_D k_M_mean 80 (.iinc 3 1) 3 := (by decide +kernel : decode prog_14_method_165_code 80 = .ok (.iinc 3 1, 3))
theorem d_M_mean_83 : m_D k_M_mean 83 (.goto (-21)) 3 := (by decide +kernel : decode prog_14_method_165_code 83 = .ok (.goto (-21), 3))
theorem d_M_mean_86 : m_D k_M_mean 86 (.lconst 0) 1 := (by decide +kernel : decode prog_14_method_165_code 86 = .ok (.lconst 0, 1))
theorem d_M_mean_87 : m_D k_M_mean 87 (.lstore_n 3) 1 := (by decide +kernel : decode prog_14_method_165_code 87 = .ok (.lstore_n 3, 1))
theorem d_M_mean_88 : m_D k_M_mean 88 (.iconst 0) 1 := (by decide +kernel : decode prog_14_method_165_code 88 = .ok (.iconst 0, 1))
theorem d_M_mean_89 : m_D k_M_mean 89 (.istore 5) 2 := (by decide +kernel : decode prog_14_method_165_code 89 = .ok (.istore 5, 2))
theorem d_M_mean_91 : m_D k_M_mean 91 (.iload 5) 2 := (by decide +kernel : decode prog_14_method_165_code 91 = .ok (.iload 5, 2))
theorem d_M_mean_93 : m_D k_M_mean 93 (.iload_n 2) 1 := (by decide +kernel : decode prog_14_method_165_code 93 = .ok (.iload_n 2, 1))
theorem d_M_mean_94 : m_D k_M_mean 94 (.if_icmp .ge 55) 3 := (by decide +kernel : decode prog_14_method_165_code 94 = .ok (.if_icmp .ge 55, 3))
theorem d_M_mean_97 : m_D k_M_mean 97 (.aload_n 0) 1 := (by decide +kernel : decode prog_14_method_165_code 97 = .ok (.aload_n 0, 1))
theorem d_M_mean_98 : m_D k_M_mean 98 (.iload_n 1) 1 := (by decide +kernel : decode prog_14_method_165_code 98 = .ok (.iload_n 1, 1))
theorem d_M_mean_99 : m_D k_M_mean 99 (.iload 5) 2 := (by decide +kernel : decode prog_14_method_165_code 99 = .ok (.iload 5, 2))
theorem d_M_mean_101 : m_D k_M_mean 101 (.iadd) 1 := (by decide +kernel : decode prog_14_method_165_code 101 = .ok (.iadd, 1))
theorem d_M_mean_102 : m_D k_M_mean 102 (.invokevirtual 581) 3 := (by decide +kernel : decode prog_14_method_165_code 102 = .ok (.invokevirtual 581, 3))
theorem d_M_mean_105 : m_D k_M_mean 105 (.lload_n 3) 1 := (by decide +kernel : decode prog_14_method_165_code 105 = .ok (.lload_n 3, 1))
theorem d_M_mean_106 : m_D k_M_mean 106 (.aload_n 0) 1 := (by decide +kernel : decode prog_14_method_165_code 106 = .ok (.aload_n 0, 1))
theorem d_M_mean_107 : m_D k_M_mean 107 (.invokevirtual 346) 3 := (by decide +kernel : decode prog_14_method_165_code 107 = .ok (.invokevirtual 346, 3))
theorem d_M_mean_110 : m_D k_M_mean 110 (.i2l) 1 := (by decide +kernel : decode prog_14_method_165_code 110 = .ok (.i2l, 1))
theorem d_M_mean_111 : m_D k_M_mean 111 (.ladd) 1 := (by decide +kernel : decode prog_14_method_165_code 111 = .ok (.ladd, 1))
theorem d_M_mean_112 : m_D k_M_mean 112 (.lstore_n 3) 1 := (by decide +kernel : decode prog_14_method_165_code 112 = .ok (.lstore_n 3, 1))
theorem d_M_mean_113 : m_D k_M_mean 113 (.iconst 0) 1 := (by decide +kernel : decode prog_14_method_165_code 113 = .ok (.iconst 0, 1))
theorem d_M_mean_114 : m_D k_M_mean 114 (.istore 6) 2 := (by decide +kernel : decode prog_14_method_165_code 114 = .ok (.istore 6, 2))
theorem d_M_mean_116 : m_D k_M_mean 116 (.iload 6) 2 := (by decide +kernel : decode prog_14_method_165_code 116 = .ok (.iload 6, 2))
theorem d_M_mean_118 : m_D k_M_mean 118 (.bipush 105) 2 := (by decide +kernel : decode prog_14_method_165_code 118 = .ok (.bipush 105, 2))
theorem d_M_mean_120 : m_D k_M_mean 120 (.if_icmp .ge 23) 3 := (by decide +kernel : decode prog_14_method_165_code 120 = .ok (.if_icmp .ge 23, 3))
theorem d_M_mean_123 : m_D k_M_mean 123 (.aload_n 0) 1 := (by decide +kernel : decode prog_14_method_165_code 123 = .ok (.aload_n 0, 1))
theorem d_M_mean_124 : m_D k_M_mean 124 (.getfield 35) 3 := (by decide +kernel : decode prog_14_method_165_code 124 = .ok (.getfield 35, 3))
theorem d_M_mean_127 : m_D k_M_mean 127 (.iload 6) 2 := (by decide +kernel : decode prog_14_method_165_code 127 = .ok (.iload 6, 2))
theorem d_M_mean_129 : m_D k_M_mean 129 (.aload_n 0) 1 := (by decide +kernel : decode prog_14_method_165_code 129 = .ok (.aload_n 0, 1))
theorem d_M_mean_130 : m_D k_M_mean 130 (.getfield 41) 3 := (by decide +kernel : decode prog_14_method_165_code 130 = .ok (.getfield 41, 3))
theorem d_M_mean_133 : m_D k_M_mean 133 (.iload 6) 2 := (by decide +kernel : decode prog_14_method_165_code 133 = .ok (.iload 6, 2))
theorem d_M_mean_135 : m_D k_M_mean 135 (.iaload) 1 := (by decide +kernel : decode prog_14_method_165_code 135 = .ok (.iaload, 1))
theorem d_M_mean_136 : m_D k_M_mean 136 (.iastore) 1 := (by decide +kernel : decode prog_14_method_165_code 136 = .ok (.iastore, 1))
theorem d_M_mean_137 : m_D k_M_mean 137 (.iinc 6 1) 3 := (by decide +kernel : decode prog_14_method_165_code 137 = .ok (.iinc 6 1, 3))
theorem d_M_mean_140 : m_D k_M_mean 140 (.goto (-24)) 3 := (by decide +kernel : decode prog_14_method_165_code 140 = .ok (.goto (-24), 3))
theorem d_M_mean_143 : m_D k_M_mean 143 (.iinc 5 1) 3 := (by decide +kernel : decode prog_14_method_165_code 143 = .ok (.iinc 5 1, 3))
theorem d_M_mean_146 : m_D k_M_mean 146 (.goto (-55)) 3 := (by decide +kernel : decode prog_14_method_165_code 146 = .ok (.goto (-55), 3))
theorem d_M_mean_149 : m_D k_M_mean 149 (.aload_n 0) 1 := (by decide +kernel : decode prog_14_method_165_code 149 = .ok (.aload_n 0, 1))
theorem d_M_mean_150 : m_D k_M_mean 150 (.lload_n 3) 1 := (by decide +kernel : decode prog_14_method_165_code 150 = .ok (.lload_n 3, 1))
theorem d_M_mean_151 : m_D k_M_mean 151 (.iload_n 2) 1 := (by decide +kernel : decode prog_14_method_165_code 151 = .ok (.iload_n 2, 1))
theorem d_M_mean_152 : m_D k_M_mean 152 (.i2l) 1 := (by decide +kernel : decode prog_14_method_165_code 152 = .ok (.i2l, 1))
theorem d_M_mean_153 : m_D k_M_mean 153 (.invokevirtual 522) 3 := (by decide +kernel : decode prog_14_method_165_code 153 = .ok (.invokevirtual 522, 3))
theorem d_M_mean_156 : m_D k_M_mean 156 (.ireturn) 1 := (by decide +kernel : decode prog_14_method_165_code 156 = .ok (.ireturn, 1))
def fn_M_mean_l62 (x0 : Option mA) (t6 : Int32) : mP ((Int32) ⊕ (Unit)) :=
  if 105 ≤ t6 then
    m_rt (.inr ())
  else
    m_bd (m_gR 11 22 x0) fun v7 =>
    m_bd (m_gR 11 20 x0) fun v8 =>
    m_bd (m_aI 0 v8 t6) fun v9 =>
    m_bd (m_tI 0 v7 t6 v9) fun _ =>
    m_rt (.inl (t6 + 1))
def fn_M_mean_l116 (x0 : Option mA) (t13 : Int32) : mP ((Int32) ⊕ (Unit)) :=
  if 105 ≤ t13 then
    m_rt (.inr ())
  else
    m_bd (m_gR 11 20 x0) fun v14 =>
    m_bd (m_gR 11 22 x0) fun v15 =>
    m_bd (m_aI 0 v15 t13) fun v16 =>
    m_bd (m_tI 0 v14 t13 v16) fun _ =>
    m_rt (.inl (t13 + 1))
def fn_M_mean_l91 (x0 : Option mA) (x1 : Int32) (x2 : Int32) (t11 : Int64 × Int32) : mP ((Int64 × Int32) ⊕ (Int64)) :=
  if x2 ≤ t11.2 then
    m_rt (.inr t11.1)
  else
    m_bd (fn_M_runsYears x0 (x1 + t11.2)) fun _ =>
    m_bd (fn_M_allRust x0) fun v12 =>
    m_bd (m_lp (fn_M_mean_l116 x0) m_F 0) fun (t17 : Unit) =>
    m_rt (.inl ((t11.1 + (v12).toInt64), (t11.2 + 1)))
def fn_M_mean (x0 : Option mA) (x1 : Int32) (x2 : Int32) : mP Int32 :=
  m_th 11 x0 <|
  m_bd (m_pI 11 1 x0 0) fun _ =>
  m_bd (m_pI 11 0 x0 0) fun _ =>
  m_bd (fn_M_isIn (x2).toInt64 1 20) fun v1 =>
  if v1 = 0 then
    m_bd (fn_M_no x0 5) fun v2 =>
    m_bd (m_cz v2) fun _ => m_rt v2
  else
    m_bd (fn_M_isIn (x1).toInt64 0 ((10000 - x2)).toInt64) fun v3 =>
    if v3 = 0 then
      m_bd (fn_M_no x0 5) fun v21 =>
      m_bd (m_cz v21) fun _ => m_rt v21
    else
      m_bd (m_gR 11 20 x0) fun v4 =>
      m_bd (m_aI 0 v4 105) fun v5 =>
      if v5 = 0 then
        m_bd (fn_M_no x0 8) fun v20 =>
        m_bd (m_cz v20) fun _ => m_rt v20
      else
        m_bd (m_lp (fn_M_mean_l62 x0) m_F 0) fun (t10 : Unit) =>
        m_bd (m_lp (fn_M_mean_l91 x0 x1 x2) m_F (0, 0)) fun (t18 : Int64) =>
        m_bd (fn_M_fraction x0 t18 (x2).toInt64) fun v19 =>
        m_bd (m_cz v19) fun _ => m_rt v19
set_option maxHeartbeats 4000000 in
set_option maxRecDepth 100000 in
theorem sd_M_mean (x0 : Option mA) (x1 : Int32) (x2 : Int32) : m_Sm k_M_mean 26 0 0 [.inr (.inr x0), .inl x1, .inl x2] (fn_M_mean x0 x1 x2) (fun b => some (.inl b)) := by
  refine ⟨Nat.le_of_ble_eq_true rfl, ?_⟩
  refine sm_th ?_
  refine sm_aload_n (i := 0) (j := 0) (pc' := 1) d_M_mean_0 rfl rfl rfl (sm_iconst (pc' := 2) d_M_mean_1 rfl ic_0 (sm_putI (pc' := 5) d_M_mean_2 rfl fl_M_81 (Or.inl rfl) rfl (sm_aload_n (i := 0) (j := 0) (pc' := 6) d_M_mean_5 rfl rfl rfl (sm_iconst (pc' := 7) d_M_mean_6 rfl ic_0 (sm_putI (pc' := 10) d_M_mean_7 rfl fl_M_84 (Or.inl rfl) rfl (sm_iload_n (i := 2) (j := 2) (pc' := 11) d_M_mean_10 rfl rfl rfl (sm_i2l (pc' := 12) d_M_mean_11 rfl (sm_lconst (pc' := 13) (v := 1) d_M_mean_12 rfl rfl (sm_ldc2 (v := 20) (pc' := 16) d_M_mean_13 rfl w_cl_M_439 ?_)))))))))
  refine sm_callSi (av := [.inr (.inl (x2).toInt64), .inr (.inl 1), .inr (.inl 20)]) (st := []) (mc := 0) (ms := 0) (pc' := 19) d_M_mean_16 rfl (sd_M_isIn (x2).toInt64 1 20) cs_M_isIn w_ml_M_116 rfl rfl (by decide) (Nat.le_of_ble_eq_true rfl) rfl rfl (fun v1 => ?_)
  refine sm_if_eq (tgt := 37) (pc' := 22) d_M_mean_19 rfl rfl ?_ ?_
  · refine sm_aload_n (i := 0) (j := 0) (pc' := 38) d_M_mean_37 rfl rfl rfl (sm_iconst (pc' := 39) d_M_mean_38 rfl ic_5 ?_)
    refine sm_callVi (ci := 11) (x := x0) (av := [.inl 5]) (st := []) (mc := 0) (ms := 0) (pc' := 42) d_M_mean_39 rfl (sd_M_no x0 5) m_lv rfl cv_M_no w_ml_M_96 rfl rfl (by decide) (Nat.le_of_ble_eq_true rfl) rfl rfl (fun v2 => ?_)
    exact sm_zretC d_M_mean_42 rfl rfl
  · refine sm_iload_n (i := 1) (j := 1) (pc' := 23) d_M_mean_22 rfl rfl rfl (sm_i2l (pc' := 24) d_M_mean_23 rfl (sm_lconst (pc' := 25) (v := 0) d_M_mean_24 rfl rfl (sm_sipush (pc' := 28) d_M_mean_25 rfl is_10000 (sm_iload_n (i := 2) (j := 2) (pc' := 29) d_M_mean_28 rfl rfl rfl (sm_isub (pc' := 30) d_M_mean_29 rfl (sm_i2l (pc' := 31) d_M_mean_30 rfl ?_))))))
    refine sm_callSi (av := [.inr (.inl (x1).toInt64), .inr (.inl 0), .inr (.inl ((10000 - x2)).toInt64)]) (st := []) (mc := 0) (ms := 0) (pc' := 34) d_M_mean_31 rfl (sd_M_isIn (x1).toInt64 0 ((10000 - x2)).toInt64) cs_M_isIn w_ml_M_116 rfl rfl (by decide) (Nat.le_of_ble_eq_true rfl) rfl rfl (fun v3 => ?_)
    refine sm_if_ne (tgt := 43) (pc' := 37) d_M_mean_34 rfl rfl ?_ ?_
    · refine sm_aload_n (i := 0) (j := 0) (pc' := 44) d_M_mean_43 rfl rfl rfl ?_
      refine sm_getR (pc' := 47) d_M_mean_44 rfl fl_M_35 rfl rfl (fun v4 => ?_)
      refine sm_bipush (pc' := 49) d_M_mean_47 rfl ib_105 ?_
      refine sm_iald (pc' := 50) d_M_mean_49 rfl (fun v5 => ?_)
      refine sm_if_ne (tgt := 60) (pc' := 53) d_M_mean_50 rfl rfl ?_ ?_
      · refine sm_iconst (pc' := 61) d_M_mean_60 rfl ic_0 (sm_istore_n (i := 3) (L' := [(3, .inl 0), (0, .inr (.inr x0)), (1, .inl x1), (2, .inl x2)]) (pc' := 62) d_M_mean_61 rfl rfl (Nat.le_of_ble_eq_true rfl) rfl ?_)
        refine sm_sub [0, 1, 2, 3] rfl ?_
        refine sm_bd (mid := fun (t10 : Unit) => .inl (86, [(0, .inr (.inr x0)), (1, .inl x1), (2, .inl x2)], [])) (sm_lp (hd := fun (t6 : Int32) => (.inl (62, [(3, .inl t6), (0, .inr (.inr x0)), (1, .inl x1), (2, .inl x2)], []) : mC)) (fun t6 => ?_) m_F 0) (fun t10 => ?_)
        · refine sm_iload_n (i := 3) (j := 0) (pc' := 63) d_M_mean_62 rfl rfl rfl (sm_bipush (pc' := 65) d_M_mean_63 rfl ib_105 ?_)
          refine sm_icmp_ge (tgt := 86) (pc' := 68) d_M_mean_65 rfl rfl ?_ ?_
          · refine sm_sub [1, 2, 3] rfl ?_
            exact sm_rt rfl
          · refine sm_aload_n (i := 0) (j := 1) (pc' := 69) d_M_mean_68 rfl rfl rfl ?_
            refine sm_getR (pc' := 72) d_M_mean_69 rfl fl_M_41 rfl rfl (fun v7 => ?_)
            refine sm_iload_n (i := 3) (j := 0) (pc' := 73) d_M_mean_72 rfl rfl rfl (sm_aload_n (i := 0) (j := 1) (pc' := 74) d_M_mean_73 rfl rfl rfl ?_)
            refine sm_getR (pc' := 77) d_M_mean_74 rfl fl_M_35 rfl rfl (fun v8 => ?_)
            refine sm_iload_n (i := 3) (j := 0) (pc' := 78) d_M_mean_77 rfl rfl rfl ?_
            refine sm_iald (pc' := 79) d_M_mean_78 rfl (fun v9 => ?_)
            refine sm_iast (pc' := 80) d_M_mean_79 rfl (sm_iinc (j := 0) (L' := [(3, .inl (t6 + 1)), (0, .inr (.inr x0)), (1, .inl x1), (2, .inl x2)]) (pc' := 83) d_M_mean_80 rfl (v := (t6 + 1)) rfl (ix_1 _) (Nat.le_of_ble_eq_true rfl) rfl (sm_goto (tgt := 62) d_M_mean_83 rfl (sm_sub [0, 1, 2, 3] rfl ?_)))
            exact sm_rt rfl
        · refine sm_lconst (pc' := 87) (v := 0) d_M_mean_86 rfl rfl (sm_lstore_n (i := 3) (L' := [(3, .inr (.inl 0)), (0, .inr (.inr x0)), (1, .inl x1), (2, .inl x2)]) (pc' := 88) d_M_mean_87 rfl rfl (Nat.le_of_ble_eq_true rfl) rfl (sm_iconst (pc' := 89) d_M_mean_88 rfl ic_0 (sm_istore (L' := [(5, .inl 0), (3, .inr (.inl 0)), (0, .inr (.inr x0)), (1, .inl x1), (2, .inl x2)]) (pc' := 91) d_M_mean_89 rfl (Nat.le_of_ble_eq_true rfl) rfl ?_)))
          refine sm_sub [1, 0, 2, 3, 4] rfl ?_
          refine sm_bd (mid := fun (t18 : Int64) => .inl (149, [(3, .inr (.inl t18)), (0, .inr (.inr x0)), (2, .inl x2)], [])) (sm_lp (hd := fun (t11 : Int64 × Int32) => (.inl (91, [(3, .inr (.inl t11.1)), (5, .inl t11.2), (0, .inr (.inr x0)), (1, .inl x1), (2, .inl x2)], []) : mC)) (fun t11 => ?_) m_F (0, 0)) (fun t18 => ?_)
          · refine sm_iload (j := 1) (pc' := 93) d_M_mean_91 rfl rfl (sm_iload_n (i := 2) (j := 4) (pc' := 94) d_M_mean_93 rfl rfl rfl ?_)
            refine sm_icmp_ge (tgt := 149) (pc' := 97) d_M_mean_94 rfl rfl ?_ ?_
            · refine sm_sub [0, 2, 4] rfl ?_
              exact sm_rt rfl
            · refine sm_aload_n (i := 0) (j := 2) (pc' := 98) d_M_mean_97 rfl rfl rfl (sm_iload_n (i := 1) (j := 3) (pc' := 99) d_M_mean_98 rfl rfl rfl (sm_iload (j := 1) (pc' := 101) d_M_mean_99 rfl rfl (sm_iadd (pc' := 102) d_M_mean_101 rfl ?_)))
              refine sm_callVv (ci := 11) (x := x0) (av := [.inl (x1 + t11.2)]) (st := []) (mc := 0) (ms := 0) (pc' := 105) d_M_mean_102 rfl (sd_M_runsYears x0 (x1 + t11.2)) m_lv rfl cv_M_runsYears w_ml_M_581 rfl rfl (by decide) (Nat.le_of_ble_eq_true rfl) rfl rfl ?_
              refine sm_lload_n (i := 3) (j := 0) (pc' := 106) d_M_mean_105 rfl rfl rfl (sm_aload_n (i := 0) (j := 2) (pc' := 107) d_M_mean_106 rfl rfl rfl ?_)
              refine sm_callVi (ci := 11) (x := x0) (av := []) (st := [.inr (.inl t11.1)]) (mc := 0) (ms := 0) (pc' := 110) d_M_mean_107 rfl (sd_M_allRust x0) m_lv rfl cv_M_allRust w_ml_M_346 rfl rfl (by decide) (Nat.le_of_ble_eq_true rfl) rfl rfl (fun v12 => ?_)
              refine sm_i2l (pc' := 111) d_M_mean_110 rfl (sm_ladd (pc' := 112) d_M_mean_111 rfl (sm_lstore_n (i := 3) (L' := [(3, .inr (.inl (t11.1 + (v12).toInt64))), (5, .inl t11.2), (0, .inr (.inr x0)), (1, .inl x1), (2, .inl x2)]) (pc' := 113) d_M_mean_112 rfl rfl (Nat.le_of_ble_eq_true rfl) rfl (sm_iconst (pc' := 114) d_M_mean_113 rfl ic_0 (sm_istore (L' := [(6, .inl 0), (3, .inr (.inl (t11.1 + (v12).toInt64))), (5, .inl t11.2), (0, .inr (.inr x0)), (1, .inl x1), (2, .inl x2)]) (pc' := 116) d_M_mean_114 rfl (Nat.le_of_ble_eq_true rfl) rfl ?_))))
              refine sm_sub [0, 3, 4, 5, 1, 2] rfl ?_
              refine sm_bd (mid := fun (t17 : Unit) => .inl (143, [(0, .inr (.inr x0)), (1, .inl x1), (2, .inl x2), (3, .inr (.inl (t11.1 + (v12).toInt64))), (5, .inl t11.2)], [])) (sm_lp (hd := fun (t13 : Int32) => (.inl (116, [(6, .inl t13), (0, .inr (.inr x0)), (1, .inl x1), (2, .inl x2), (3, .inr (.inl (t11.1 + (v12).toInt64))), (5, .inl t11.2)], []) : mC)) (fun t13 => ?_) m_F 0) (fun t17 => ?_)
              · refine sm_iload (j := 0) (pc' := 118) d_M_mean_116 rfl rfl (sm_bipush (pc' := 120) d_M_mean_118 rfl ib_105 ?_)
                refine sm_icmp_ge (tgt := 143) (pc' := 123) d_M_mean_120 rfl rfl ?_ ?_
                · refine sm_sub [1, 2, 3, 4, 5] rfl ?_
                  exact sm_rt rfl
                · refine sm_aload_n (i := 0) (j := 1) (pc' := 124) d_M_mean_123 rfl rfl rfl ?_
                  refine sm_getR (pc' := 127) d_M_mean_124 rfl fl_M_35 rfl rfl (fun v14 => ?_)
                  refine sm_iload (j := 0) (pc' := 129) d_M_mean_127 rfl rfl (sm_aload_n (i := 0) (j := 1) (pc' := 130) d_M_mean_129 rfl rfl rfl ?_)
                  refine sm_getR (pc' := 133) d_M_mean_130 rfl fl_M_41 rfl rfl (fun v15 => ?_)
                  refine sm_iload (j := 0) (pc' := 135) d_M_mean_133 rfl rfl ?_
                  refine sm_iald (pc' := 136) d_M_mean_135 rfl (fun v16 => ?_)
                  refine sm_iast (pc' := 137) d_M_mean_136 rfl (sm_iinc (j := 0) (L' := [(6, .inl (t13 + 1)), (0, .inr (.inr x0)), (1, .inl x1), (2, .inl x2), (3, .inr (.inl (t11.1 + (v12).toInt64))), (5, .inl t11.2)]) (pc' := 140) d_M_mean_137 rfl (v := (t13 + 1)) rfl (ix_1 _) (Nat.le_of_ble_eq_true rfl) rfl (sm_goto (tgt := 116) d_M_mean_140 rfl (sm_sub [0, 1, 2, 3, 4, 5] rfl ?_)))
                  exact sm_rt rfl
              · refine sm_iinc (j := 4) (L' := [(5, .inl (t11.2 + 1)), (0, .inr (.inr x0)), (1, .inl x1), (2, .inl x2), (3, .inr (.inl (t11.1 + (v12).toInt64)))]) (pc' := 146) d_M_mean_143 rfl (v := (t11.2 + 1)) rfl (ix_1 _) (Nat.le_of_ble_eq_true rfl) rfl (sm_goto (tgt := 91) d_M_mean_146 rfl (sm_sub [4, 0, 1, 2, 3] rfl ?_))
                exact sm_rt rfl
          · refine sm_aload_n (i := 0) (j := 1) (pc' := 150) d_M_mean_149 rfl rfl rfl (sm_lload_n (i := 3) (j := 0) (pc' := 151) d_M_mean_150 rfl rfl rfl (sm_iload_n (i := 2) (j := 2) (pc' := 152) d_M_mean_151 rfl rfl rfl (sm_i2l (pc' := 153) d_M_mean_152 rfl ?_)))
            refine sm_callVi (ci := 11) (x := x0) (av := [.inr (.inl t18), .inr (.inl (x2).toInt64)]) (st := []) (mc := 0) (ms := 0) (pc' := 156) d_M_mean_153 rfl (sd_M_fraction x0 t18 (x2).toInt64) m_lv rfl cv_M_fraction w_ml_M_522 rfl rfl (by decide) (Nat.le_of_ble_eq_true rfl) rfl rfl (fun v19 => ?_)
            exact sm_zretC d_M_mean_156 rfl rfl
      · refine sm_aload_n (i := 0) (j := 0) (pc' := 54) d_M_mean_53 rfl rfl rfl (sm_bipush (pc' := 56) d_M_mean_54 rfl ib_8 ?_)
        refine sm_callVi (ci := 11) (x := x0) (av := [.inl 8]) (st := []) (mc := 0) (ms := 0) (pc' := 59) d_M_mean_56 rfl (sd_M_no x0 8) m_lv rfl cv_M_no w_ml_M_96 rfl rfl (by decide) (Nat.le_of_ble_eq_true rfl) rfl rfl (fun v20 => ?_)
        exact sm_zretC d_M_mean_59 rfl rfl
    · refine sm_aload_n (i := 0) (j := 0) (pc' := 38) d_M_mean_37 rfl rfl rfl (sm_iconst (pc' := 39) d_M_mean_38 rfl ic_5 ?_)
      refine sm_callVi (ci := 11) (x := x0) (av := [.inl 5]) (st := []) (mc := 0) (ms := 0) (pc' := 42) d_M_mean_39 rfl (sd_M_no x0 5) m_lv rfl cv_M_no w_ml_M_96 rfl rfl (by decide) (Nat.le_of_ble_eq_true rfl) rfl rfl (fun v21 => ?_)
      exact sm_zretC d_M_mean_42 rfl rfl
theorem d_M_mark_0 : m_D k_M_mark 0 (.aload_n 0) 1 := (by decide +kernel : decode prog_14_method_167_code 0 = .ok (.aload_n 0, 1))
theorem d_M_mark_1 : m_D k_M_mark 1 (.iconst 0) 1 := (by decide +kernel : decode prog_14_method_167_code 1 = .ok (.iconst 0, 1))
theorem d_M_mark_2 : m_D k_M_mark 2 (.putfield 81) 3 := (by decide +kernel : decode prog_14_method_167_code 2 = .ok (.putfield 81, 3))
theorem d_M_mark_5 : m_D k_M_mark 5 (.aload_n 0) 1 := (by decide +kernel : decode prog_14_method_167_code 5 = .ok (.aload_n 0, 1))
theorem d_M_mark_6 : m_D k_M_mark 6 (.iconst 0) 1 := (by decide +kernel : decode prog_14_method_167_code 6 = .ok (.iconst 0, 1))
theorem d_M_mark_7 : m_D k_M_mark 7 (.putfield 84) 3 := (by decide +kernel : decode prog_14_method_167_code 7 = .ok (.putfield 84, 3))
theorem d_M_mark_10 : m_D k_M_mark 10 (.aload_n 0) 1 := (by decide +kernel : decode prog_14_method_167_code 10 = .ok (.aload_n 0, 1))
theorem d_M_mark_11 : m_D k_M_mark 11 (.getfield 587) 3 := (by decide +kernel : decode prog_14_method_167_code 11 = .ok (.getfield 587, 3))
theorem d_M_mark_14 : m_D k_M_mark 14 (.iconst 3) 1 := (by decide +kernel : decode prog_14_method_167_code 14 = .ok (.iconst 3, 1))
theorem d_M_mark_15 : m_D k_M_mark 15 (.if_icmp .ne 10) 3 := (by decide +kernel : decode prog_14_method_167_code 15 = .ok (.if_icmp .ne 10, 3))
theorem d_M_mark_18 : m_D k_M_mark 18 (.aload_n 0) 1 := (by decide +kernel : decode prog_14_method_167_code 18 = .ok (.aload_n 0, 1))
theorem d_M_mark_19 : m_D k_M_mark 19 (.bipush 7) 2 := (by decide +kernel : decode prog_14_method_167_code 19 = .ok (.bipush 7, 2))
theorem d_M_mark_21 : m_D k_M_mark 21 (.invokevirtual 331) 3 := (by decide +kernel : decode prog_14_method_167_code 21 = .ok (.invokevirtual 331, 3))
theorem d_M_mark_24 : m_D k_M_mark 24 (.ireturn) 1 := (by decide +kernel : decode prog_14_method_167_code 24 = .ok (.ireturn, 1))
theorem d_M_mark_25 : m_D k_M_mark 25 (.aload_n 0) 1 := (by decide +kernel : decode prog_14_method_167_code 25 = .ok (.aload_n 0, 1))
theorem d_M_mark_26 : m_D k_M_mark 26 (.dup) 1 := (by decide +kernel : decode prog_14_method_167_code 26 = .ok (.dup, 1))
theorem d_M_mark_27 : m_D k_M_mark 27 (.getfield 587) 3 := (by decide +kernel : decode prog_14_method_167_code 27 = .ok (.getfield 587, 3))
theorem d_M_mark_30 : m_D k_M_mark 30 (.iconst 1) 1 := (by decide +kernel : decode prog_14_method_167_code 30 = .ok (.iconst 1, 1))
theorem d_M_mark_31 : m_D k_M_mark 31 (.iadd) 1 := (by decide +kernel : decode prog_14_method_167_code 31 = .ok (.iadd, 1))
theorem d_M_mark_32 : m_D k_M_mark 32 (.putfield 587) 3 := (by decide +kernel : decode prog_14_method_167_code 32 = .ok (.putfield 587, 3))
theorem d_M_mark_35 : m_D k_M_mark 35 (.aload_n 0) 1 := (by decide +kernel : decode prog_14_method_167_code 35 = .ok (.aload_n 0, 1))
theorem d_M_mark_36 : m_D k_M_mark 36 (.iconst 0) 1 := (by decide +kernel : decode prog_14_method_167_code 36 = .ok (.iconst 0, 1))
theorem d_M_mark_37 : m_D k_M_mark 37 (.aload_n 0) 1 := (by decide +kernel : decode prog_14_method_167_code 37 = .ok (.aload_n 0, 1))
theorem d_M_mark_38 : m_D k_M_mark 38 (.getfield 587) 3 := (by decide +kernel : decode prog_14_method_167_code 38 = .ok (.getfield 587, 3))
theorem d_M_mark_41 : m_D k_M_mark 41 (.invokevirtual 298) 3 := (by decide +kernel : decode prog_14_method_167_code 41 = .ok (.invokevirtual 298, 3))
theorem d_M_mark_44 : m_D k_M_mark 44 (.aload_n 0) 1 := (by decide +kernel : decode prog_14_method_167_code 44 = .ok (.aload_n 0, 1))
theorem d_M_mark_45 : m_D k_M_mark 45 (.getfield 587) 3 := (by decide +kernel : decode prog_14_method_167_code 45 = .ok (.getfield 587, 3))
theorem d_M_mark_48 : m_D k_M_mark 48 (.ireturn) 1 := (by decide +kernel : decode prog_14_method_167_code 48 = .ok (.ireturn, 1))
def fn_M_mark (x0 : Option mA) : mP Int32 :=
  m_th 11 x0 <|
  m_bd (m_pI 11 1 x0 0) fun _ =>
  m_bd (m_pI 11 0 x0 0) fun _ =>
  m_bd (m_gI 11 24 x0) fun v1 =>
  if v1 = 3 then
    m_bd (fn_M_refuse x0 7) fun v5 =>
    m_rt v5
  else
    m_bd (m_gI 11 24 x0) fun v2 =>
    m_bd (m_pI 11 24 x0 (v2 + 1)) fun _ =>
    m_bd (m_gI 11 24 x0) fun v3 =>
    m_bd (fn_M_copy x0 0 v3) fun _ =>
    m_bd (m_gI 11 24 x0) fun v4 =>
    m_rt v4
set_option maxHeartbeats 4000000 in
set_option maxRecDepth 100000 in
theorem sd_M_mark (x0 : Option mA) : m_Sm k_M_mark 2 0 0 [.inr (.inr x0)] (fn_M_mark x0) (fun b => some (.inl b)) := by
  refine ⟨Nat.le_of_ble_eq_true rfl, ?_⟩
  refine sm_th ?_
  refine sm_aload_n (i := 0) (j := 0) (pc' := 1) d_M_mark_0 rfl rfl rfl (sm_iconst (pc' := 2) d_M_mark_1 rfl ic_0 (sm_putI (pc' := 5) d_M_mark_2 rfl fl_M_81 (Or.inl rfl) rfl (sm_aload_n (i := 0) (j := 0) (pc' := 6) d_M_mark_5 rfl rfl rfl (sm_iconst (pc' := 7) d_M_mark_6 rfl ic_0 (sm_putI (pc' := 10) d_M_mark_7 rfl fl_M_84 (Or.inl rfl) rfl (sm_aload_n (i := 0) (j := 0) (pc' := 11) d_M_mark_10 rfl rfl rfl ?_))))))
  refine sm_getI (pc' := 14) d_M_mark_11 rfl fl_M_587 rfl ⟨by decide, by decide⟩ (fun v1 => ?_)
  refine sm_iconst (pc' := 15) d_M_mark_14 rfl ic_3 ?_
  refine sm_icmp_ne (tgt := 25) (pc' := 18) d_M_mark_15 rfl rfl ?_ ?_
  · refine sm_aload_n (i := 0) (j := 0) (pc' := 26) d_M_mark_25 rfl rfl rfl (sm_dup (pc' := 27) d_M_mark_26 rfl rfl ?_)
    refine sm_getI (pc' := 30) d_M_mark_27 rfl fl_M_587 rfl ⟨by decide, by decide⟩ (fun v2 => ?_)
    refine sm_iconst (pc' := 31) d_M_mark_30 rfl ic_1 (sm_iadd (pc' := 32) d_M_mark_31 rfl (sm_putI (pc' := 35) d_M_mark_32 rfl fl_M_587 (Or.inl rfl) rfl (sm_aload_n (i := 0) (j := 0) (pc' := 36) d_M_mark_35 rfl rfl rfl (sm_iconst (pc' := 37) d_M_mark_36 rfl ic_0 (sm_aload_n (i := 0) (j := 0) (pc' := 38) d_M_mark_37 rfl rfl rfl ?_)))))
    refine sm_getI (pc' := 41) d_M_mark_38 rfl fl_M_587 rfl ⟨by decide, by decide⟩ (fun v3 => ?_)
    refine sm_callVv (ci := 11) (x := x0) (av := [.inl 0, .inl v3]) (st := []) (mc := 0) (ms := 0) (pc' := 44) d_M_mark_41 rfl (sd_M_copy x0 0 v3) m_lv rfl cv_M_copy w_ml_M_298 rfl rfl (by decide) (Nat.le_of_ble_eq_true rfl) rfl rfl ?_
    refine sm_aload_n (i := 0) (j := 0) (pc' := 45) d_M_mark_44 rfl rfl rfl ?_
    refine sm_getI (pc' := 48) d_M_mark_45 rfl fl_M_587 rfl ⟨by decide, by decide⟩ (fun v4 => ?_)
    exact sm_ireturn d_M_mark_48 rfl rfl
  · refine sm_aload_n (i := 0) (j := 0) (pc' := 19) d_M_mark_18 rfl rfl rfl (sm_bipush (pc' := 21) d_M_mark_19 rfl ib_7 ?_)
    refine sm_callVi (ci := 11) (x := x0) (av := [.inl 7]) (st := []) (mc := 0) (ms := 0) (pc' := 24) d_M_mark_21 rfl (sd_M_refuse x0 7) m_lv rfl cv_M_refuse w_ml_M_331 rfl rfl (by decide) (Nat.le_of_ble_eq_true rfl) rfl rfl (fun v5 => ?_)
    exact sm_ireturn d_M_mark_24 rfl rfl
theorem d_M_back_0 : m_D k_M_back 0 (.aload_n 0) 1 := (by decide +kernel : decode prog_14_method_168_code 0 = .ok (.aload_n 0, 1))
theorem d_M_back_1 : m_D k_M_back 1 (.iconst 0) 1 := (by decide +kernel : decode prog_14_method_168_code 1 = .ok (.iconst 0, 1))
theorem d_M_back_2 : m_D k_M_back 2 (.putfield 81) 3 := (by decide +kernel : decode prog_14_method_168_code 2 = .ok (.putfield 81, 3))
theorem d_M_back_5 : m_D k_M_back 5 (.aload_n 0) 1 := (by decide +kernel : decode prog_14_method_168_code 5 = .ok (.aload_n 0, 1))
theorem d_M_back_6 : m_D k_M_back 6 (.iconst 0) 1 := (by decide +kernel : decode prog_14_method_168_code 6 = .ok (.iconst 0, 1))
theorem d_M_back_7 : m_D k_M_back 7 (.putfield 84) 3 := (by decide +kernel : decode prog_14_method_168_code 7 = .ok (.putfield 84, 3))
theorem d_M_back_10 : m_D k_M_back 10 (.aload_n 0) 1 := (by decide +kernel : decode prog_14_method_168_code 10 = .ok (.aload_n 0, 1))
theorem d_M_back_11 : m_D k_M_back 11 (.getfield 587) 3 := (by decide +kernel : decode prog_14_method_168_code 11 = .ok (.getfield 587, 3))
theorem d_M_back_14 : m_D k_M_back 14 (.ifCond .ne 10) 3 := (by decide +kernel : decode prog_14_method_168_code 14 = .ok (.ifCond .ne 10, 3))
theorem d_M_back_17 : m_D k_M_back 17 (.aload_n 0) 1 := (by decide +kernel : decode prog_14_method_168_code 17 = .ok (.aload_n 0, 1))
theorem d_M_back_18 : m_D k_M_back 18 (.bipush 8) 2 := (by decide +kernel : decode prog_14_method_168_code 18 = .ok (.bipush 8, 2))
theorem d_M_back_20 : m_D k_M_back 20 (.invokevirtual 331) 3 := (by decide +kernel : decode prog_14_method_168_code 20 = .ok (.invokevirtual 331, 3))
theorem d_M_back_23 : m_D k_M_back 23 (.ireturn) 1 := (by decide +kernel : decode prog_14_method_168_code 23 = .ok (.ireturn, 1))
theorem d_M_back_24 : m_D k_M_back 24 (.aload_n 0) 1 := (by decide +kernel : decode prog_14_method_168_code 24 = .ok (.aload_n 0, 1))
theorem d_M_back_25 : m_D k_M_back 25 (.aload_n 0) 1 := (by decide +kernel : decode prog_14_method_168_code 25 = .ok (.aload_n 0, 1))
theorem d_M_back_26 : m_D k_M_back 26 (.getfield 587) 3 := (by decide +kernel : decode prog_14_method_168_code 26 = .ok (.getfield 587, 3))
theorem d_M_back_29 : m_D k_M_back 29 (.iconst 0) 1 := (by decide +kernel : decode prog_14_method_168_code 29 = .ok (.iconst 0, 1))
theorem d_M_back_30 : m_D k_M_back 30 (.invokevirtual 298) 3 := (by decide +kernel : decode prog_14_method_168_code 30 = .ok (.invokevirtual 298, 3))
theorem d_M_back_33 : m_D k_M_back 33 (.aload_n 0) 1 := (by decide +kernel : decode prog_14_method_168_code 33 = .ok (.aload_n 0, 1))
theorem d_M_back_34 : m_D k_M_back 34 (.dup) 1 := (by decide +kernel : decode prog_14_method_168_code 34 = .ok (.dup, 1))
theorem d_M_back_35 : m_D k_M_back 35 (.getfield 587) 3 := (by decide +kernel : decode prog_14_method_168_code 35 = .ok (.getfield 587, 3))
theorem d_M_back_38 : m_D k_M_back 38 (.iconst 1) 1 := (by decide +kernel : decode prog_14_method_168_code 38 = .ok (.iconst 1, 1))
theorem d_M_back_39 : m_D k_M_back 39 (.isub) 1 := (by decide +kernel : decode prog_14_method_168_code 39 = .ok (.isub, 1))
theorem d_M_back_40 : m_D k_M_back 40 (.putfield 587) 3 := (by decide +kernel : decode prog_14_method_168_code 40 = .ok (.putfield 587, 3))
theorem d_M_back_43 : m_D k_M_back 43 (.aload_n 0) 1 := (by decide +kernel : decode prog_14_method_168_code 43 = .ok (.aload_n 0, 1))
theorem d_M_back_44 : m_D k_M_back 44 (.getfield 587) 3 := (by decide +kernel : decode prog_14_method_168_code 44 = .ok (.getfield 587, 3))
theorem d_M_back_47 : m_D k_M_back 47 (.ireturn) 1 := (by decide +kernel : decode prog_14_method_168_code 47 = .ok (.ireturn, 1))
def fn_M_back (x0 : Option mA) : mP Int32 :=
  m_th 11 x0 <|
  m_bd (m_pI 11 1 x0 0) fun _ =>
  m_bd (m_pI 11 0 x0 0) fun _ =>
  m_bd (m_gI 11 24 x0) fun v1 =>
  if v1 = 0 then
    m_bd (fn_M_refuse x0 8) fun v5 =>
    m_rt v5
  else
    m_bd (m_gI 11 24 x0) fun v2 =>
    m_bd (fn_M_copy x0 v2 0) fun _ =>
    m_bd (m_gI 11 24 x0) fun v3 =>
    m_bd (m_pI 11 24 x0 (v3 - 1)) fun _ =>
    m_bd (m_gI 11 24 x0) fun v4 =>
    m_rt v4
set_option maxHeartbeats 4000000 in
set_option maxRecDepth 100000 in
theorem sd_M_back (x0 : Option mA) : m_Sm k_M_back 2 0 0 [.inr (.inr x0)] (fn_M_back x0) (fun b => some (.inl b)) := by
  refine ⟨Nat.le_of_ble_eq_true rfl, ?_⟩
  refine sm_th ?_
  refine sm_aload_n (i := 0) (j := 0) (pc' := 1) d_M_back_0 rfl rfl rfl (sm_iconst (pc' := 2) d_M_back_1 rfl ic_0 (sm_putI (pc' := 5) d_M_back_2 rfl fl_M_81 (Or.inl rfl) rfl (sm_aload_n (i := 0) (j := 0) (pc' := 6) d_M_back_5 rfl rfl rfl (sm_iconst (pc' := 7) d_M_back_6 rfl ic_0 (sm_putI (pc' := 10) d_M_back_7 rfl fl_M_84 (Or.inl rfl) rfl (sm_aload_n (i := 0) (j := 0) (pc' := 11) d_M_back_10 rfl rfl rfl ?_))))))
  refine sm_getI (pc' := 14) d_M_back_11 rfl fl_M_587 rfl ⟨by decide, by decide⟩ (fun v1 => ?_)
  refine sm_if_ne (tgt := 24) (pc' := 17) d_M_back_14 rfl rfl ?_ ?_
  · refine sm_aload_n (i := 0) (j := 0) (pc' := 25) d_M_back_24 rfl rfl rfl (sm_aload_n (i := 0) (j := 0) (pc' := 26) d_M_back_25 rfl rfl rfl ?_)
    refine sm_getI (pc' := 29) d_M_back_26 rfl fl_M_587 rfl ⟨by decide, by decide⟩ (fun v2 => ?_)
    refine sm_iconst (pc' := 30) d_M_back_29 rfl ic_0 ?_
    refine sm_callVv (ci := 11) (x := x0) (av := [.inl v2, .inl 0]) (st := []) (mc := 0) (ms := 0) (pc' := 33) d_M_back_30 rfl (sd_M_copy x0 v2 0) m_lv rfl cv_M_copy w_ml_M_298 rfl rfl (by decide) (Nat.le_of_ble_eq_true rfl) rfl rfl ?_
    refine sm_aload_n (i := 0) (j := 0) (pc' := 34) d_M_back_33 rfl rfl rfl (sm_dup (pc' := 35) d_M_back_34 rfl rfl ?_)
    refine sm_getI (pc' := 38) d_M_back_35 rfl fl_M_587 rfl ⟨by decide, by decide⟩ (fun v3 => ?_)
    refine sm_iconst (pc' := 39) d_M_back_38 rfl ic_1 (sm_isub (pc' := 40) d_M_back_39 rfl (sm_putI (pc' := 43) d_M_back_40 rfl fl_M_587 (Or.inl rfl) rfl (sm_aload_n (i := 0) (j := 0) (pc' := 44) d_M_back_43 rfl rfl rfl ?_)))
    refine sm_getI (pc' := 47) d_M_back_44 rfl fl_M_587 rfl ⟨by decide, by decide⟩ (fun v4 => ?_)
    exact sm_ireturn d_M_back_47 rfl rfl
  · refine sm_aload_n (i := 0) (j := 0) (pc' := 18) d_M_back_17 rfl rfl rfl (sm_bipush (pc' := 20) d_M_back_18 rfl ib_8 ?_)
    refine sm_callVi (ci := 11) (x := x0) (av := [.inl 8]) (st := []) (mc := 0) (ms := 0) (pc' := 23) d_M_back_20 rfl (sd_M_refuse x0 8) m_lv rfl cv_M_refuse w_ml_M_331 rfl rfl (by decide) (Nat.le_of_ble_eq_true rfl) rfl rfl (fun v5 => ?_)
    exact sm_ireturn d_M_back_23 rfl rfl
