/-! 20.cls2, laid by wip/whole/gen.py -/
theorem d_Fa_addThing_0 : m_D k_Fa_addThing 0 (.aload_n 0) 1 := (by decide +kernel : decode prog_3_method_4_code 0 = .ok (.aload_n 0, 1))
theorem d_Fa_addThing_1 : m_D k_Fa_addThing 1 (.getfield 33) 3 := (by decide +kernel : decode prog_3_method_4_code 1 = .ok (.getfield 33, 3))
theorem d_Fa_addThing_4 : m_D k_Fa_addThing 4 (.aload_n 0) 1 := (by decide +kernel : decode prog_3_method_4_code 4 = .ok (.aload_n 0, 1))
theorem d_Fa_addThing_5 : m_D k_Fa_addThing 5 (.getfield 48) 3 := (by decide +kernel : decode prog_3_method_4_code 5 = .ok (.getfield 48, 3))
theorem d_Fa_addThing_8 : m_D k_Fa_addThing 8 (.aaload) 1 := (by decide +kernel : decode prog_3_method_4_code 8 = .ok (.aaload, 1))
theorem d_Fa_addThing_9 : m_D k_Fa_addThing 9 (.astore 5) 2 := (by decide +kernel : decode prog_3_method_4_code 9 = .ok (.astore 5, 2))
theorem d_Fa_addThing_11 : m_D k_Fa_addThing 11 (.aload 5) 2 := (by decide +kernel : decode prog_3_method_4_code 11 = .ok (.aload 5, 2))
theorem d_Fa_addThing_13 : m_D k_Fa_addThing 13 (.lload_n 1) 1 := (by decide +kernel : decode prog_3_method_4_code 13 = .ok (.lload_n 1, 1))
theorem d_Fa_addThing_14 : m_D k_Fa_addThing 14 (.putfield 85) 3 := (by decide +kernel : decode prog_3_method_4_code 14 = .ok (.putfield 85, 3))
theorem d_Fa_addThing_17 : m_D k_Fa_addThing 17 (.aload 5) 2 := (by decide +kernel : decode prog_3_method_4_code 17 = .ok (.aload 5, 2))
theorem d_Fa_addThing_19 : m_D k_Fa_addThing 19 (.iload_n 3) 1 := (by decide +kernel : decode prog_3_method_4_code 19 = .ok (.iload_n 3, 1))
theorem d_Fa_addThing_20 : m_D k_Fa_addThing 20 (.putfield 86) 3 := (by decide +kernel : decode prog_3_method_4_code 20 = .ok (.putfield 86, 3))
theorem d_Fa_addThing_23 : m_D k_Fa_addThing 23 (.aload 5) 2 := (by decide +kernel : decode prog_3_method_4_code 23 = .ok (.aload 5, 2))
theorem d_Fa_addThing_25 : m_D k_Fa_addThing 25 (.iload 4) 2 := (by decide +kernel : decode prog_3_method_4_code 25 = .ok (.iload 4, 2))
theorem d_Fa_addThing_27 : m_D k_Fa_addThing 27 (.putfield 89) 3 := (by decide +kernel : decode prog_3_method_4_code 27 = .ok (.putfield 89, 3))
theorem d_Fa_addThing_30 : m_D k_Fa_addThing 30 (.aload 5) 2 := (by decide +kernel : decode prog_3_method_4_code 30 = .ok (.aload 5, 2))
theorem d_Fa_addThing_32 : m_D k_Fa_addThing 32 (.iconst 0) 1 := (by decide +kernel : decode prog_3_method_4_code 32 = .ok (.iconst 0, 1))
theorem d_Fa_addThing_33 : m_D k_Fa_addThing 33 (.putfield 92) 3 := (by decide +kernel : decode prog_3_method_4_code 33 = .ok (.putfield 92, 3))
theorem d_Fa_addThing_36 : m_D k_Fa_addThing 36 (.aload 5) 2 := (by decide +kernel : decode prog_3_method_4_code 36 = .ok (.aload 5, 2))
theorem d_Fa_addThing_38 : m_D k_Fa_addThing 38 (.iconst 0) 1 := (by decide +kernel : decode prog_3_method_4_code 38 = .ok (.iconst 0, 1))
theorem d_Fa_addThing_39 : m_D k_Fa_addThing 39 (.putfield 95) 3 := (by decide +kernel : decode prog_3_method_4_code 39 = .ok (.putfield 95, 3))
theorem d_Fa_addThing_42 : m_D k_Fa_addThing 42 (.aload_n 0) 1 := (by decide +kernel : decode prog_3_method_4_code 42 = .ok (.aload_n 0, 1))
theorem d_Fa_addThing_43 : m_D k_Fa_addThing 43 (.dup) 1 := (by decide +kernel : decode prog_3_method_4_code 43 = .ok (.dup, 1))
theorem d_Fa_addThing_44 : m_D k_Fa_addThing 44 (.getfield 48) 3 := (by decide +kernel : decode prog_3_method_4_code 44 = .ok (.getfield 48, 3))
theorem d_Fa_addThing_47 : m_D k_Fa_addThing 47 (.iconst 1) 1 := (by decide +kernel : decode prog_3_method_4_code 47 = .ok (.iconst 1, 1))
theorem d_Fa_addThing_48 : m_D k_Fa_addThing 48 (.iadd) 1 := (by decide +kernel : decode prog_3_method_4_code 48 = .ok (.iadd, 1))
theorem d_Fa_addThing_49 : m_D k_Fa_addThing 49 (.putfield 48) 3 := (by decide +kernel : decode prog_3_method_4_code 49 = .ok (.putfield 48, 3))
theorem d_Fa_addThing_52 : m_D k_Fa_addThing 52 (.return_) 1 := (by decide +kernel : decode prog_3_method_4_code 52 = .ok (.return_, 1))
def fn_Fa_addThing (x0 : Option mA) (x1 : Int64) (x3 : Int32) (x4 : Int32) : mP Unit :=
  m_th 3 x0 <|
  m_bd (m_gR 3 8 x0) fun v1 =>
  m_bd (m_gI 3 1 x0) fun v2 =>
  m_bd (m_aR 7 v1 v2) fun v3 =>
  m_bd (m_pJ 5 0 v3 x1) fun _ =>
  m_bd (m_pI 5 1 v3 x3) fun _ =>
  m_bd (m_pI 5 2 v3 x4) fun _ =>
  m_bd (m_pI 5 3 v3 0) fun _ =>
  m_bd (m_pI 5 4 v3 0) fun _ =>
  m_bd (m_gI 3 1 x0) fun v4 =>
  m_bd (m_pI 3 1 x0 (v4 + 1)) fun _ =>
  m_rt ()
set_option maxHeartbeats 4000000 in
set_option maxRecDepth 100000 in
theorem sd_Fa_addThing (x0 : Option mA) (x1 : Int64) (x3 : Int32) (x4 : Int32) : m_Sm k_Fa_addThing 1 0 0 [.inr (.inr x0), .inr (.inl x1), .inl x3, .inl x4] (fn_Fa_addThing x0 x1 x3 x4) (fun _ => none) := by
  refine ⟨Nat.le_of_ble_eq_true rfl, ?_⟩
  refine sm_th ?_
  refine sm_aload_n (i := 0) (j := 0) (pc' := 1) d_Fa_addThing_0 rfl rfl rfl ?_
  refine sm_getR (pc' := 4) d_Fa_addThing_1 rfl fl_Fa_33 rfl rfl (fun v1 => ?_)
  refine sm_aload_n (i := 0) (j := 0) (pc' := 5) d_Fa_addThing_4 rfl rfl rfl ?_
  refine sm_getI (pc' := 8) d_Fa_addThing_5 rfl fl_Fa_48 rfl ⟨by decide, by decide⟩ (fun v2 => ?_)
  refine sm_aald (t := 7) ⟨by decide, by decide⟩ rfl (pc' := 9) d_Fa_addThing_8 rfl (fun v3 => ?_)
  refine sm_astore (L' := [(5, .inr (.inr v3)), (0, .inr (.inr x0)), (1, .inr (.inl x1)), (3, .inl x3), (4, .inl x4)]) (pc' := 11) d_Fa_addThing_9 rfl (Nat.le_of_ble_eq_true rfl) rfl (sm_aload (j := 0) (pc' := 13) d_Fa_addThing_11 rfl rfl (sm_lload_n (i := 1) (j := 2) (pc' := 14) d_Fa_addThing_13 rfl rfl rfl (sm_putJ (pc' := 17) d_Fa_addThing_14 rfl fl_Fa_85 (Or.inl rfl) rfl (sm_aload (j := 0) (pc' := 19) d_Fa_addThing_17 rfl rfl (sm_iload_n (i := 3) (j := 3) (pc' := 20) d_Fa_addThing_19 rfl rfl rfl (sm_putI (pc' := 23) d_Fa_addThing_20 rfl fl_Fa_86 (Or.inl rfl) rfl (sm_aload (j := 0) (pc' := 25) d_Fa_addThing_23 rfl rfl (sm_iload (j := 4) (pc' := 27) d_Fa_addThing_25 rfl rfl (sm_putI (pc' := 30) d_Fa_addThing_27 rfl fl_Fa_89 (Or.inl rfl) rfl ?_)))))))))
  refine sm_aload (j := 0) (pc' := 32) d_Fa_addThing_30 rfl rfl (sm_iconst (pc' := 33) d_Fa_addThing_32 rfl ic_0 (sm_putI (pc' := 36) d_Fa_addThing_33 rfl fl_Fa_92 (Or.inl rfl) rfl (sm_aload (j := 0) (pc' := 38) d_Fa_addThing_36 rfl rfl (sm_iconst (pc' := 39) d_Fa_addThing_38 rfl ic_0 (sm_putI (pc' := 42) d_Fa_addThing_39 rfl fl_Fa_95 (Or.inl rfl) rfl (sm_aload_n (i := 0) (j := 1) (pc' := 43) d_Fa_addThing_42 rfl rfl rfl (sm_dup (pc' := 44) d_Fa_addThing_43 rfl rfl ?_)))))))
  refine sm_getI (pc' := 47) d_Fa_addThing_44 rfl fl_Fa_48 rfl ⟨by decide, by decide⟩ (fun v4 => ?_)
  refine sm_iconst (pc' := 48) d_Fa_addThing_47 rfl ic_1 (sm_iadd (pc' := 49) d_Fa_addThing_48 rfl (sm_putI (pc' := 52) d_Fa_addThing_49 rfl fl_Fa_48 (Or.inl rfl) rfl ?_))
  exact sm_return d_Fa_addThing_52 rfl rfl
theorem d_Re_takeThing_0 : m_D k_Re_takeThing 0 (.aload_n 1) 1 := (by decide +kernel : decode prog_8_method_9_code 0 = .ok (.aload_n 1, 1))
theorem d_Re_takeThing_1 : m_D k_Re_takeThing 1 (.getfield 52) 3 := (by decide +kernel : decode prog_8_method_9_code 1 = .ok (.getfield 52, 3))
theorem d_Re_takeThing_4 : m_D k_Re_takeThing 4 (.bipush 8) 2 := (by decide +kernel : decode prog_8_method_9_code 4 = .ok (.bipush 8, 2))
theorem d_Re_takeThing_6 : m_D k_Re_takeThing 6 (.if_icmp .lt 10) 3 := (by decide +kernel : decode prog_8_method_9_code 6 = .ok (.if_icmp .lt 10, 3))
theorem d_Re_takeThing_9 : m_D k_Re_takeThing 9 (.aload_n 0) 1 := (by decide +kernel : decode prog_8_method_9_code 9 = .ok (.aload_n 0, 1))
theorem d_Re_takeThing_10 : m_D k_Re_takeThing 10 (.bipush 6) 2 := (by decide +kernel : decode prog_8_method_9_code 10 = .ok (.bipush 6, 2))
theorem d_Re_takeThing_12 : m_D k_Re_takeThing 12 (.invokevirtual 89) 3 := (by decide +kernel : decode prog_8_method_9_code 12 = .ok (.invokevirtual 89, 3))
theorem d_Re_takeThing_15 : m_D k_Re_takeThing 15 (.ireturn) 1 := (by decide +kernel : decode prog_8_method_9_code 15 = .ok (.ireturn, 1))
theorem d_Re_takeThing_16 : m_D k_Re_takeThing 16 (.aload_n 0) 1 := (by decide +kernel : decode prog_8_method_9_code 16 = .ok (.aload_n 0, 1))
theorem d_Re_takeThing_17 : m_D k_Re_takeThing 17 (.invokevirtual 93) 3 := (by decide +kernel : decode prog_8_method_9_code 17 = .ok (.invokevirtual 93, 3))
theorem d_Re_takeThing_20 : m_D k_Re_takeThing 20 (.aload_n 0) 1 := (by decide +kernel : decode prog_8_method_9_code 20 = .ok (.aload_n 0, 1))
theorem d_Re_takeThing_21 : m_D k_Re_takeThing 21 (.getfield 111) 3 := (by decide +kernel : decode prog_8_method_9_code 21 = .ok (.getfield 111, 3))
theorem d_Re_takeThing_24 : m_D k_Re_takeThing 24 (.lstore_n 2) 1 := (by decide +kernel : decode prog_8_method_9_code 24 = .ok (.lstore_n 2, 1))
theorem d_Re_takeThing_25 : m_D k_Re_takeThing 25 (.aload_n 0) 1 := (by decide +kernel : decode prog_8_method_9_code 25 = .ok (.aload_n 0, 1))
theorem d_Re_takeThing_26 : m_D k_Re_takeThing 26 (.aload_n 1) 1 := (by decide +kernel : decode prog_8_method_9_code 26 = .ok (.aload_n 1, 1))
theorem d_Re_takeThing_27 : m_D k_Re_takeThing 27 (.lload_n 2) 1 := (by decide +kernel : decode prog_8_method_9_code 27 = .ok (.lload_n 2, 1))
theorem d_Re_takeThing_28 : m_D k_Re_takeThing 28 (.invokestatic 115) 3 := (by decide +kernel : decode prog_8_method_9_code 28 = .ok (.invokestatic 115, 3))
theorem d_Re_takeThing_31 : m_D k_Re_takeThing 31 (.invokevirtual 119) 3 := (by decide +kernel : decode prog_8_method_9_code 31 = .ok (.invokevirtual 119, 3))
theorem d_Re_takeThing_34 : m_D k_Re_takeThing 34 (.ifCond .eq 23) 3 := (by decide +kernel : decode prog_8_method_9_code 34 = .ok (.ifCond .eq 23, 3))
theorem d_Re_takeThing_37 : m_D k_Re_takeThing 37 (.aload_n 0) 1 := (by decide +kernel : decode prog_8_method_9_code 37 = .ok (.aload_n 0, 1))
theorem d_Re_takeThing_38 : m_D k_Re_takeThing 38 (.ldc 134) 2 := (by decide +kernel : decode prog_8_method_9_code 38 = .ok (.ldc 134, 2))
theorem d_Re_takeThing_40 : m_D k_Re_takeThing 40 (.invokevirtual 125) 3 := (by decide +kernel : decode prog_8_method_9_code 40 = .ok (.invokevirtual 125, 3))
theorem d_Re_takeThing_43 : m_D k_Re_takeThing 43 (.ifCond .eq 14) 3 := (by decide +kernel : decode prog_8_method_9_code 43 = .ok (.ifCond .eq 14, 3))
theorem d_Re_takeThing_46 : m_D k_Re_takeThing 46 (.aload_n 0) 1 := (by decide +kernel : decode prog_8_method_9_code 46 = .ok (.aload_n 0, 1))
theorem d_Re_takeThing_47 : m_D k_Re_takeThing 47 (.iconst 1) 1 := (by decide +kernel : decode prog_8_method_9_code 47 = .ok (.iconst 1, 1))
theorem d_Re_takeThing_48 : m_D k_Re_takeThing 48 (.sipush 999) 3 := (by decide +kernel : decode prog_8_method_9_code 48 = .ok (.sipush 999, 3))
theorem d_Re_takeThing_51 : m_D k_Re_takeThing 51 (.invokevirtual 96) 3 := (by decide +kernel : decode prog_8_method_9_code 51 = .ok (.invokevirtual 96, 3))
theorem d_Re_takeThing_54 : m_D k_Re_takeThing 54 (.ifCond .ne 5) 3 := (by decide +kernel : decode prog_8_method_9_code 54 = .ok (.ifCond .ne 5, 3))
theorem d_Re_takeThing_57 : m_D k_Re_takeThing 57 (.iconst 0) 1 := (by decide +kernel : decode prog_8_method_9_code 57 = .ok (.iconst 0, 1))
theorem d_Re_takeThing_58 : m_D k_Re_takeThing 58 (.ireturn) 1 := (by decide +kernel : decode prog_8_method_9_code 58 = .ok (.ireturn, 1))
theorem d_Re_takeThing_59 : m_D k_Re_takeThing 59 (.aload_n 0) 1 := (by decide +kernel : decode prog_8_method_9_code 59 = .ok (.aload_n 0, 1))
theorem d_Re_takeThing_60 : m_D k_Re_takeThing 60 (.getfield 83) 3 := (by decide +kernel : decode prog_8_method_9_code 60 = .ok (.getfield 83, 3))
theorem d_Re_takeThing_63 : m_D k_Re_takeThing 63 (.istore 4) 2 := (by decide +kernel : decode prog_8_method_9_code 63 = .ok (.istore 4, 2))
theorem d_Re_takeThing_65 : m_D k_Re_takeThing 65 (.iconst 0) 1 := (by decide +kernel : decode prog_8_method_9_code 65 = .ok (.iconst 0, 1))
theorem d_Re_takeThing_66 : m_D k_Re_takeThing 66 (.istore 5) 2 := (by decide +kernel : decode prog_8_method_9_code 66 = .ok (.istore 5, 2))
theorem d_Re_takeThing_68 : m_D k_Re_takeThing 68 (.aload_n 0) 1 := (by decide +kernel : decode prog_8_method_9_code 68 = .ok (.aload_n 0, 1))
theorem d_Re_takeThing_69 : m_D k_Re_takeThing 69 (.ldc 136) 2 := (by decide +kernel : decode prog_8_method_9_code 69 = .ok (.ldc 136, 2))
theorem d_Re_takeThing_71 : m_D k_Re_takeThing 71 (.invokevirtual 26) 3 := (by decide +kernel : decode prog_8_method_9_code 71 = .ok (.invokevirtual 26, 3))
theorem d_Re_takeThing_74 : m_D k_Re_takeThing 74 (.ifCond .eq 26) 3 := (by decide +kernel : decode prog_8_method_9_code 74 = .ok (.ifCond .eq 26, 3))
theorem d_Re_takeThing_77 : m_D k_Re_takeThing 77 (.aload_n 0) 1 := (by decide +kernel : decode prog_8_method_9_code 77 = .ok (.aload_n 0, 1))
theorem d_Re_takeThing_78 : m_D k_Re_takeThing 78 (.invokevirtual 93) 3 := (by decide +kernel : decode prog_8_method_9_code 78 = .ok (.invokevirtual 93, 3))
theorem d_Re_takeThing_81 : m_D k_Re_takeThing 81 (.aload_n 0) 1 := (by decide +kernel : decode prog_8_method_9_code 81 = .ok (.aload_n 0, 1))
theorem d_Re_takeThing_82 : m_D k_Re_takeThing 82 (.iconst 0) 1 := (by decide +kernel : decode prog_8_method_9_code 82 = .ok (.iconst 0, 1))
theorem d_Re_takeThing_83 : m_D k_Re_takeThing 83 (.sipush 999) 3 := (by decide +kernel : decode prog_8_method_9_code 83 = .ok (.sipush 999, 3))
theorem d_Re_takeThing_86 : m_D k_Re_takeThing 86 (.invokevirtual 96) 3 := (by decide +kernel : decode prog_8_method_9_code 86 = .ok (.invokevirtual 96, 3))
theorem d_Re_takeThing_89 : m_D k_Re_takeThing 89 (.ifCond .ne 5) 3 := (by decide +kernel : decode prog_8_method_9_code 89 = .ok (.ifCond .ne 5, 3))
theorem d_Re_takeThing_92 : m_D k_Re_takeThing 92 (.iconst 0) 1 := (by decide +kernel : decode prog_8_method_9_code 92 = .ok (.iconst 0, 1))
theorem d_Re_takeThing_93 : m_D k_Re_takeThing 93 (.ireturn) 1 := (by decide +kernel : decode prog_8_method_9_code 93 = .ok (.ireturn, 1))
theorem d_Re_takeThing_94 : m_D k_Re_takeThing 94 (.aload_n 0) 1 := (by decide +kernel : decode prog_8_method_9_code 94 = .ok (.aload_n 0, 1))
theorem d_Re_takeThing_95 : m_D k_Re_takeThing 95 (.getfield 83) 3 := (by decide +kernel : decode prog_8_method_9_code 95 = .ok (.getfield 83, 3))
theorem d_Re_takeThing_98 : m_D k_Re_takeThing 98 (.istore 5) 2 := (by decide +kernel : decode prog_8_method_9_code 98 = .ok (.istore 5, 2))
theorem d_Re_takeThing_100 : m_D k_Re_takeThing 100 (.aload_n 0) 1 := (by decide +kernel : decode prog_8_method_9_code 100 = .ok (.aload_n 0, 1))
theorem d_Re_takeThing_101 : m_D k_Re_takeThing 101 (.invokevirtual 100) 3 := (by decide +kernel : decode prog_8_method_9_code 101 = .ok (.invokevirtual 100, 3))
theorem d_Re_takeThing_104 : m_D k_Re_takeThing 104 (.ifCond .ne 5) 3 := (by decide +kernel : decode prog_8_method_9_code 104 = .ok (.ifCond .ne 5, 3))
theorem d_Re_takeThing_107 : m_D k_Re_takeThing 107 (.iconst 0) 1 := (by decide +kernel : decode prog_8_method_9_code 107 = .ok (.iconst 0, 1))
theorem d_Re_takeThing_108 : m_D k_Re_takeThing 108 (.ireturn) 1 := (by decide +kernel : decode prog_8_method_9_code 108 = .ok (.ireturn, 1))
theorem d_Re_takeThing_109 : m_D k_Re_takeThing 109 (.aload_n 1) 1 := (by decide +kernel : decode prog_8_method_9_code 109 = .ok (.aload_n 1, 1))
theorem d_Re_takeThing_110 : m_D k_Re_takeThing 110 (.lload_n 2) 1 := (by decide +kernel : decode prog_8_method_9_code 110 = .ok (.lload_n 2, 1))
theorem d_Re_takeThing_111 : m_D k_Re_takeThing 111 (.iload 4) 2 := (by decide +kernel : decode prog_8_method_9_code 111 = .ok (.iload 4, 2))
theorem d_Re_takeThing_113 : m_D k_Re_takeThing 113 (.iload 5) 2 := (by decide +kernel : decode prog_8_method_9_code 113 = .ok (.iload 5, 2))
theorem d_Re_takeThing_115 : m_D k_Re_takeThing 115 (.invokevirtual 138) 3 := (by decide +kernel : decode prog_8_method_9_code 115 = .ok (.invokevirtual 138, 3))
theorem d_Re_takeThing_118 : m_D k_Re_takeThing 118 (.iconst 1) 1 := (by decide +kernel : decode prog_8_method_9_code 118 = .ok (.iconst 1, 1))
theorem d_Re_takeThing_119 : m_D k_Re_takeThing 119 (.ireturn) 1 := (by decide +kernel : decode prog_8_method_9_code 119 = .ok (.ireturn, 1))
def fn_Re_takeThing (x0 : Option mA) (x1 : Option mA) : mP Int32 :=
  m_bd (m_gI 3 1 x1) fun v1 =>
  if v1 < 8 then
    m_bd (fn_Tx_advance x0) fun _ =>
    m_bd (m_gJ 2 7 x0) fun v2 =>
    m_bd (fn_Re_isNew x1 v2) fun v3 =>
    m_bd (fn_Tx_takeName x0 v3) fun v4 =>
    if v4 = 0 then
      m_rt 0
    else
      m_bd (fn_Tx_takeWord x0 (some (0, 8, 0))) fun v5 =>
      if v5 = 0 then
        m_rt 0
      else
        m_bd (fn_Tx_takeNumber x0 1 999) fun v6 =>
        if v6 = 0 then
          m_rt 0
        else
          m_bd (m_gI 2 9 x0) fun v7 =>
          m_bd (fn_Tx_is x0 (some (0, 9, 0))) fun v8 =>
          if v8 = 0 then
            m_bd (fn_Tx_takeEndSign x0) fun v9 =>
            if v9 = 0 then
              m_rt 0
            else
              m_bd (fn_Fa_addThing x1 v2 v7 0) fun _ =>
              m_rt 1
          else
            m_bd (fn_Tx_advance x0) fun _ =>
            m_bd (fn_Tx_takeNumber x0 0 999) fun v10 =>
            if v10 = 0 then
              m_rt 0
            else
              m_bd (m_gI 2 9 x0) fun v11 =>
              m_bd (fn_Tx_takeEndSign x0) fun v12 =>
              if v12 = 0 then
                m_rt 0
              else
                m_bd (fn_Fa_addThing x1 v2 v7 v11) fun _ =>
                m_rt 1
  else
    m_bd (fn_Tx_refuse x0 6) fun v13 =>
    m_bd (m_cz v13) fun _ => m_rt v13
set_option maxHeartbeats 4000000 in
set_option maxRecDepth 100000 in
theorem sd_Re_takeThing (x0 : Option mA) (x1 : Option mA) : m_Sm k_Re_takeThing 9 0 0 [.inr (.inr x0), .inr (.inr x1)] (fn_Re_takeThing x0 x1) (fun b => some (.inl b)) := by
  refine ⟨Nat.le_of_ble_eq_true rfl, ?_⟩
  refine sm_aload_n (i := 1) (j := 1) (pc' := 1) d_Re_takeThing_0 rfl rfl rfl ?_
  refine sm_getI (pc' := 4) d_Re_takeThing_1 rfl fl_Re_52 rfl ⟨by decide, by decide⟩ (fun v1 => ?_)
  refine sm_bipush (pc' := 6) d_Re_takeThing_4 rfl ib_8 ?_
  refine sm_icmp_lt (tgt := 16) (pc' := 9) d_Re_takeThing_6 rfl rfl ?_ ?_
  · refine sm_aload_n (i := 0) (j := 0) (pc' := 17) d_Re_takeThing_16 rfl rfl rfl ?_
    refine sm_callVv (ci := 2) (x := x0) (av := []) (st := []) (mc := 0) (ms := 0) (pc' := 20) d_Re_takeThing_17 rfl (sd_Tx_advance x0) m_lv rfl cv_Tx_advance w_ml_Re_93 rfl rfl (by decide) (Nat.le_of_ble_eq_true rfl) rfl rfl ?_
    refine sm_aload_n (i := 0) (j := 0) (pc' := 21) d_Re_takeThing_20 rfl rfl rfl ?_
    refine sm_getJ (pc' := 24) d_Re_takeThing_21 rfl fl_Re_111 rfl rfl (fun v2 => ?_)
    refine sm_lstore_n (i := 2) (L' := [(2, .inr (.inl v2)), (0, .inr (.inr x0)), (1, .inr (.inr x1))]) (pc' := 25) d_Re_takeThing_24 rfl rfl (Nat.le_of_ble_eq_true rfl) rfl (sm_aload_n (i := 0) (j := 1) (pc' := 26) d_Re_takeThing_25 rfl rfl rfl (sm_aload_n (i := 1) (j := 2) (pc' := 27) d_Re_takeThing_26 rfl rfl rfl (sm_lload_n (i := 2) (j := 0) (pc' := 28) d_Re_takeThing_27 rfl rfl rfl ?_)))
    refine sm_callSi (av := [.inr (.inr x1), .inr (.inl v2)]) (st := [.inr (.inr x0)]) (mc := 0) (ms := 0) (pc' := 31) d_Re_takeThing_28 rfl (sd_Re_isNew x1 v2) cs_Re_isNew w_ml_Re_115 rfl rfl (by decide) (Nat.le_of_ble_eq_true rfl) rfl rfl (fun v3 => ?_)
    refine sm_callVi (ci := 2) (x := x0) (av := [.inl v3]) (st := []) (mc := 0) (ms := 0) (pc' := 34) d_Re_takeThing_31 rfl (sd_Tx_takeName x0 v3) m_lv rfl cv_Tx_takeName w_ml_Re_119 rfl rfl (by decide) (Nat.le_of_ble_eq_true rfl) rfl rfl (fun v4 => ?_)
    refine sm_if_eq (tgt := 57) (pc' := 37) d_Re_takeThing_34 rfl rfl ?_ ?_
    · refine sm_iconst (pc' := 58) d_Re_takeThing_57 rfl ic_0 ?_
      exact sm_zreturn d_Re_takeThing_58 rfl (by decide) rfl
    · refine sm_aload_n (i := 0) (j := 1) (pc' := 38) d_Re_takeThing_37 rfl rfl rfl (sm_ldcS (j := 8) (pc' := 40) d_Re_takeThing_38 rfl (by decide) ?_)
      refine sm_callVi (ci := 2) (x := x0) (av := [.inr (.inr (some (0, 8, 0)))]) (st := []) (mc := 0) (ms := 0) (pc' := 43) d_Re_takeThing_40 rfl (sd_Tx_takeWord x0 (some (0, 8, 0))) m_lv rfl cv_Tx_takeWord w_ml_Re_125 rfl rfl (by decide) (Nat.le_of_ble_eq_true rfl) rfl rfl (fun v5 => ?_)
      refine sm_if_eq (tgt := 57) (pc' := 46) d_Re_takeThing_43 rfl rfl ?_ ?_
      · refine sm_iconst (pc' := 58) d_Re_takeThing_57 rfl ic_0 ?_
        exact sm_zreturn d_Re_takeThing_58 rfl (by decide) rfl
      · refine sm_aload_n (i := 0) (j := 1) (pc' := 47) d_Re_takeThing_46 rfl rfl rfl (sm_iconst (pc' := 48) d_Re_takeThing_47 rfl ic_1 (sm_sipush (pc' := 51) d_Re_takeThing_48 rfl is_999 ?_))
        refine sm_callVi (ci := 2) (x := x0) (av := [.inl 1, .inl 999]) (st := []) (mc := 0) (ms := 0) (pc' := 54) d_Re_takeThing_51 rfl (sd_Tx_takeNumber x0 1 999) m_lv rfl cv_Tx_takeNumber w_ml_Re_96 rfl rfl (by decide) (Nat.le_of_ble_eq_true rfl) rfl rfl (fun v6 => ?_)
        refine sm_if_ne (tgt := 59) (pc' := 57) d_Re_takeThing_54 rfl rfl ?_ ?_
        · refine sm_aload_n (i := 0) (j := 1) (pc' := 60) d_Re_takeThing_59 rfl rfl rfl ?_
          refine sm_getI (pc' := 63) d_Re_takeThing_60 rfl fl_Re_83 rfl ⟨by decide, by decide⟩ (fun v7 => ?_)
          refine sm_istore (L' := [(4, .inl v7), (2, .inr (.inl v2)), (0, .inr (.inr x0)), (1, .inr (.inr x1))]) (pc' := 65) d_Re_takeThing_63 rfl (Nat.le_of_ble_eq_true rfl) rfl (sm_iconst (pc' := 66) d_Re_takeThing_65 rfl ic_0 (sm_istore (L' := [(5, .inl 0), (4, .inl v7), (2, .inr (.inl v2)), (0, .inr (.inr x0)), (1, .inr (.inr x1))]) (pc' := 68) d_Re_takeThing_66 rfl (Nat.le_of_ble_eq_true rfl) rfl (sm_aload_n (i := 0) (j := 3) (pc' := 69) d_Re_takeThing_68 rfl rfl rfl (sm_ldcS (j := 9) (pc' := 71) d_Re_takeThing_69 rfl (by decide) ?_))))
          refine sm_callVi (ci := 2) (x := x0) (av := [.inr (.inr (some (0, 9, 0)))]) (st := []) (mc := 0) (ms := 0) (pc' := 74) d_Re_takeThing_71 rfl (sd_Tx_is x0 (some (0, 9, 0))) m_lv rfl cv_Tx_is w_ml_Re_26 rfl rfl (by decide) (Nat.le_of_ble_eq_true rfl) rfl rfl (fun v8 => ?_)
          refine sm_if_eq (tgt := 100) (pc' := 77) d_Re_takeThing_74 rfl rfl ?_ ?_
          · refine sm_aload_n (i := 0) (j := 3) (pc' := 101) d_Re_takeThing_100 rfl rfl rfl ?_
            refine sm_callVi (ci := 2) (x := x0) (av := []) (st := []) (mc := 0) (ms := 0) (pc' := 104) d_Re_takeThing_101 rfl (sd_Tx_takeEndSign x0) m_lv rfl cv_Tx_takeEndSign w_ml_Re_100 rfl rfl (by decide) (Nat.le_of_ble_eq_true rfl) rfl rfl (fun v9 => ?_)
            refine sm_if_ne (tgt := 109) (pc' := 107) d_Re_takeThing_104 rfl rfl ?_ ?_
            · refine sm_aload_n (i := 1) (j := 4) (pc' := 110) d_Re_takeThing_109 rfl rfl rfl (sm_lload_n (i := 2) (j := 2) (pc' := 111) d_Re_takeThing_110 rfl rfl rfl (sm_iload (j := 1) (pc' := 113) d_Re_takeThing_111 rfl rfl (sm_iload (j := 0) (pc' := 115) d_Re_takeThing_113 rfl rfl ?_)))
              refine sm_callVv (ci := 3) (x := x1) (av := [.inr (.inl v2), .inl v7, .inl 0]) (st := []) (mc := 0) (ms := 0) (pc' := 118) d_Re_takeThing_115 rfl (sd_Fa_addThing x1 v2 v7 0) m_lv rfl cv_Fa_addThing w_ml_Re_138 rfl rfl (by decide) (Nat.le_of_ble_eq_true rfl) rfl rfl ?_
              refine sm_iconst (pc' := 119) d_Re_takeThing_118 rfl ic_1 ?_
              exact sm_zreturn d_Re_takeThing_119 rfl (by decide) rfl
            · refine sm_iconst (pc' := 108) d_Re_takeThing_107 rfl ic_0 ?_
              exact sm_zreturn d_Re_takeThing_108 rfl (by decide) rfl
          · refine sm_aload_n (i := 0) (j := 3) (pc' := 78) d_Re_takeThing_77 rfl rfl rfl ?_
            refine sm_callVv (ci := 2) (x := x0) (av := []) (st := []) (mc := 0) (ms := 0) (pc' := 81) d_Re_takeThing_78 rfl (sd_Tx_advance x0) m_lv rfl cv_Tx_advance w_ml_Re_93 rfl rfl (by decide) (Nat.le_of_ble_eq_true rfl) rfl rfl ?_
            refine sm_aload_n (i := 0) (j := 3) (pc' := 82) d_Re_takeThing_81 rfl rfl rfl (sm_iconst (pc' := 83) d_Re_takeThing_82 rfl ic_0 (sm_sipush (pc' := 86) d_Re_takeThing_83 rfl is_999 ?_))
            refine sm_callVi (ci := 2) (x := x0) (av := [.inl 0, .inl 999]) (st := []) (mc := 0) (ms := 0) (pc' := 89) d_Re_takeThing_86 rfl (sd_Tx_takeNumber x0 0 999) m_lv rfl cv_Tx_takeNumber w_ml_Re_96 rfl rfl (by decide) (Nat.le_of_ble_eq_true rfl) rfl rfl (fun v10 => ?_)
            refine sm_if_ne (tgt := 94) (pc' := 92) d_Re_takeThing_89 rfl rfl ?_ ?_
            · refine sm_aload_n (i := 0) (j := 3) (pc' := 95) d_Re_takeThing_94 rfl rfl rfl ?_
              refine sm_getI (pc' := 98) d_Re_takeThing_95 rfl fl_Re_83 rfl ⟨by decide, by decide⟩ (fun v11 => ?_)
              refine sm_istore (L' := [(5, .inl v11), (4, .inl v7), (2, .inr (.inl v2)), (0, .inr (.inr x0)), (1, .inr (.inr x1))]) (pc' := 100) d_Re_takeThing_98 rfl (Nat.le_of_ble_eq_true rfl) rfl (sm_aload_n (i := 0) (j := 3) (pc' := 101) d_Re_takeThing_100 rfl rfl rfl ?_)
              refine sm_callVi (ci := 2) (x := x0) (av := []) (st := []) (mc := 0) (ms := 0) (pc' := 104) d_Re_takeThing_101 rfl (sd_Tx_takeEndSign x0) m_lv rfl cv_Tx_takeEndSign w_ml_Re_100 rfl rfl (by decide) (Nat.le_of_ble_eq_true rfl) rfl rfl (fun v12 => ?_)
              refine sm_if_ne (tgt := 109) (pc' := 107) d_Re_takeThing_104 rfl rfl ?_ ?_
              · refine sm_aload_n (i := 1) (j := 4) (pc' := 110) d_Re_takeThing_109 rfl rfl rfl (sm_lload_n (i := 2) (j := 2) (pc' := 111) d_Re_takeThing_110 rfl rfl rfl (sm_iload (j := 1) (pc' := 113) d_Re_takeThing_111 rfl rfl (sm_iload (j := 0) (pc' := 115) d_Re_takeThing_113 rfl rfl ?_)))
                refine sm_callVv (ci := 3) (x := x1) (av := [.inr (.inl v2), .inl v7, .inl v11]) (st := []) (mc := 0) (ms := 0) (pc' := 118) d_Re_takeThing_115 rfl (sd_Fa_addThing x1 v2 v7 v11) m_lv rfl cv_Fa_addThing w_ml_Re_138 rfl rfl (by decide) (Nat.le_of_ble_eq_true rfl) rfl rfl ?_
                refine sm_iconst (pc' := 119) d_Re_takeThing_118 rfl ic_1 ?_
                exact sm_zreturn d_Re_takeThing_119 rfl (by decide) rfl
              · refine sm_iconst (pc' := 108) d_Re_takeThing_107 rfl ic_0 ?_
                exact sm_zreturn d_Re_takeThing_108 rfl (by decide) rfl
            · refine sm_iconst (pc' := 93) d_Re_takeThing_92 rfl ic_0 ?_
              exact sm_zreturn d_Re_takeThing_93 rfl (by decide) rfl
        · refine sm_iconst (pc' := 58) d_Re_takeThing_57 rfl ic_0 ?_
          exact sm_zreturn d_Re_takeThing_58 rfl (by decide) rfl
  · refine sm_aload_n (i := 0) (j := 0) (pc' := 10) d_Re_takeThing_9 rfl rfl rfl (sm_bipush (pc' := 12) d_Re_takeThing_10 rfl ib_6 ?_)
    refine sm_callVi (ci := 2) (x := x0) (av := [.inl 6]) (st := []) (mc := 0) (ms := 0) (pc' := 15) d_Re_takeThing_12 rfl (sd_Tx_refuse x0 6) m_lv rfl cv_Tx_refuse w_ml_Re_89 rfl rfl (by decide) (Nat.le_of_ble_eq_true rfl) rfl rfl (fun v13 => ?_)
    exact sm_zretC d_Re_takeThing_15 rfl rfl
theorem d_Re_takeFamily_0 : m_D k_Re_takeFamily 0 (.aload_n 1) 1 := (by decide +kernel : decode prog_8_method_2_code 0 = .ok (.aload_n 1, 1))
theorem d_Re_takeFamily_1 : m_D k_Re_takeFamily 1 (.invokestatic 9) 3 := (by decide +kernel : decode prog_8_method_2_code 1 = .ok (.invokestatic 9, 3))
theorem d_Re_takeFamily_4 : m_D k_Re_takeFamily 4 (.iconst 0) 1 := (by decide +kernel : decode prog_8_method_2_code 4 = .ok (.iconst 0, 1))
theorem d_Re_takeFamily_5 : m_D k_Re_takeFamily 5 (.istore_n 2) 1 := (by decide +kernel : decode prog_8_method_2_code 5 = .ok (.istore_n 2, 1))
theorem d_Re_takeFamily_6 : m_D k_Re_takeFamily 6 (.iload_n 2) 1 := (by decide +kernel : decode prog_8_method_2_code 6 = .ok (.iload_n 2, 1))
theorem d_Re_takeFamily_7 : m_D k_Re_takeFamily 7 (.sipush 900) 3 := (by decide +kernel : decode prog_8_method_2_code 7 = .ok (.sipush 900, 3))
theorem d_Re_takeFamily_10 : m_D k_Re_takeFamily 10 (.if_icmp .gt 85) 3 := (by decide +kernel : decode prog_8_method_2_code 10 = .ok (.if_icmp .gt 85, 3))
theorem d_Re_takeFamily_13 : m_D k_Re_takeFamily 13 (.aload_n 0) 1 := (by decide +kernel : decode prog_8_method_2_code 13 = .ok (.aload_n 0, 1))
theorem d_Re_takeFamily_14 : m_D k_Re_takeFamily 14 (.getfield 15) 3 := (by decide +kernel : decode prog_8_method_2_code 14 = .ok (.getfield 15, 3))
theorem d_Re_takeFamily_17 : m_D k_Re_takeFamily 17 (.ifCond .ne 9) 3 := (by decide +kernel : decode prog_8_method_2_code 17 = .ok (.ifCond .ne 9, 3))
theorem d_Re_takeFamily_20 : m_D k_Re_takeFamily 20 (.aload_n 1) 1 := (by decide +kernel : decode prog_8_method_2_code 20 = .ok (.aload_n 1, 1))
theorem d_Re_takeFamily_21 : m_D k_Re_takeFamily 21 (.invokestatic 21) 3 := (by decide +kernel : decode prog_8_method_2_code 21 = .ok (.invokestatic 21, 3))
theorem d_Re_takeFamily_24 : m_D k_Re_takeFamily 24 (.iconst 1) 1 := (by decide +kernel : decode prog_8_method_2_code 24 = .ok (.iconst 1, 1))
theorem d_Re_takeFamily_25 : m_D k_Re_takeFamily 25 (.ireturn) 1 := (by decide +kernel : decode prog_8_method_2_code 25 = .ok (.ireturn, 1))
theorem d_Re_takeFamily_26 : m_D k_Re_takeFamily 26 (.aload_n 0) 1 := (by decide +kernel : decode prog_8_method_2_code 26 = .ok (.aload_n 0, 1))
theorem d_Re_takeFamily_27 : m_D k_Re_takeFamily 27 (.ldc 24) 2 := (by decide +kernel : decode prog_8_method_2_code 27 = .ok (.ldc 24, 2))
theorem d_Re_takeFamily_29 : m_D k_Re_takeFamily 29 (.invokevirtual 26) 3 := (by decide +kernel : decode prog_8_method_2_code 29 = .ok (.invokevirtual 26, 3))
theorem d_Re_takeFamily_32 : m_D k_Re_takeFamily 32 (.ifCond .eq 11) 3 := (by decide +kernel : decode prog_8_method_2_code 32 = .ok (.ifCond .eq 11, 3))
theorem d_Re_takeFamily_35 : m_D k_Re_takeFamily 35 (.aload_n 0) 1 := (by decide +kernel : decode prog_8_method_2_code 35 = .ok (.aload_n 0, 1))
theorem d_Re_takeFamily_36 : m_D k_Re_takeFamily 36 (.aload_n 1) 1 := (by decide +kernel : decode prog_8_method_2_code 36 = .ok (.aload_n 1, 1))
theorem d_Re_takeFamily_37 : m_D k_Re_takeFamily 37 (.invokestatic 30) 3 := (by decide +kernel : decode prog_8_method_2_code 37 = .ok (.invokestatic 30, 3))
theorem d_Re_takeFamily_40 : m_D k_Re_takeFamily 40 (.goto 42) 3 := (by decide +kernel : decode prog_8_method_2_code 40 = .ok (.goto 42, 3))
theorem d_Re_takeFamily_43 : m_D k_Re_takeFamily 43 (.aload_n 0) 1 := (by decide +kernel : decode prog_8_method_2_code 43 = .ok (.aload_n 0, 1))
theorem d_Re_takeFamily_44 : m_D k_Re_takeFamily 44 (.ldc 34) 2 := (by decide +kernel : decode prog_8_method_2_code 44 = .ok (.ldc 34, 2))
theorem d_Re_takeFamily_46 : m_D k_Re_takeFamily 46 (.invokevirtual 26) 3 := (by decide +kernel : decode prog_8_method_2_code 46 = .ok (.invokevirtual 26, 3))
theorem d_Re_takeFamily_49 : m_D k_Re_takeFamily 49 (.ifCond .eq 11) 3 := (by decide +kernel : decode prog_8_method_2_code 49 = .ok (.ifCond .eq 11, 3))
theorem d_Re_takeFamily_52 : m_D k_Re_takeFamily 52 (.aload_n 0) 1 := (by decide +kernel : decode prog_8_method_2_code 52 = .ok (.aload_n 0, 1))
theorem d_Re_takeFamily_53 : m_D k_Re_takeFamily 53 (.aload_n 1) 1 := (by decide +kernel : decode prog_8_method_2_code 53 = .ok (.aload_n 1, 1))
theorem d_Re_takeFamily_54 : m_D k_Re_takeFamily 54 (.invokestatic 36) 3 := (by decide +kernel : decode prog_8_method_2_code 54 = .ok (.invokestatic 36, 3))
theorem d_Re_takeFamily_57 : m_D k_Re_takeFamily 57 (.goto 25) 3 := (by decide +kernel : decode prog_8_method_2_code 57 = .ok (.goto 25, 3))
theorem d_Re_takeFamily_60 : m_D k_Re_takeFamily 60 (.aload_n 0) 1 := (by decide +kernel : decode prog_8_method_2_code 60 = .ok (.aload_n 0, 1))
theorem d_Re_takeFamily_61 : m_D k_Re_takeFamily 61 (.ldc 39) 2 := (by decide +kernel : decode prog_8_method_2_code 61 = .ok (.ldc 39, 2))
theorem d_Re_takeFamily_63 : m_D k_Re_takeFamily 63 (.invokevirtual 26) 3 := (by decide +kernel : decode prog_8_method_2_code 63 = .ok (.invokevirtual 26, 3))
theorem d_Re_takeFamily_66 : m_D k_Re_takeFamily 66 (.ifCond .eq 11) 3 := (by decide +kernel : decode prog_8_method_2_code 66 = .ok (.ifCond .eq 11, 3))
theorem d_Re_takeFamily_69 : m_D k_Re_takeFamily 69 (.aload_n 0) 1 := (by decide +kernel : decode prog_8_method_2_code 69 = .ok (.aload_n 0, 1))
theorem d_Re_takeFamily_70 : m_D k_Re_takeFamily 70 (.aload_n 1) 1 := (by decide +kernel : decode prog_8_method_2_code 70 = .ok (.aload_n 1, 1))
theorem d_Re_takeFamily_71 : m_D k_Re_takeFamily 71 (.invokestatic 41) 3 := (by decide +kernel : decode prog_8_method_2_code 71 = .ok (.invokestatic 41, 3))
theorem d_Re_takeFamily_74 : m_D k_Re_takeFamily 74 (.goto 8) 3 := (by decide +kernel : decode prog_8_method_2_code 74 = .ok (.goto 8, 3))
theorem d_Re_takeFamily_77 : m_D k_Re_takeFamily 77 (.aload_n 0) 1 := (by decide +kernel : decode prog_8_method_2_code 77 = .ok (.aload_n 0, 1))
theorem d_Re_takeFamily_78 : m_D k_Re_takeFamily 78 (.aload_n 1) 1 := (by decide +kernel : decode prog_8_method_2_code 78 = .ok (.aload_n 1, 1))
theorem d_Re_takeFamily_79 : m_D k_Re_takeFamily 79 (.invokestatic 44) 3 := (by decide +kernel : decode prog_8_method_2_code 79 = .ok (.invokestatic 44, 3))
theorem d_Re_takeFamily_82 : m_D k_Re_takeFamily 82 (.istore_n 3) 1 := (by decide +kernel : decode prog_8_method_2_code 82 = .ok (.istore_n 3, 1))
theorem d_Re_takeFamily_83 : m_D k_Re_takeFamily 83 (.iload_n 3) 1 := (by decide +kernel : decode prog_8_method_2_code 83 = .ok (.iload_n 3, 1))
theorem d_Re_takeFamily_84 : m_D k_Re_takeFamily 84 (.ifCond .ne 5) 3 := (by decide +kernel : decode prog_8_method_2_code 84 = .ok (.ifCond .ne 5, 3))
theorem d_Re_takeFamily_87 : m_D k_Re_takeFamily 87 (.iconst 0) 1 := (by decide +kernel : decode prog_8_method_2_code 87 = .ok (.iconst 0, 1))
theorem d_Re_takeFamily_88 : m_D k_Re_takeFamily 88 (.ireturn) 1 := (by decide +kernel : decode prog_8_method_2_code 88 = .ok (.ireturn, 1))
theorem d_Re_takeFamily_89 : m_D k_Re_takeFamily 89 (.iinc 2 1) 3 := (by decide +kernel : decode prog_8_method_2_code 89 = .ok (.iinc 2 1, 3))
theorem d_Re_takeFamily_92 : m_D k_Re_takeFamily 92 (.goto (-86)) 3 := (by decide +kernel : decode prog_8_method_2_code 92 = .ok (.goto (-86), 3))
theorem d_Re_takeFamily_95 : m_D k_Re_takeFamily 95 (.iconst 0) 1 := (by decide +kernel : decode prog_8_method_2_code 95 = .ok (.iconst 0, 1))
theorem d_Re_takeFamily_96 : m_D k_Re_takeFamily 96 (.ireturn) 1 := (by decide +kernel : decode prog_8_method_2_code 96 = .ok (.ireturn, 1))
def fn_Re_takeFamily_l6 (x0 : Option mA) (x1 : Option mA) (t1 : Int32) : mP ((Int32) ⊕ (Int32)) :=
  if 900 < t1 then
    m_rt (.inr 0)
  else
    m_bd (m_gI 2 4 x0) fun v2 =>
    if v2 = 0 then
      m_bd (fn_Re_setDefaults x1) fun _ =>
      m_rt (.inr 1)
    else
      m_bd (fn_Tx_is x0 (some (0, 0, 0))) fun v3 =>
      m_bd (α := Int32) (
        if v3 = 0 then
          m_bd (fn_Tx_is x0 (some (0, 7, 0))) fun v4 =>
          if v4 = 0 then
            m_bd (fn_Tx_is x0 (some (0, 10, 0))) fun v5 =>
            if v5 = 0 then
              m_bd (fn_Re_takeRule x0 x1) fun v6 =>
              m_rt v6
            else
              m_bd (fn_Re_takeLove x0 x1) fun v7 =>
              m_rt v7
          else
            m_bd (fn_Re_takeThing x0 x1) fun v8 =>
            m_rt v8
        else
          m_bd (fn_Re_takePerson x0 x1) fun v9 =>
          m_rt v9
        ) fun (t10 : Int32) =>
      if t10 = 0 then
        m_rt (.inr 0)
      else
        m_rt (.inl (t1 + 1))
def fn_Re_takeFamily (x0 : Option mA) (x1 : Option mA) : mP Int32 :=
  m_bd (fn_Re_clear x1) fun _ =>
  m_lp (fn_Re_takeFamily_l6 x0 x1) m_F 0
set_option maxHeartbeats 4000000 in
set_option maxRecDepth 100000 in
theorem sd_Re_takeFamily (x0 : Option mA) (x1 : Option mA) : m_Sm k_Re_takeFamily 10 0 0 [.inr (.inr x0), .inr (.inr x1)] (fn_Re_takeFamily x0 x1) (fun b => some (.inl b)) := by
  refine ⟨Nat.le_of_ble_eq_true rfl, ?_⟩
  refine sm_aload_n (i := 1) (j := 1) (pc' := 1) d_Re_takeFamily_0 rfl rfl rfl ?_
  refine sm_callSv (av := [.inr (.inr x1)]) (st := []) (mc := 0) (ms := 0) (pc' := 4) d_Re_takeFamily_1 rfl (sd_Re_clear x1) cs_Re_clear w_ml_Re_9 rfl rfl (by decide) (Nat.le_of_ble_eq_true rfl) rfl rfl ?_
  refine sm_iconst (pc' := 5) d_Re_takeFamily_4 rfl ic_0 (sm_istore_n (i := 2) (L' := [(2, .inl 0), (0, .inr (.inr x0)), (1, .inr (.inr x1))]) (pc' := 6) d_Re_takeFamily_5 rfl rfl (Nat.le_of_ble_eq_true rfl) rfl ?_)
  refine sm_sub [0, 1, 2] rfl ?_
  refine sm_lp (hd := fun (t1 : Int32) => (.inl (6, [(2, .inl t1), (0, .inr (.inr x0)), (1, .inr (.inr x1))], []) : mC)) (fun t1 => ?_) m_F 0
  refine sm_iload_n (i := 2) (j := 0) (pc' := 7) d_Re_takeFamily_6 rfl rfl rfl (sm_sipush (pc' := 10) d_Re_takeFamily_7 rfl is_900 ?_)
  refine sm_icmp_gt (tgt := 95) (pc' := 13) d_Re_takeFamily_10 rfl rfl ?_ ?_
  · refine sm_iconst (pc' := 96) d_Re_takeFamily_95 rfl ic_0 ?_
    exact sm_zreturn d_Re_takeFamily_96 rfl (by decide) rfl
  · refine sm_aload_n (i := 0) (j := 1) (pc' := 14) d_Re_takeFamily_13 rfl rfl rfl ?_
    refine sm_getI (pc' := 17) d_Re_takeFamily_14 rfl fl_Re_15 rfl ⟨by decide, by decide⟩ (fun v2 => ?_)
    refine sm_if_ne (tgt := 26) (pc' := 20) d_Re_takeFamily_17 rfl rfl ?_ ?_
    · refine sm_aload_n (i := 0) (j := 1) (pc' := 27) d_Re_takeFamily_26 rfl rfl rfl (sm_ldcS (j := 0) (pc' := 29) d_Re_takeFamily_27 rfl (by decide) ?_)
      refine sm_callVi (ci := 2) (x := x0) (av := [.inr (.inr (some (0, 0, 0)))]) (st := []) (mc := 0) (ms := 0) (pc' := 32) d_Re_takeFamily_29 rfl (sd_Tx_is x0 (some (0, 0, 0))) m_lv rfl cv_Tx_is w_ml_Re_26 rfl rfl (by decide) (Nat.le_of_ble_eq_true rfl) rfl rfl (fun v3 => ?_)
      refine sm_bd (mid := fun (t10 : Int32) => .inl (82, [(0, .inr (.inr x0)), (1, .inr (.inr x1)), (2, .inl t1)], [.inl t10])) ?_ (fun t10 => ?_)
      · refine sm_if_eq (tgt := 43) (pc' := 35) d_Re_takeFamily_32 rfl rfl ?_ ?_
        · refine sm_aload_n (i := 0) (j := 1) (pc' := 44) d_Re_takeFamily_43 rfl rfl rfl (sm_ldcS (j := 7) (pc' := 46) d_Re_takeFamily_44 rfl (by decide) ?_)
          refine sm_callVi (ci := 2) (x := x0) (av := [.inr (.inr (some (0, 7, 0)))]) (st := []) (mc := 0) (ms := 0) (pc' := 49) d_Re_takeFamily_46 rfl (sd_Tx_is x0 (some (0, 7, 0))) m_lv rfl cv_Tx_is w_ml_Re_26 rfl rfl (by decide) (Nat.le_of_ble_eq_true rfl) rfl rfl (fun v4 => ?_)
          refine sm_if_eq (tgt := 60) (pc' := 52) d_Re_takeFamily_49 rfl rfl ?_ ?_
          · refine sm_aload_n (i := 0) (j := 1) (pc' := 61) d_Re_takeFamily_60 rfl rfl rfl (sm_ldcS (j := 10) (pc' := 63) d_Re_takeFamily_61 rfl (by decide) ?_)
            refine sm_callVi (ci := 2) (x := x0) (av := [.inr (.inr (some (0, 10, 0)))]) (st := []) (mc := 0) (ms := 0) (pc' := 66) d_Re_takeFamily_63 rfl (sd_Tx_is x0 (some (0, 10, 0))) m_lv rfl cv_Tx_is w_ml_Re_26 rfl rfl (by decide) (Nat.le_of_ble_eq_true rfl) rfl rfl (fun v5 => ?_)
            refine sm_if_eq (tgt := 77) (pc' := 69) d_Re_takeFamily_66 rfl rfl ?_ ?_
            · refine sm_aload_n (i := 0) (j := 1) (pc' := 78) d_Re_takeFamily_77 rfl rfl rfl (sm_aload_n (i := 1) (j := 2) (pc' := 79) d_Re_takeFamily_78 rfl rfl rfl ?_)
              refine sm_callSi (av := [.inr (.inr x0), .inr (.inr x1)]) (st := []) (mc := 0) (ms := 0) (pc' := 82) d_Re_takeFamily_79 rfl (sd_Re_takeRule x0 x1) cs_Re_takeRule w_ml_Re_44 rfl rfl (by decide) (Nat.le_of_ble_eq_true rfl) rfl rfl (fun v6 => ?_)
              refine sm_sub [1, 2, 0] rfl ?_
              exact sm_rt rfl
            · refine sm_aload_n (i := 0) (j := 1) (pc' := 70) d_Re_takeFamily_69 rfl rfl rfl (sm_aload_n (i := 1) (j := 2) (pc' := 71) d_Re_takeFamily_70 rfl rfl rfl ?_)
              refine sm_callSi (av := [.inr (.inr x0), .inr (.inr x1)]) (st := []) (mc := 0) (ms := 0) (pc' := 74) d_Re_takeFamily_71 rfl (sd_Re_takeLove x0 x1) cs_Re_takeLove w_ml_Re_41 rfl rfl (by decide) (Nat.le_of_ble_eq_true rfl) rfl rfl (fun v7 => ?_)
              refine sm_goto (tgt := 82) d_Re_takeFamily_74 rfl (sm_sub [1, 2, 0] rfl ?_)
              exact sm_rt rfl
          · refine sm_aload_n (i := 0) (j := 1) (pc' := 53) d_Re_takeFamily_52 rfl rfl rfl (sm_aload_n (i := 1) (j := 2) (pc' := 54) d_Re_takeFamily_53 rfl rfl rfl ?_)
            refine sm_callSi (av := [.inr (.inr x0), .inr (.inr x1)]) (st := []) (mc := 0) (ms := 0) (pc' := 57) d_Re_takeFamily_54 rfl (sd_Re_takeThing x0 x1) cs_Re_takeThing w_ml_Re_36 rfl rfl (by decide) (Nat.le_of_ble_eq_true rfl) rfl rfl (fun v8 => ?_)
            refine sm_goto (tgt := 82) d_Re_takeFamily_57 rfl (sm_sub [1, 2, 0] rfl ?_)
            exact sm_rt rfl
        · refine sm_aload_n (i := 0) (j := 1) (pc' := 36) d_Re_takeFamily_35 rfl rfl rfl (sm_aload_n (i := 1) (j := 2) (pc' := 37) d_Re_takeFamily_36 rfl rfl rfl ?_)
          refine sm_callSi (av := [.inr (.inr x0), .inr (.inr x1)]) (st := []) (mc := 0) (ms := 0) (pc' := 40) d_Re_takeFamily_37 rfl (sd_Re_takePerson x0 x1) cs_Re_takePerson w_ml_Re_30 rfl rfl (by decide) (Nat.le_of_ble_eq_true rfl) rfl rfl (fun v9 => ?_)
          refine sm_goto (tgt := 82) d_Re_takeFamily_40 rfl (sm_sub [1, 2, 0] rfl ?_)
          exact sm_rt rfl
      · refine sm_istore_n (i := 3) (L' := [(3, .inl t10), (0, .inr (.inr x0)), (1, .inr (.inr x1)), (2, .inl t1)]) (pc' := 83) d_Re_takeFamily_82 rfl rfl (Nat.le_of_ble_eq_true rfl) rfl (sm_iload_n (i := 3) (j := 0) (pc' := 84) d_Re_takeFamily_83 rfl rfl rfl ?_)
        refine sm_if_ne (tgt := 89) (pc' := 87) d_Re_takeFamily_84 rfl rfl ?_ ?_
        · refine sm_iinc (j := 3) (L' := [(2, .inl (t1 + 1)), (3, .inl t10), (0, .inr (.inr x0)), (1, .inr (.inr x1))]) (pc' := 92) d_Re_takeFamily_89 rfl (v := (t1 + 1)) rfl (ix_1 _) (Nat.le_of_ble_eq_true rfl) rfl (sm_goto (tgt := 6) d_Re_takeFamily_92 rfl (sm_sub [0, 2, 3] rfl ?_))
          exact sm_rt rfl
        · refine sm_iconst (pc' := 88) d_Re_takeFamily_87 rfl ic_0 ?_
          exact sm_zreturn d_Re_takeFamily_88 rfl (by decide) rfl
    · refine sm_aload_n (i := 1) (j := 2) (pc' := 21) d_Re_takeFamily_20 rfl rfl rfl ?_
      refine sm_callSv (av := [.inr (.inr x1)]) (st := []) (mc := 0) (ms := 0) (pc' := 24) d_Re_takeFamily_21 rfl (sd_Re_setDefaults x1) cs_Re_setDefaults w_ml_Re_21 rfl rfl (by decide) (Nat.le_of_ble_eq_true rfl) rfl rfl ?_
      refine sm_iconst (pc' := 25) d_Re_takeFamily_24 rfl ic_1 ?_
      exact sm_zreturn d_Re_takeFamily_25 rfl (by decide) rfl
theorem d_Tx_open_0 : m_D k_Tx_open 0 (.aload_n 0) 1 := (by decide +kernel : decode prog_10_method_3_code 0 = .ok (.aload_n 0, 1))
theorem d_Tx_open_1 : m_D k_Tx_open 1 (.iload_n 1) 1 := (by decide +kernel : decode prog_10_method_3_code 1 = .ok (.iload_n 1, 1))
theorem d_Tx_open_2 : m_D k_Tx_open 2 (.putfield 25) 3 := (by decide +kernel : decode prog_10_method_3_code 2 = .ok (.putfield 25, 3))
theorem d_Tx_open_5 : m_D k_Tx_open 5 (.aload_n 0) 1 := (by decide +kernel : decode prog_10_method_3_code 5 = .ok (.aload_n 0, 1))
theorem d_Tx_open_6 : m_D k_Tx_open 6 (.iconst 0) 1 := (by decide +kernel : decode prog_10_method_3_code 6 = .ok (.iconst 0, 1))
theorem d_Tx_open_7 : m_D k_Tx_open 7 (.putfield 22) 3 := (by decide +kernel : decode prog_10_method_3_code 7 = .ok (.putfield 22, 3))
theorem d_Tx_open_10 : m_D k_Tx_open 10 (.aload_n 0) 1 := (by decide +kernel : decode prog_10_method_3_code 10 = .ok (.aload_n 0, 1))
theorem d_Tx_open_11 : m_D k_Tx_open 11 (.iconst 0) 1 := (by decide +kernel : decode prog_10_method_3_code 11 = .ok (.iconst 0, 1))
theorem d_Tx_open_12 : m_D k_Tx_open 12 (.putfield 28) 3 := (by decide +kernel : decode prog_10_method_3_code 12 = .ok (.putfield 28, 3))
theorem d_Tx_open_15 : m_D k_Tx_open 15 (.aload_n 0) 1 := (by decide +kernel : decode prog_10_method_3_code 15 = .ok (.aload_n 0, 1))
theorem d_Tx_open_16 : m_D k_Tx_open 16 (.iconst 0) 1 := (by decide +kernel : decode prog_10_method_3_code 16 = .ok (.iconst 0, 1))
theorem d_Tx_open_17 : m_D k_Tx_open 17 (.putfield 15) 3 := (by decide +kernel : decode prog_10_method_3_code 17 = .ok (.putfield 15, 3))
theorem d_Tx_open_20 : m_D k_Tx_open 20 (.aload_n 0) 1 := (by decide +kernel : decode prog_10_method_3_code 20 = .ok (.aload_n 0, 1))
theorem d_Tx_open_21 : m_D k_Tx_open 21 (.iconst (-1)) 1 := (by decide +kernel : decode prog_10_method_3_code 21 = .ok (.iconst (-1), 1))
theorem d_Tx_open_22 : m_D k_Tx_open 22 (.putfield 19) 3 := (by decide +kernel : decode prog_10_method_3_code 22 = .ok (.putfield 19, 3))
theorem d_Tx_open_25 : m_D k_Tx_open 25 (.aload_n 0) 1 := (by decide +kernel : decode prog_10_method_3_code 25 = .ok (.aload_n 0, 1))
theorem d_Tx_open_26 : m_D k_Tx_open 26 (.invokevirtual 31) 3 := (by decide +kernel : decode prog_10_method_3_code 26 = .ok (.invokevirtual 31, 3))
theorem d_Tx_open_29 : m_D k_Tx_open 29 (.return_) 1 := (by decide +kernel : decode prog_10_method_3_code 29 = .ok (.return_, 1))
def fn_Tx_open (x0 : Option mA) (x1 : Int32) : mP Unit :=
  m_th 2 x0 <|
  m_bd (m_pI 2 2 x0 x1) fun _ =>
  m_bd (m_pI 2 1 x0 0) fun _ =>
  m_bd (m_pI 2 3 x0 0) fun _ =>
  m_bd (m_pI 2 10 x0 0) fun _ =>
  m_bd (m_pI 2 11 x0 (-1)) fun _ =>
  m_bd (fn_Tx_advance x0) fun _ =>
  m_rt ()
set_option maxHeartbeats 4000000 in
set_option maxRecDepth 100000 in
theorem sd_Tx_open (x0 : Option mA) (x1 : Int32) : m_Sm k_Tx_open 4 0 0 [.inr (.inr x0), .inl x1] (fn_Tx_open x0 x1) (fun _ => none) := by
  refine ⟨Nat.le_of_ble_eq_true rfl, ?_⟩
  refine sm_th ?_
  refine sm_aload_n (i := 0) (j := 0) (pc' := 1) d_Tx_open_0 rfl rfl rfl (sm_iload_n (i := 1) (j := 1) (pc' := 2) d_Tx_open_1 rfl rfl rfl (sm_putI (pc' := 5) d_Tx_open_2 rfl fl_Tx_25 (Or.inl rfl) rfl (sm_aload_n (i := 0) (j := 0) (pc' := 6) d_Tx_open_5 rfl rfl rfl (sm_iconst (pc' := 7) d_Tx_open_6 rfl ic_0 (sm_putI (pc' := 10) d_Tx_open_7 rfl fl_Tx_22 (Or.inl rfl) rfl (sm_aload_n (i := 0) (j := 0) (pc' := 11) d_Tx_open_10 rfl rfl rfl (sm_iconst (pc' := 12) d_Tx_open_11 rfl ic_0 (sm_putI (pc' := 15) d_Tx_open_12 rfl fl_Tx_28 (Or.inl rfl) rfl (sm_aload_n (i := 0) (j := 0) (pc' := 16) d_Tx_open_15 rfl rfl rfl ?_)))))))))
  refine sm_iconst (pc' := 17) d_Tx_open_16 rfl ic_0 (sm_putI (pc' := 20) d_Tx_open_17 rfl fl_Tx_15 (Or.inl rfl) rfl (sm_aload_n (i := 0) (j := 0) (pc' := 21) d_Tx_open_20 rfl rfl rfl (sm_iconst (pc' := 22) d_Tx_open_21 rfl ic_m1 (sm_putI (pc' := 25) d_Tx_open_22 rfl fl_Tx_19 (Or.inl rfl) rfl (sm_aload_n (i := 0) (j := 0) (pc' := 26) d_Tx_open_25 rfl rfl rfl ?_)))))
  refine sm_callVv (ci := 2) (x := x0) (av := []) (st := []) (mc := 0) (ms := 0) (pc' := 29) d_Tx_open_26 rfl (sd_Tx_advance x0) m_lv rfl cv_Tx_advance w_ml_Tx_31 rfl rfl (by decide) (Nat.le_of_ble_eq_true rfl) rfl rfl ?_
  exact sm_return d_Tx_open_29 rfl rfl
theorem d_C_family_0 : m_D k_C_family 0 (.aload_n 0) 1 := (by decide +kernel : decode prog_1_method_14_code 0 = .ok (.aload_n 0, 1))
theorem d_C_family_1 : m_D k_C_family 1 (.iload_n 1) 1 := (by decide +kernel : decode prog_1_method_14_code 1 = .ok (.iload_n 1, 1))
theorem d_C_family_2 : m_D k_C_family 2 (.ifCond .lt 14) 3 := (by decide +kernel : decode prog_1_method_14_code 2 = .ok (.ifCond .lt 14, 3))
theorem d_C_family_5 : m_D k_C_family 5 (.iload_n 1) 1 := (by decide +kernel : decode prog_1_method_14_code 5 = .ok (.iload_n 1, 1))
theorem d_C_family_6 : m_D k_C_family 6 (.aload_n 0) 1 := (by decide +kernel : decode prog_1_method_14_code 6 = .ok (.aload_n 0, 1))
theorem d_C_family_7 : m_D k_C_family 7 (.getfield 30) 3 := (by decide +kernel : decode prog_1_method_14_code 7 = .ok (.getfield 30, 3))
theorem d_C_family_10 : m_D k_C_family 10 (.getfield 141) 3 := (by decide +kernel : decode prog_1_method_14_code 10 = .ok (.getfield 141, 3))
theorem d_C_family_13 : m_D k_C_family 13 (.if_icmp .le 7) 3 := (by decide +kernel : decode prog_1_method_14_code 13 = .ok (.if_icmp .le 7, 3))
theorem d_C_family_16 : m_D k_C_family 16 (.iconst 5) 1 := (by decide +kernel : decode prog_1_method_14_code 16 = .ok (.iconst 5, 1))
theorem d_C_family_17 : m_D k_C_family 17 (.goto 4) 3 := (by decide +kernel : decode prog_1_method_14_code 17 = .ok (.goto 4, 3))
theorem d_C_family_20 : m_D k_C_family 20 (.iconst 0) 1 := (by decide +kernel : decode prog_1_method_14_code 20 = .ok (.iconst 0, 1))
theorem d_C_family_21 : m_D k_C_family 21 (.putfield 9) 3 := (by decide +kernel : decode prog_1_method_14_code 21 = .ok (.putfield 9, 3))
theorem d_C_family_24 : m_D k_C_family 24 (.aload_n 0) 1 := (by decide +kernel : decode prog_1_method_14_code 24 = .ok (.aload_n 0, 1))
theorem d_C_family_25 : m_D k_C_family 25 (.getfield 9) 3 := (by decide +kernel : decode prog_1_method_14_code 25 = .ok (.getfield 9, 3))
theorem d_C_family_28 : m_D k_C_family 28 (.ifCond .eq 5) 3 := (by decide +kernel : decode prog_1_method_14_code 28 = .ok (.ifCond .eq 5, 3))
theorem d_C_family_31 : m_D k_C_family 31 (.iconst (-1)) 1 := (by decide +kernel : decode prog_1_method_14_code 31 = .ok (.iconst (-1), 1))
theorem d_C_family_32 : m_D k_C_family 32 (.ireturn) 1 := (by decide +kernel : decode prog_1_method_14_code 32 = .ok (.ireturn, 1))
theorem d_C_family_33 : m_D k_C_family 33 (.aload_n 0) 1 := (by decide +kernel : decode prog_1_method_14_code 33 = .ok (.aload_n 0, 1))
theorem d_C_family_34 : m_D k_C_family 34 (.getfield 30) 3 := (by decide +kernel : decode prog_1_method_14_code 34 = .ok (.getfield 30, 3))
theorem d_C_family_37 : m_D k_C_family 37 (.iload_n 1) 1 := (by decide +kernel : decode prog_1_method_14_code 37 = .ok (.iload_n 1, 1))
theorem d_C_family_38 : m_D k_C_family 38 (.invokevirtual 147) 3 := (by decide +kernel : decode prog_1_method_14_code 38 = .ok (.invokevirtual 147, 3))
theorem d_C_family_41 : m_D k_C_family 41 (.aload_n 0) 1 := (by decide +kernel : decode prog_1_method_14_code 41 = .ok (.aload_n 0, 1))
theorem d_C_family_42 : m_D k_C_family 42 (.getfield 30) 3 := (by decide +kernel : decode prog_1_method_14_code 42 = .ok (.getfield 30, 3))
theorem d_C_family_45 : m_D k_C_family 45 (.aload_n 0) 1 := (by decide +kernel : decode prog_1_method_14_code 45 = .ok (.aload_n 0, 1))
theorem d_C_family_46 : m_D k_C_family 46 (.getfield 41) 3 := (by decide +kernel : decode prog_1_method_14_code 46 = .ok (.getfield 41, 3))
theorem d_C_family_49 : m_D k_C_family 49 (.invokestatic 150) 3 := (by decide +kernel : decode prog_1_method_14_code 49 = .ok (.invokestatic 150, 3))
theorem d_C_family_52 : m_D k_C_family 52 (.ifCond .ne 11) 3 := (by decide +kernel : decode prog_1_method_14_code 52 = .ok (.ifCond .ne 11, 3))
theorem d_C_family_55 : m_D k_C_family 55 (.aload_n 0) 1 := (by decide +kernel : decode prog_1_method_14_code 55 = .ok (.aload_n 0, 1))
theorem d_C_family_56 : m_D k_C_family 56 (.bipush 10) 2 := (by decide +kernel : decode prog_1_method_14_code 56 = .ok (.bipush 10, 2))
theorem d_C_family_58 : m_D k_C_family 58 (.putfield 9) 3 := (by decide +kernel : decode prog_1_method_14_code 58 = .ok (.putfield 9, 3))
theorem d_C_family_61 : m_D k_C_family 61 (.iconst (-1)) 1 := (by decide +kernel : decode prog_1_method_14_code 61 = .ok (.iconst (-1), 1))
theorem d_C_family_62 : m_D k_C_family 62 (.ireturn) 1 := (by decide +kernel : decode prog_1_method_14_code 62 = .ok (.ireturn, 1))
theorem d_C_family_63 : m_D k_C_family 63 (.aload_n 0) 1 := (by decide +kernel : decode prog_1_method_14_code 63 = .ok (.aload_n 0, 1))
theorem d_C_family_64 : m_D k_C_family 64 (.getfield 37) 3 := (by decide +kernel : decode prog_1_method_14_code 64 = .ok (.getfield 37, 3))
theorem d_C_family_67 : m_D k_C_family 67 (.astore_n 2) 1 := (by decide +kernel : decode prog_1_method_14_code 67 = .ok (.astore_n 2, 1))
theorem d_C_family_68 : m_D k_C_family 68 (.aload_n 0) 1 := (by decide +kernel : decode prog_1_method_14_code 68 = .ok (.aload_n 0, 1))
theorem d_C_family_69 : m_D k_C_family 69 (.aload_n 0) 1 := (by decide +kernel : decode prog_1_method_14_code 69 = .ok (.aload_n 0, 1))
theorem d_C_family_70 : m_D k_C_family 70 (.getfield 41) 3 := (by decide +kernel : decode prog_1_method_14_code 70 = .ok (.getfield 41, 3))
theorem d_C_family_73 : m_D k_C_family 73 (.putfield 37) 3 := (by decide +kernel : decode prog_1_method_14_code 73 = .ok (.putfield 37, 3))
theorem d_C_family_76 : m_D k_C_family 76 (.aload_n 0) 1 := (by decide +kernel : decode prog_1_method_14_code 76 = .ok (.aload_n 0, 1))
theorem d_C_family_77 : m_D k_C_family 77 (.aload_n 2) 1 := (by decide +kernel : decode prog_1_method_14_code 77 = .ok (.aload_n 2, 1))
theorem d_C_family_78 : m_D k_C_family 78 (.putfield 41) 3 := (by decide +kernel : decode prog_1_method_14_code 78 = .ok (.putfield 41, 3))
theorem d_C_family_81 : m_D k_C_family 81 (.aload_n 0) 1 := (by decide +kernel : decode prog_1_method_14_code 81 = .ok (.aload_n 0, 1))
theorem d_C_family_82 : m_D k_C_family 82 (.getfield 37) 3 := (by decide +kernel : decode prog_1_method_14_code 82 = .ok (.getfield 37, 3))
theorem d_C_family_85 : m_D k_C_family 85 (.getfield 156) 3 := (by decide +kernel : decode prog_1_method_14_code 85 = .ok (.getfield 156, 3))
theorem d_C_family_88 : m_D k_C_family 88 (.ireturn) 1 := (by decide +kernel : decode prog_1_method_14_code 88 = .ok (.ireturn, 1))
def fn_C_family (x0 : Option mA) (x1 : Int32) : mP Int32 :=
  m_th 0 x0 <|
  m_bd (α := Int32) (
    if x1 < 0 then
      m_rt 5
    else
      m_bd (m_gR 0 4 x0) fun v1 =>
      m_bd (m_gI 2 1 v1) fun v2 =>
      if x1 ≤ v2 then
        m_rt 0
      else
        m_rt 5
    ) fun (t3 : Int32) =>
  m_bd (m_pI 0 0 x0 t3) fun _ =>
  m_bd (m_gI 0 0 x0) fun v4 =>
  if v4 = 0 then
    m_bd (m_gR 0 4 x0) fun v5 =>
    m_bd (fn_Tx_open v5 x1) fun _ =>
    m_bd (m_gR 0 4 x0) fun v6 =>
    m_bd (m_gR 0 6 x0) fun v7 =>
    m_bd (fn_Re_takeFamily v6 v7) fun v8 =>
    if v8 = 0 then
      m_bd (m_pI 0 0 x0 10) fun _ =>
      m_rt (-1)
    else
      m_bd (m_gR 0 5 x0) fun v9 =>
      m_bd (m_gR 0 6 x0) fun v10 =>
      m_bd (m_pR 0 5 x0 v10) fun _ =>
      m_bd (m_pR 0 6 x0 v9) fun _ =>
      m_bd (m_gR 0 5 x0) fun v11 =>
      m_bd (m_gI 3 1 v11) fun v12 =>
      m_rt v12
  else
    m_rt (-1)
set_option maxHeartbeats 4000000 in
set_option maxRecDepth 100000 in
theorem sd_C_family (x0 : Option mA) (x1 : Int32) : m_Sm k_C_family 11 0 0 [.inr (.inr x0), .inl x1] (fn_C_family x0 x1) (fun b => some (.inl b)) := by
  refine ⟨Nat.le_of_ble_eq_true rfl, ?_⟩
  refine sm_th ?_
  refine sm_aload_n (i := 0) (j := 0) (pc' := 1) d_C_family_0 rfl rfl rfl (sm_iload_n (i := 1) (j := 1) (pc' := 2) d_C_family_1 rfl rfl rfl ?_)
  refine sm_bd (mid := fun (t3 : Int32) => .inl (21, [(0, .inr (.inr x0)), (1, .inl x1)], [.inl t3, .inr (.inr x0)])) ?_ (fun t3 => ?_)
  · refine sm_if_lt (tgt := 16) (pc' := 5) d_C_family_2 rfl rfl ?_ ?_
    · refine sm_iconst (pc' := 17) d_C_family_16 rfl ic_5 (sm_goto (tgt := 21) d_C_family_17 rfl (sm_sub [0, 1] rfl ?_))
      exact sm_rt rfl
    · refine sm_iload_n (i := 1) (j := 1) (pc' := 6) d_C_family_5 rfl rfl rfl (sm_aload_n (i := 0) (j := 0) (pc' := 7) d_C_family_6 rfl rfl rfl ?_)
      refine sm_getR (pc' := 10) d_C_family_7 rfl fl_C_30 rfl rfl (fun v1 => ?_)
      refine sm_getI (pc' := 13) d_C_family_10 rfl fl_C_141 rfl ⟨by decide, by decide⟩ (fun v2 => ?_)
      refine sm_icmp_le (tgt := 20) (pc' := 16) d_C_family_13 rfl rfl ?_ ?_
      · refine sm_iconst (pc' := 21) d_C_family_20 rfl ic_0 (sm_sub [0, 1] rfl ?_)
        exact sm_rt rfl
      · refine sm_iconst (pc' := 17) d_C_family_16 rfl ic_5 (sm_goto (tgt := 21) d_C_family_17 rfl (sm_sub [0, 1] rfl ?_))
        exact sm_rt rfl
  · refine sm_putI (pc' := 24) d_C_family_21 rfl fl_C_9 (Or.inl rfl) rfl (sm_aload_n (i := 0) (j := 0) (pc' := 25) d_C_family_24 rfl rfl rfl ?_)
    refine sm_getI (pc' := 28) d_C_family_25 rfl fl_C_9 rfl ⟨by decide, by decide⟩ (fun v4 => ?_)
    refine sm_if_eq (tgt := 33) (pc' := 31) d_C_family_28 rfl rfl ?_ ?_
    · refine sm_aload_n (i := 0) (j := 0) (pc' := 34) d_C_family_33 rfl rfl rfl ?_
      refine sm_getR (pc' := 37) d_C_family_34 rfl fl_C_30 rfl rfl (fun v5 => ?_)
      refine sm_iload_n (i := 1) (j := 1) (pc' := 38) d_C_family_37 rfl rfl rfl ?_
      refine sm_callVv (ci := 2) (x := v5) (av := [.inl x1]) (st := []) (mc := 0) (ms := 0) (pc' := 41) d_C_family_38 rfl (sd_Tx_open v5 x1) m_lv rfl cv_Tx_open w_ml_C_147 rfl rfl (by decide) (Nat.le_of_ble_eq_true rfl) rfl rfl ?_
      refine sm_aload_n (i := 0) (j := 0) (pc' := 42) d_C_family_41 rfl rfl rfl ?_
      refine sm_getR (pc' := 45) d_C_family_42 rfl fl_C_30 rfl rfl (fun v6 => ?_)
      refine sm_aload_n (i := 0) (j := 0) (pc' := 46) d_C_family_45 rfl rfl rfl ?_
      refine sm_getR (pc' := 49) d_C_family_46 rfl fl_C_41 rfl rfl (fun v7 => ?_)
      refine sm_callSi (av := [.inr (.inr v6), .inr (.inr v7)]) (st := []) (mc := 0) (ms := 0) (pc' := 52) d_C_family_49 rfl (sd_Re_takeFamily v6 v7) cs_Re_takeFamily w_ml_C_150 rfl rfl (by decide) (Nat.le_of_ble_eq_true rfl) rfl rfl (fun v8 => ?_)
      refine sm_if_ne (tgt := 63) (pc' := 55) d_C_family_52 rfl rfl ?_ ?_
      · refine sm_aload_n (i := 0) (j := 0) (pc' := 64) d_C_family_63 rfl rfl rfl ?_
        refine sm_getR (pc' := 67) d_C_family_64 rfl fl_C_37 rfl rfl (fun v9 => ?_)
        refine sm_astore_n (i := 2) (L' := [(2, .inr (.inr v9)), (0, .inr (.inr x0)), (1, .inl x1)]) (pc' := 68) d_C_family_67 rfl rfl (Nat.le_of_ble_eq_true rfl) rfl (sm_aload_n (i := 0) (j := 1) (pc' := 69) d_C_family_68 rfl rfl rfl (sm_aload_n (i := 0) (j := 1) (pc' := 70) d_C_family_69 rfl rfl rfl ?_))
        refine sm_getR (pc' := 73) d_C_family_70 rfl fl_C_41 rfl rfl (fun v10 => ?_)
        refine sm_putR (pc' := 76) d_C_family_73 rfl fl_C_37 rfl (Or.inl rfl) rfl (sm_aload_n (i := 0) (j := 1) (pc' := 77) d_C_family_76 rfl rfl rfl (sm_aload_n (i := 2) (j := 0) (pc' := 78) d_C_family_77 rfl rfl rfl (sm_putR (pc' := 81) d_C_family_78 rfl fl_C_41 rfl (Or.inl rfl) rfl (sm_aload_n (i := 0) (j := 1) (pc' := 82) d_C_family_81 rfl rfl rfl ?_))))
        refine sm_getR (pc' := 85) d_C_family_82 rfl fl_C_37 rfl rfl (fun v11 => ?_)
        refine sm_getI (pc' := 88) d_C_family_85 rfl fl_C_156 rfl ⟨by decide, by decide⟩ (fun v12 => ?_)
        exact sm_ireturn d_C_family_88 rfl rfl
      · refine sm_aload_n (i := 0) (j := 0) (pc' := 56) d_C_family_55 rfl rfl rfl (sm_bipush (pc' := 58) d_C_family_56 rfl ib_10 (sm_putI (pc' := 61) d_C_family_58 rfl fl_C_9 (Or.inl rfl) rfl (sm_iconst (pc' := 62) d_C_family_61 rfl ic_m1 ?_)))
        exact sm_ireturn d_C_family_62 rfl rfl
    · refine sm_iconst (pc' := 32) d_C_family_31 rfl ic_m1 ?_
      exact sm_ireturn d_C_family_32 rfl rfl
theorem d_Pl_latestOpen_0 : m_D k_Pl_latestOpen 0 (.aload_n 0) 1 := (by decide +kernel : decode prog_7_method_5_code 0 = .ok (.aload_n 0, 1))
theorem d_Pl_latestOpen_1 : m_D k_Pl_latestOpen 1 (.getfield 37) 3 := (by decide +kernel : decode prog_7_method_5_code 1 = .ok (.getfield 37, 3))
theorem d_Pl_latestOpen_4 : m_D k_Pl_latestOpen 4 (.iconst 1) 1 := (by decide +kernel : decode prog_7_method_5_code 4 = .ok (.iconst 1, 1))
theorem d_Pl_latestOpen_5 : m_D k_Pl_latestOpen 5 (.isub) 1 := (by decide +kernel : decode prog_7_method_5_code 5 = .ok (.isub, 1))
theorem d_Pl_latestOpen_6 : m_D k_Pl_latestOpen 6 (.istore_n 1) 1 := (by decide +kernel : decode prog_7_method_5_code 6 = .ok (.istore_n 1, 1))
theorem d_Pl_latestOpen_7 : m_D k_Pl_latestOpen 7 (.iload_n 1) 1 := (by decide +kernel : decode prog_7_method_5_code 7 = .ok (.iload_n 1, 1))
theorem d_Pl_latestOpen_8 : m_D k_Pl_latestOpen 8 (.ifCond .lt 21) 3 := (by decide +kernel : decode prog_7_method_5_code 8 = .ok (.ifCond .lt 21, 3))
theorem d_Pl_latestOpen_11 : m_D k_Pl_latestOpen 11 (.aload_n 0) 1 := (by decide +kernel : decode prog_7_method_5_code 11 = .ok (.aload_n 0, 1))
theorem d_Pl_latestOpen_12 : m_D k_Pl_latestOpen 12 (.getfield 24) 3 := (by decide +kernel : decode prog_7_method_5_code 12 = .ok (.getfield 24, 3))
theorem d_Pl_latestOpen_15 : m_D k_Pl_latestOpen 15 (.iload_n 1) 1 := (by decide +kernel : decode prog_7_method_5_code 15 = .ok (.iload_n 1, 1))
theorem d_Pl_latestOpen_16 : m_D k_Pl_latestOpen 16 (.iaload) 1 := (by decide +kernel : decode prog_7_method_5_code 16 = .ok (.iaload, 1))
theorem d_Pl_latestOpen_17 : m_D k_Pl_latestOpen 17 (.iconst (-1)) 1 := (by decide +kernel : decode prog_7_method_5_code 17 = .ok (.iconst (-1), 1))
theorem d_Pl_latestOpen_18 : m_D k_Pl_latestOpen 18 (.if_icmp .ne 5) 3 := (by decide +kernel : decode prog_7_method_5_code 18 = .ok (.if_icmp .ne 5, 3))
theorem d_Pl_latestOpen_21 : m_D k_Pl_latestOpen 21 (.iload_n 1) 1 := (by decide +kernel : decode prog_7_method_5_code 21 = .ok (.iload_n 1, 1))
theorem d_Pl_latestOpen_22 : m_D k_Pl_latestOpen 22 (.ireturn) 1 := (by decide +kernel : decode prog_7_method_5_code 22 = .ok (.ireturn, 1))
theorem d_Pl_latestOpen_23 : m_D k_Pl_latestOpen 23 (.iinc 1 (-1)) 3 := (by decide +kernel : decode prog_7_method_5_code 23 = .ok (.iinc 1 (-1), 3))
theorem d_Pl_latestOpen_26 : m_D k_Pl_latestOpen 26 (.goto (-19)) 3 := (by decide +kernel : decode prog_7_method_5_code 26 = .ok (.goto (-19), 3))
theorem d_Pl_latestOpen_29 : m_D k_Pl_latestOpen 29 (.iconst (-1)) 1 := (by decide +kernel : decode prog_7_method_5_code 29 = .ok (.iconst (-1), 1))
theorem d_Pl_latestOpen_30 : m_D k_Pl_latestOpen 30 (.ireturn) 1 := (by decide +kernel : decode prog_7_method_5_code 30 = .ok (.ireturn, 1))
def fn_Pl_latestOpen_l7 (x0 : Option mA) (t2 : Int32) : mP ((Int32) ⊕ (Int32)) :=
  if t2 < 0 then
    m_rt (.inr (-1))
  else
    m_bd (m_gR 6 6 x0) fun v3 =>
    m_bd (m_aI 0 v3 t2) fun v4 =>
    if v4 = (-1) then
      m_rt (.inr t2)
    else
      m_rt (.inl (t2 + (-1)))
def fn_Pl_latestOpen (x0 : Option mA) : mP Int32 :=
  m_th 6 x0 <|
  m_bd (m_gI 6 1 x0) fun v1 =>
  m_lp (fn_Pl_latestOpen_l7 x0) m_F (v1 - 1)
set_option maxHeartbeats 4000000 in
set_option maxRecDepth 100000 in
theorem sd_Pl_latestOpen (x0 : Option mA) : m_Sm k_Pl_latestOpen 1 0 0 [.inr (.inr x0)] (fn_Pl_latestOpen x0) (fun b => some (.inl b)) := by
  refine ⟨Nat.le_of_ble_eq_true rfl, ?_⟩
  refine sm_th ?_
  refine sm_aload_n (i := 0) (j := 0) (pc' := 1) d_Pl_latestOpen_0 rfl rfl rfl ?_
  refine sm_getI (pc' := 4) d_Pl_latestOpen_1 rfl fl_Pl_37 rfl ⟨by decide, by decide⟩ (fun v1 => ?_)
  refine sm_iconst (pc' := 5) d_Pl_latestOpen_4 rfl ic_1 (sm_isub (pc' := 6) d_Pl_latestOpen_5 rfl (sm_istore_n (i := 1) (L' := [(1, .inl (v1 - 1)), (0, .inr (.inr x0))]) (pc' := 7) d_Pl_latestOpen_6 rfl rfl (Nat.le_of_ble_eq_true rfl) rfl ?_))
  refine sm_sub [0, 1] rfl ?_
  refine sm_lp (hd := fun (t2 : Int32) => (.inl (7, [(1, .inl t2), (0, .inr (.inr x0))], []) : mC)) (fun t2 => ?_) m_F (v1 - 1)
  refine sm_iload_n (i := 1) (j := 0) (pc' := 8) d_Pl_latestOpen_7 rfl rfl rfl ?_
  refine sm_if_lt (tgt := 29) (pc' := 11) d_Pl_latestOpen_8 rfl rfl ?_ ?_
  · refine sm_iconst (pc' := 30) d_Pl_latestOpen_29 rfl ic_m1 ?_
    exact sm_ireturn d_Pl_latestOpen_30 rfl rfl
  · refine sm_aload_n (i := 0) (j := 1) (pc' := 12) d_Pl_latestOpen_11 rfl rfl rfl ?_
    refine sm_getR (pc' := 15) d_Pl_latestOpen_12 rfl fl_Pl_24 rfl rfl (fun v3 => ?_)
    refine sm_iload_n (i := 1) (j := 0) (pc' := 16) d_Pl_latestOpen_15 rfl rfl rfl ?_
    refine sm_iald (pc' := 17) d_Pl_latestOpen_16 rfl (fun v4 => ?_)
    refine sm_iconst (pc' := 18) d_Pl_latestOpen_17 rfl ic_m1 ?_
    refine sm_icmp_ne (tgt := 23) (pc' := 21) d_Pl_latestOpen_18 rfl rfl ?_ ?_
    · refine sm_iinc (j := 0) (L' := [(1, .inl (t2 + (-1))), (0, .inr (.inr x0))]) (pc' := 26) d_Pl_latestOpen_23 rfl (v := (t2 + (-1))) rfl (ix_m1 _) (Nat.le_of_ble_eq_true rfl) rfl (sm_goto (tgt := 7) d_Pl_latestOpen_26 rfl (sm_sub [0, 1] rfl ?_))
      exact sm_rt rfl
    · refine sm_iload_n (i := 1) (j := 0) (pc' := 22) d_Pl_latestOpen_21 rfl rfl rfl ?_
      exact sm_ireturn d_Pl_latestOpen_22 rfl rfl
theorem d_Re_closeBlock_0 : m_D k_Re_closeBlock 0 (.aload_n 1) 1 := (by decide +kernel : decode prog_8_method_12_code 0 = .ok (.aload_n 1, 1))
theorem d_Re_closeBlock_1 : m_D k_Re_closeBlock 1 (.invokevirtual 152) 3 := (by decide +kernel : decode prog_8_method_12_code 1 = .ok (.invokevirtual 152, 3))
theorem d_Re_closeBlock_4 : m_D k_Re_closeBlock 4 (.istore_n 2) 1 := (by decide +kernel : decode prog_8_method_12_code 4 = .ok (.istore_n 2, 1))
theorem d_Re_closeBlock_5 : m_D k_Re_closeBlock 5 (.iload_n 2) 1 := (by decide +kernel : decode prog_8_method_12_code 5 = .ok (.iload_n 2, 1))
theorem d_Re_closeBlock_6 : m_D k_Re_closeBlock 6 (.iconst (-1)) 1 := (by decide +kernel : decode prog_8_method_12_code 6 = .ok (.iconst (-1), 1))
theorem d_Re_closeBlock_7 : m_D k_Re_closeBlock 7 (.if_icmp .ne 9) 3 := (by decide +kernel : decode prog_8_method_12_code 7 = .ok (.if_icmp .ne 9, 3))
theorem d_Re_closeBlock_10 : m_D k_Re_closeBlock 10 (.aload_n 0) 1 := (by decide +kernel : decode prog_8_method_12_code 10 = .ok (.aload_n 0, 1))
theorem d_Re_closeBlock_11 : m_D k_Re_closeBlock 11 (.iconst 2) 1 := (by decide +kernel : decode prog_8_method_12_code 11 = .ok (.iconst 2, 1))
theorem d_Re_closeBlock_12 : m_D k_Re_closeBlock 12 (.invokevirtual 89) 3 := (by decide +kernel : decode prog_8_method_12_code 12 = .ok (.invokevirtual 89, 3))
theorem d_Re_closeBlock_15 : m_D k_Re_closeBlock 15 (.ireturn) 1 := (by decide +kernel : decode prog_8_method_12_code 15 = .ok (.ireturn, 1))
theorem d_Re_closeBlock_16 : m_D k_Re_closeBlock 16 (.aload_n 1) 1 := (by decide +kernel : decode prog_8_method_12_code 16 = .ok (.aload_n 1, 1))
theorem d_Re_closeBlock_17 : m_D k_Re_closeBlock 17 (.getfield 183) 3 := (by decide +kernel : decode prog_8_method_12_code 17 = .ok (.getfield 183, 3))
theorem d_Re_closeBlock_20 : m_D k_Re_closeBlock 20 (.iload_n 2) 1 := (by decide +kernel : decode prog_8_method_12_code 20 = .ok (.iload_n 2, 1))
theorem d_Re_closeBlock_21 : m_D k_Re_closeBlock 21 (.aload_n 1) 1 := (by decide +kernel : decode prog_8_method_12_code 21 = .ok (.aload_n 1, 1))
theorem d_Re_closeBlock_22 : m_D k_Re_closeBlock 22 (.getfield 186) 3 := (by decide +kernel : decode prog_8_method_12_code 22 = .ok (.getfield 186, 3))
theorem d_Re_closeBlock_25 : m_D k_Re_closeBlock 25 (.iastore) 1 := (by decide +kernel : decode prog_8_method_12_code 25 = .ok (.iastore, 1))
theorem d_Re_closeBlock_26 : m_D k_Re_closeBlock 26 (.aload_n 0) 1 := (by decide +kernel : decode prog_8_method_12_code 26 = .ok (.aload_n 0, 1))
theorem d_Re_closeBlock_27 : m_D k_Re_closeBlock 27 (.invokevirtual 93) 3 := (by decide +kernel : decode prog_8_method_12_code 27 = .ok (.invokevirtual 93, 3))
theorem d_Re_closeBlock_30 : m_D k_Re_closeBlock 30 (.iconst 1) 1 := (by decide +kernel : decode prog_8_method_12_code 30 = .ok (.iconst 1, 1))
theorem d_Re_closeBlock_31 : m_D k_Re_closeBlock 31 (.ireturn) 1 := (by decide +kernel : decode prog_8_method_12_code 31 = .ok (.ireturn, 1))
def fn_Re_closeBlock (x0 : Option mA) (x1 : Option mA) : mP Int32 :=
  m_bd (fn_Pl_latestOpen x1) fun v1 =>
  if v1 = (-1) then
    m_bd (fn_Tx_refuse x0 2) fun v4 =>
    m_bd (m_cz v4) fun _ => m_rt v4
  else
    m_bd (m_gR 6 6 x1) fun v2 =>
    m_bd (m_gI 6 1 x1) fun v3 =>
    m_bd (m_tI 0 v2 v1 v3) fun _ =>
    m_bd (fn_Tx_advance x0) fun _ =>
    m_rt 1
set_option maxHeartbeats 4000000 in
set_option maxRecDepth 100000 in
theorem sd_Re_closeBlock (x0 : Option mA) (x1 : Option mA) : m_Sm k_Re_closeBlock 4 0 0 [.inr (.inr x0), .inr (.inr x1)] (fn_Re_closeBlock x0 x1) (fun b => some (.inl b)) := by
  refine ⟨Nat.le_of_ble_eq_true rfl, ?_⟩
  refine sm_aload_n (i := 1) (j := 1) (pc' := 1) d_Re_closeBlock_0 rfl rfl rfl ?_
  refine sm_callVi (ci := 6) (x := x1) (av := []) (st := []) (mc := 0) (ms := 0) (pc' := 4) d_Re_closeBlock_1 rfl (sd_Pl_latestOpen x1) m_lv rfl cv_Pl_latestOpen w_ml_Re_152 rfl rfl (by decide) (Nat.le_of_ble_eq_true rfl) rfl rfl (fun v1 => ?_)
  refine sm_istore_n (i := 2) (L' := [(2, .inl v1), (0, .inr (.inr x0)), (1, .inr (.inr x1))]) (pc' := 5) d_Re_closeBlock_4 rfl rfl (Nat.le_of_ble_eq_true rfl) rfl (sm_iload_n (i := 2) (j := 0) (pc' := 6) d_Re_closeBlock_5 rfl rfl rfl (sm_iconst (pc' := 7) d_Re_closeBlock_6 rfl ic_m1 ?_))
  refine sm_icmp_ne (tgt := 16) (pc' := 10) d_Re_closeBlock_7 rfl rfl ?_ ?_
  · refine sm_aload_n (i := 1) (j := 2) (pc' := 17) d_Re_closeBlock_16 rfl rfl rfl ?_
    refine sm_getR (pc' := 20) d_Re_closeBlock_17 rfl fl_Re_183 rfl rfl (fun v2 => ?_)
    refine sm_iload_n (i := 2) (j := 0) (pc' := 21) d_Re_closeBlock_20 rfl rfl rfl (sm_aload_n (i := 1) (j := 2) (pc' := 22) d_Re_closeBlock_21 rfl rfl rfl ?_)
    refine sm_getI (pc' := 25) d_Re_closeBlock_22 rfl fl_Re_186 rfl ⟨by decide, by decide⟩ (fun v3 => ?_)
    refine sm_iast (pc' := 26) d_Re_closeBlock_25 rfl (sm_aload_n (i := 0) (j := 1) (pc' := 27) d_Re_closeBlock_26 rfl rfl rfl ?_)
    refine sm_callVv (ci := 2) (x := x0) (av := []) (st := []) (mc := 0) (ms := 0) (pc' := 30) d_Re_closeBlock_27 rfl (sd_Tx_advance x0) m_lv rfl cv_Tx_advance w_ml_Re_93 rfl rfl (by decide) (Nat.le_of_ble_eq_true rfl) rfl rfl ?_
    refine sm_iconst (pc' := 31) d_Re_closeBlock_30 rfl ic_1 ?_
    exact sm_zreturn d_Re_closeBlock_31 rfl (by decide) rfl
  · refine sm_aload_n (i := 0) (j := 1) (pc' := 11) d_Re_closeBlock_10 rfl rfl rfl (sm_iconst (pc' := 12) d_Re_closeBlock_11 rfl ic_2 ?_)
    refine sm_callVi (ci := 2) (x := x0) (av := [.inl 2]) (st := []) (mc := 0) (ms := 0) (pc' := 15) d_Re_closeBlock_12 rfl (sd_Tx_refuse x0 2) m_lv rfl cv_Tx_refuse w_ml_Re_89 rfl rfl (by decide) (Nat.le_of_ble_eq_true rfl) rfl rfl (fun v4 => ?_)
    exact sm_zretC d_Re_closeBlock_15 rfl rfl
theorem d_Pl_openBlocks_0 : m_D k_Pl_openBlocks 0 (.iconst 0) 1 := (by decide +kernel : decode prog_7_method_4_code 0 = .ok (.iconst 0, 1))
theorem d_Pl_openBlocks_1 : m_D k_Pl_openBlocks 1 (.istore_n 1) 1 := (by decide +kernel : decode prog_7_method_4_code 1 = .ok (.istore_n 1, 1))
theorem d_Pl_openBlocks_2 : m_D k_Pl_openBlocks 2 (.iconst 0) 1 := (by decide +kernel : decode prog_7_method_4_code 2 = .ok (.iconst 0, 1))
theorem d_Pl_openBlocks_3 : m_D k_Pl_openBlocks 3 (.istore_n 2) 1 := (by decide +kernel : decode prog_7_method_4_code 3 = .ok (.istore_n 2, 1))
theorem d_Pl_openBlocks_4 : m_D k_Pl_openBlocks 4 (.iload_n 2) 1 := (by decide +kernel : decode prog_7_method_4_code 4 = .ok (.iload_n 2, 1))
theorem d_Pl_openBlocks_5 : m_D k_Pl_openBlocks 5 (.aload_n 0) 1 := (by decide +kernel : decode prog_7_method_4_code 5 = .ok (.aload_n 0, 1))
theorem d_Pl_openBlocks_6 : m_D k_Pl_openBlocks 6 (.getfield 37) 3 := (by decide +kernel : decode prog_7_method_4_code 6 = .ok (.getfield 37, 3))
theorem d_Pl_openBlocks_9 : m_D k_Pl_openBlocks 9 (.if_icmp .ge 22) 3 := (by decide +kernel : decode prog_7_method_4_code 9 = .ok (.if_icmp .ge 22, 3))
theorem d_Pl_openBlocks_12 : m_D k_Pl_openBlocks 12 (.aload_n 0) 1 := (by decide +kernel : decode prog_7_method_4_code 12 = .ok (.aload_n 0, 1))
theorem d_Pl_openBlocks_13 : m_D k_Pl_openBlocks 13 (.getfield 24) 3 := (by decide +kernel : decode prog_7_method_4_code 13 = .ok (.getfield 24, 3))
theorem d_Pl_openBlocks_16 : m_D k_Pl_openBlocks 16 (.iload_n 2) 1 := (by decide +kernel : decode prog_7_method_4_code 16 = .ok (.iload_n 2, 1))
theorem d_Pl_openBlocks_17 : m_D k_Pl_openBlocks 17 (.iaload) 1 := (by decide +kernel : decode prog_7_method_4_code 17 = .ok (.iaload, 1))
theorem d_Pl_openBlocks_18 : m_D k_Pl_openBlocks 18 (.iconst (-1)) 1 := (by decide +kernel : decode prog_7_method_4_code 18 = .ok (.iconst (-1), 1))
theorem d_Pl_openBlocks_19 : m_D k_Pl_openBlocks 19 (.if_icmp .ne 6) 3 := (by decide +kernel : decode prog_7_method_4_code 19 = .ok (.if_icmp .ne 6, 3))
theorem d_Pl_openBlocks_22 : m_D k_Pl_openBlocks 22 (.iinc 1 1) 3 := (by decide +kernel : decode prog_7_method_4_code 22 = .ok (.iinc 1 1, 3))
theorem d_Pl_openBlocks_25 : m_D k_Pl_openBlocks 25 (.iinc 2 1) 3 := (by decide +kernel : decode prog_7_method_4_code 25 = .ok (.iinc 2 1, 3))
theorem d_Pl_openBlocks_28 : m_D k_Pl_openBlocks 28 (.goto (-24)) 3 := (by decide +kernel : decode prog_7_method_4_code 28 = .ok (.goto (-24), 3))
theorem d_Pl_openBlocks_31 : m_D k_Pl_openBlocks 31 (.iload_n 1) 1 := (by decide +kernel : decode prog_7_method_4_code 31 = .ok (.iload_n 1, 1))
theorem d_Pl_openBlocks_32 : m_D k_Pl_openBlocks 32 (.ireturn) 1 := (by decide +kernel : decode prog_7_method_4_code 32 = .ok (.ireturn, 1))
def fn_Pl_openBlocks_l4 (x0 : Option mA) (t1 : Int32 × Int32) : mP ((Int32 × Int32) ⊕ (Int32)) :=
  m_bd (m_gI 6 1 x0) fun v2 =>
  if v2 ≤ t1.2 then
    m_rt (.inr t1.1)
  else
    m_bd (m_gR 6 6 x0) fun v3 =>
    m_bd (m_aI 0 v3 t1.2) fun v4 =>
    m_bd (α := Int32) (
      if v4 = (-1) then
        m_rt (t1.1 + 1)
      else
        m_rt t1.1
      ) fun (t5 : Int32) =>
    m_rt (.inl (t5, (t1.2 + 1)))
def fn_Pl_openBlocks (x0 : Option mA) : mP Int32 :=
  m_th 6 x0 <|
  m_bd (m_lp (fn_Pl_openBlocks_l4 x0) m_F (0, 0)) fun (t6 : Int32) =>
  m_rt t6
set_option maxHeartbeats 4000000 in
set_option maxRecDepth 100000 in
theorem sd_Pl_openBlocks (x0 : Option mA) : m_Sm k_Pl_openBlocks 1 0 0 [.inr (.inr x0)] (fn_Pl_openBlocks x0) (fun b => some (.inl b)) := by
  refine ⟨Nat.le_of_ble_eq_true rfl, ?_⟩
  refine sm_th ?_
  refine sm_iconst (pc' := 1) d_Pl_openBlocks_0 rfl ic_0 (sm_istore_n (i := 1) (L' := [(1, .inl 0), (0, .inr (.inr x0))]) (pc' := 2) d_Pl_openBlocks_1 rfl rfl (Nat.le_of_ble_eq_true rfl) rfl (sm_iconst (pc' := 3) d_Pl_openBlocks_2 rfl ic_0 (sm_istore_n (i := 2) (L' := [(2, .inl 0), (1, .inl 0), (0, .inr (.inr x0))]) (pc' := 4) d_Pl_openBlocks_3 rfl rfl (Nat.le_of_ble_eq_true rfl) rfl ?_)))
  refine sm_sub [1, 0, 2] rfl ?_
  refine sm_bd (mid := fun (t6 : Int32) => .inl (31, [(1, .inl t6)], [])) (sm_lp (hd := fun (t1 : Int32 × Int32) => (.inl (4, [(1, .inl t1.1), (2, .inl t1.2), (0, .inr (.inr x0))], []) : mC)) (fun t1 => ?_) m_F (0, 0)) (fun t6 => ?_)
  · refine sm_iload_n (i := 2) (j := 1) (pc' := 5) d_Pl_openBlocks_4 rfl rfl rfl (sm_aload_n (i := 0) (j := 2) (pc' := 6) d_Pl_openBlocks_5 rfl rfl rfl ?_)
    refine sm_getI (pc' := 9) d_Pl_openBlocks_6 rfl fl_Pl_37 rfl ⟨by decide, by decide⟩ (fun v2 => ?_)
    refine sm_icmp_ge (tgt := 31) (pc' := 12) d_Pl_openBlocks_9 rfl rfl ?_ ?_
    · refine sm_sub [0] rfl ?_
      exact sm_rt rfl
    · refine sm_aload_n (i := 0) (j := 2) (pc' := 13) d_Pl_openBlocks_12 rfl rfl rfl ?_
      refine sm_getR (pc' := 16) d_Pl_openBlocks_13 rfl fl_Pl_24 rfl rfl (fun v3 => ?_)
      refine sm_iload_n (i := 2) (j := 1) (pc' := 17) d_Pl_openBlocks_16 rfl rfl rfl ?_
      refine sm_iald (pc' := 18) d_Pl_openBlocks_17 rfl (fun v4 => ?_)
      refine sm_iconst (pc' := 19) d_Pl_openBlocks_18 rfl ic_m1 ?_
      refine sm_bd (mid := fun (t5 : Int32) => .inl (25, [(0, .inr (.inr x0)), (1, .inl t5), (2, .inl t1.2)], [])) ?_ (fun t5 => ?_)
      · refine sm_icmp_ne (tgt := 25) (pc' := 22) d_Pl_openBlocks_19 rfl rfl ?_ ?_
        · refine sm_sub [2, 0, 1] rfl ?_
          exact sm_rt rfl
        · refine sm_iinc (j := 0) (L' := [(1, .inl (t1.1 + 1)), (2, .inl t1.2), (0, .inr (.inr x0))]) (pc' := 25) d_Pl_openBlocks_22 rfl (v := (t1.1 + 1)) rfl (ix_1 _) (Nat.le_of_ble_eq_true rfl) rfl (sm_sub [2, 0, 1] rfl ?_)
          exact sm_rt rfl
      · refine sm_iinc (j := 2) (L' := [(2, .inl (t1.2 + 1)), (0, .inr (.inr x0)), (1, .inl t5)]) (pc' := 28) d_Pl_openBlocks_25 rfl (v := (t1.2 + 1)) rfl (ix_1 _) (Nat.le_of_ble_eq_true rfl) rfl (sm_goto (tgt := 4) d_Pl_openBlocks_28 rfl (sm_sub [2, 0, 1] rfl ?_))
        exact sm_rt rfl
  · refine sm_iload_n (i := 1) (j := 0) (pc' := 32) d_Pl_openBlocks_31 rfl rfl rfl ?_
    exact sm_ireturn d_Pl_openBlocks_32 rfl rfl
theorem d_Re_openStep_0 : m_D k_Re_openStep 0 (.iload_n 2) 1 := (by decide +kernel : decode prog_8_method_14_code 0 = .ok (.iload_n 2, 1))
theorem d_Re_openStep_1 : m_D k_Re_openStep 1 (.iconst (-1)) 1 := (by decide +kernel : decode prog_8_method_14_code 1 = .ok (.iconst (-1), 1))
theorem d_Re_openStep_2 : m_D k_Re_openStep 2 (.if_icmp .ne 9) 3 := (by decide +kernel : decode prog_8_method_14_code 2 = .ok (.if_icmp .ne 9, 3))
theorem d_Re_openStep_5 : m_D k_Re_openStep 5 (.aload_n 0) 1 := (by decide +kernel : decode prog_8_method_14_code 5 = .ok (.aload_n 0, 1))
theorem d_Re_openStep_6 : m_D k_Re_openStep 6 (.iconst 2) 1 := (by decide +kernel : decode prog_8_method_14_code 6 = .ok (.iconst 2, 1))
theorem d_Re_openStep_7 : m_D k_Re_openStep 7 (.invokevirtual 89) 3 := (by decide +kernel : decode prog_8_method_14_code 7 = .ok (.invokevirtual 89, 3))
theorem d_Re_openStep_10 : m_D k_Re_openStep 10 (.ireturn) 1 := (by decide +kernel : decode prog_8_method_14_code 10 = .ok (.ireturn, 1))
theorem d_Re_openStep_11 : m_D k_Re_openStep 11 (.aload_n 1) 1 := (by decide +kernel : decode prog_8_method_14_code 11 = .ok (.aload_n 1, 1))
theorem d_Re_openStep_12 : m_D k_Re_openStep 12 (.getfield 186) 3 := (by decide +kernel : decode prog_8_method_14_code 12 = .ok (.getfield 186, 3))
theorem d_Re_openStep_15 : m_D k_Re_openStep 15 (.bipush 30) 2 := (by decide +kernel : decode prog_8_method_14_code 15 = .ok (.bipush 30, 2))
theorem d_Re_openStep_17 : m_D k_Re_openStep 17 (.if_icmp .lt 10) 3 := (by decide +kernel : decode prog_8_method_14_code 17 = .ok (.if_icmp .lt 10, 3))
theorem d_Re_openStep_20 : m_D k_Re_openStep 20 (.aload_n 0) 1 := (by decide +kernel : decode prog_8_method_14_code 20 = .ok (.aload_n 0, 1))
theorem d_Re_openStep_21 : m_D k_Re_openStep 21 (.bipush 6) 2 := (by decide +kernel : decode prog_8_method_14_code 21 = .ok (.bipush 6, 2))
theorem d_Re_openStep_23 : m_D k_Re_openStep 23 (.invokevirtual 89) 3 := (by decide +kernel : decode prog_8_method_14_code 23 = .ok (.invokevirtual 89, 3))
theorem d_Re_openStep_26 : m_D k_Re_openStep 26 (.ireturn) 1 := (by decide +kernel : decode prog_8_method_14_code 26 = .ok (.ireturn, 1))
theorem d_Re_openStep_27 : m_D k_Re_openStep 27 (.iload_n 2) 1 := (by decide +kernel : decode prog_8_method_14_code 27 = .ok (.iload_n 2, 1))
theorem d_Re_openStep_28 : m_D k_Re_openStep 28 (.bipush 8) 2 := (by decide +kernel : decode prog_8_method_14_code 28 = .ok (.bipush 8, 2))
theorem d_Re_openStep_30 : m_D k_Re_openStep 30 (.if_icmp .lt 7) 3 := (by decide +kernel : decode prog_8_method_14_code 30 = .ok (.if_icmp .lt 7, 3))
theorem d_Re_openStep_33 : m_D k_Re_openStep 33 (.iconst 1) 1 := (by decide +kernel : decode prog_8_method_14_code 33 = .ok (.iconst 1, 1))
theorem d_Re_openStep_34 : m_D k_Re_openStep 34 (.goto 4) 3 := (by decide +kernel : decode prog_8_method_14_code 34 = .ok (.goto 4, 3))
theorem d_Re_openStep_37 : m_D k_Re_openStep 37 (.iconst 0) 1 := (by decide +kernel : decode prog_8_method_14_code 37 = .ok (.iconst 0, 1))
theorem d_Re_openStep_38 : m_D k_Re_openStep 38 (.istore_n 3) 1 := (by decide +kernel : decode prog_8_method_14_code 38 = .ok (.istore_n 3, 1))
theorem d_Re_openStep_39 : m_D k_Re_openStep 39 (.iload_n 3) 1 := (by decide +kernel : decode prog_8_method_14_code 39 = .ok (.iload_n 3, 1))
theorem d_Re_openStep_40 : m_D k_Re_openStep 40 (.ifCond .eq 18) 3 := (by decide +kernel : decode prog_8_method_14_code 40 = .ok (.ifCond .eq 18, 3))
theorem d_Re_openStep_43 : m_D k_Re_openStep 43 (.aload_n 1) 1 := (by decide +kernel : decode prog_8_method_14_code 43 = .ok (.aload_n 1, 1))
theorem d_Re_openStep_44 : m_D k_Re_openStep 44 (.invokevirtual 200) 3 := (by decide +kernel : decode prog_8_method_14_code 44 = .ok (.invokevirtual 200, 3))
theorem d_Re_openStep_47 : m_D k_Re_openStep 47 (.iconst 3) 1 := (by decide +kernel : decode prog_8_method_14_code 47 = .ok (.iconst 3, 1))
theorem d_Re_openStep_48 : m_D k_Re_openStep 48 (.if_icmp .lt 10) 3 := (by decide +kernel : decode prog_8_method_14_code 48 = .ok (.if_icmp .lt 10, 3))
theorem d_Re_openStep_51 : m_D k_Re_openStep 51 (.aload_n 0) 1 := (by decide +kernel : decode prog_8_method_14_code 51 = .ok (.aload_n 0, 1))
theorem d_Re_openStep_52 : m_D k_Re_openStep 52 (.bipush 7) 2 := (by decide +kernel : decode prog_8_method_14_code 52 = .ok (.bipush 7, 2))
theorem d_Re_openStep_54 : m_D k_Re_openStep 54 (.invokevirtual 89) 3 := (by decide +kernel : decode prog_8_method_14_code 54 = .ok (.invokevirtual 89, 3))
theorem d_Re_openStep_57 : m_D k_Re_openStep 57 (.ireturn) 1 := (by decide +kernel : decode prog_8_method_14_code 57 = .ok (.ireturn, 1))
theorem d_Re_openStep_58 : m_D k_Re_openStep 58 (.aload_n 1) 1 := (by decide +kernel : decode prog_8_method_14_code 58 = .ok (.aload_n 1, 1))
theorem d_Re_openStep_59 : m_D k_Re_openStep 59 (.getfield 203) 3 := (by decide +kernel : decode prog_8_method_14_code 59 = .ok (.getfield 203, 3))
theorem d_Re_openStep_62 : m_D k_Re_openStep 62 (.aload_n 1) 1 := (by decide +kernel : decode prog_8_method_14_code 62 = .ok (.aload_n 1, 1))
theorem d_Re_openStep_63 : m_D k_Re_openStep 63 (.getfield 186) 3 := (by decide +kernel : decode prog_8_method_14_code 63 = .ok (.getfield 186, 3))
theorem d_Re_openStep_66 : m_D k_Re_openStep 66 (.iload_n 2) 1 := (by decide +kernel : decode prog_8_method_14_code 66 = .ok (.iload_n 2, 1))
theorem d_Re_openStep_67 : m_D k_Re_openStep 67 (.iastore) 1 := (by decide +kernel : decode prog_8_method_14_code 67 = .ok (.iastore, 1))
theorem d_Re_openStep_68 : m_D k_Re_openStep 68 (.aload_n 1) 1 := (by decide +kernel : decode prog_8_method_14_code 68 = .ok (.aload_n 1, 1))
theorem d_Re_openStep_69 : m_D k_Re_openStep 69 (.getfield 183) 3 := (by decide +kernel : decode prog_8_method_14_code 69 = .ok (.getfield 183, 3))
theorem d_Re_openStep_72 : m_D k_Re_openStep 72 (.aload_n 1) 1 := (by decide +kernel : decode prog_8_method_14_code 72 = .ok (.aload_n 1, 1))
theorem d_Re_openStep_73 : m_D k_Re_openStep 73 (.getfield 186) 3 := (by decide +kernel : decode prog_8_method_14_code 73 = .ok (.getfield 186, 3))
theorem d_Re_openStep_76 : m_D k_Re_openStep 76 (.iload_n 3) 1 := (by decide +kernel : decode prog_8_method_14_code 76 = .ok (.iload_n 3, 1))
theorem d_Re_openStep_77 : m_D k_Re_openStep 77 (.ifCond .eq 7) 3 := (by decide +kernel : decode prog_8_method_14_code 77 = .ok (.ifCond .eq 7, 3))
theorem d_Re_openStep_80 : m_D k_Re_openStep 80 (.iconst (-1)) 1 := (by decide +kernel : decode prog_8_method_14_code 80 = .ok (.iconst (-1), 1))
theorem d_Re_openStep_81 : m_D k_Re_openStep 81 (.goto 9) 3 := (by decide +kernel : decode prog_8_method_14_code 81 = .ok (.goto 9, 3))
theorem d_Re_openStep_84 : m_D k_Re_openStep 84 (.aload_n 1) 1 := (by decide +kernel : decode prog_8_method_14_code 84 = .ok (.aload_n 1, 1))
theorem d_Re_openStep_85 : m_D k_Re_openStep 85 (.getfield 186) 3 := (by decide +kernel : decode prog_8_method_14_code 85 = .ok (.getfield 186, 3))
theorem d_Re_openStep_88 : m_D k_Re_openStep 88 (.iconst 1) 1 := (by decide +kernel : decode prog_8_method_14_code 88 = .ok (.iconst 1, 1))
theorem d_Re_openStep_89 : m_D k_Re_openStep 89 (.iadd) 1 := (by decide +kernel : decode prog_8_method_14_code 89 = .ok (.iadd, 1))
theorem d_Re_openStep_90 : m_D k_Re_openStep 90 (.iastore) 1 := (by decide +kernel : decode prog_8_method_14_code 90 = .ok (.iastore, 1))
theorem d_Re_openStep_91 : m_D k_Re_openStep 91 (.aload_n 1) 1 := (by decide +kernel : decode prog_8_method_14_code 91 = .ok (.aload_n 1, 1))
theorem d_Re_openStep_92 : m_D k_Re_openStep 92 (.dup) 1 := (by decide +kernel : decode prog_8_method_14_code 92 = .ok (.dup, 1))
theorem d_Re_openStep_93 : m_D k_Re_openStep 93 (.getfield 186) 3 := (by decide +kernel : decode prog_8_method_14_code 93 = .ok (.getfield 186, 3))
theorem d_Re_openStep_96 : m_D k_Re_openStep 96 (.iconst 1) 1 := (by decide +kernel : decode prog_8_method_14_code 96 = .ok (.iconst 1, 1))
theorem d_Re_openStep_97 : m_D k_Re_openStep 97 (.iadd) 1 := (by decide +kernel : decode prog_8_method_14_code 97 = .ok (.iadd, 1))
theorem d_Re_openStep_98 : m_D k_Re_openStep 98 (.putfield 186) 3 := (by decide +kernel : decode prog_8_method_14_code 98 = .ok (.putfield 186, 3))
theorem d_Re_openStep_101 : m_D k_Re_openStep 101 (.aload_n 0) 1 := (by decide +kernel : decode prog_8_method_14_code 101 = .ok (.aload_n 0, 1))
theorem d_Re_openStep_102 : m_D k_Re_openStep 102 (.invokevirtual 93) 3 := (by decide +kernel : decode prog_8_method_14_code 102 = .ok (.invokevirtual 93, 3))
theorem d_Re_openStep_105 : m_D k_Re_openStep 105 (.iconst 1) 1 := (by decide +kernel : decode prog_8_method_14_code 105 = .ok (.iconst 1, 1))
theorem d_Re_openStep_106 : m_D k_Re_openStep 106 (.ireturn) 1 := (by decide +kernel : decode prog_8_method_14_code 106 = .ok (.ireturn, 1))
def fn_Re_openStep (x0 : Option mA) (x1 : Option mA) (x2 : Int32) : mP Int32 :=
  if x2 = (-1) then
    m_bd (fn_Tx_refuse x0 2) fun v20 =>
    m_bd (m_cz v20) fun _ => m_rt v20
  else
    m_bd (m_gI 6 1 x1) fun v1 =>
    if v1 < 30 then
      m_bd (α := Int32) (
        if x2 < 8 then
          m_rt 0
        else
          m_rt 1
        ) fun (t2 : Int32) =>
      if t2 = 0 then
        m_bd (m_gR 6 2 x1) fun v3 =>
        m_bd (m_gI 6 1 x1) fun v4 =>
        m_bd (m_tI 0 v3 v4 x2) fun _ =>
        m_bd (m_gR 6 6 x1) fun v5 =>
        m_bd (m_gI 6 1 x1) fun v6 =>
        m_bd (α := Int32) (
          if t2 = 0 then
            m_bd (m_gI 6 1 x1) fun v7 =>
            m_rt (v7 + 1)
          else
            m_rt (-1)
          ) fun (t8 : Int32) =>
        m_bd (m_tI 0 v5 v6 t8) fun _ =>
        m_bd (m_gI 6 1 x1) fun v9 =>
        m_bd (m_pI 6 1 x1 (v9 + 1)) fun _ =>
        m_bd (fn_Tx_advance x0) fun _ =>
        m_rt 1
      else
        m_bd (fn_Pl_openBlocks x1) fun v10 =>
        if v10 < 3 then
          m_bd (m_gR 6 2 x1) fun v11 =>
          m_bd (m_gI 6 1 x1) fun v12 =>
          m_bd (m_tI 0 v11 v12 x2) fun _ =>
          m_bd (m_gR 6 6 x1) fun v13 =>
          m_bd (m_gI 6 1 x1) fun v14 =>
          m_bd (α := Int32) (
            if t2 = 0 then
              m_bd (m_gI 6 1 x1) fun v15 =>
              m_rt (v15 + 1)
            else
              m_rt (-1)
            ) fun (t16 : Int32) =>
          m_bd (m_tI 0 v13 v14 t16) fun _ =>
          m_bd (m_gI 6 1 x1) fun v17 =>
          m_bd (m_pI 6 1 x1 (v17 + 1)) fun _ =>
          m_bd (fn_Tx_advance x0) fun _ =>
          m_rt 1
        else
          m_bd (fn_Tx_refuse x0 7) fun v18 =>
          m_bd (m_cz v18) fun _ => m_rt v18
    else
      m_bd (fn_Tx_refuse x0 6) fun v19 =>
      m_bd (m_cz v19) fun _ => m_rt v19
set_option maxHeartbeats 4000000 in
set_option maxRecDepth 100000 in
theorem sd_Re_openStep (x0 : Option mA) (x1 : Option mA) (x2 : Int32) : m_Sm k_Re_openStep 4 0 0 [.inr (.inr x0), .inr (.inr x1), .inl x2] (fn_Re_openStep x0 x1 x2) (fun b => some (.inl b)) := by
  refine ⟨Nat.le_of_ble_eq_true rfl, ?_⟩
  refine sm_iload_n (i := 2) (j := 2) (pc' := 1) d_Re_openStep_0 rfl rfl rfl (sm_iconst (pc' := 2) d_Re_openStep_1 rfl ic_m1 ?_)
  refine sm_icmp_ne (tgt := 11) (pc' := 5) d_Re_openStep_2 rfl rfl ?_ ?_
  · refine sm_aload_n (i := 1) (j := 1) (pc' := 12) d_Re_openStep_11 rfl rfl rfl ?_
    refine sm_getI (pc' := 15) d_Re_openStep_12 rfl fl_Re_186 rfl ⟨by decide, by decide⟩ (fun v1 => ?_)
    refine sm_bipush (pc' := 17) d_Re_openStep_15 rfl ib_30 ?_
    refine sm_icmp_lt (tgt := 27) (pc' := 20) d_Re_openStep_17 rfl rfl ?_ ?_
    · refine sm_iload_n (i := 2) (j := 2) (pc' := 28) d_Re_openStep_27 rfl rfl rfl (sm_bipush (pc' := 30) d_Re_openStep_28 rfl ib_8 ?_)
      refine sm_bd (mid := fun (t2 : Int32) => .inl (38, [(0, .inr (.inr x0)), (1, .inr (.inr x1)), (2, .inl x2)], [.inl t2])) ?_ (fun t2 => ?_)
      · refine sm_icmp_lt (tgt := 37) (pc' := 33) d_Re_openStep_30 rfl rfl ?_ ?_
        · refine sm_iconst (pc' := 38) d_Re_openStep_37 rfl ic_0 (sm_sub [0, 1, 2] rfl ?_)
          exact sm_rt rfl
        · refine sm_iconst (pc' := 34) d_Re_openStep_33 rfl ic_1 (sm_goto (tgt := 38) d_Re_openStep_34 rfl (sm_sub [0, 1, 2] rfl ?_))
          exact sm_rt rfl
      · refine sm_istore_n (i := 3) (L' := [(3, .inl t2), (0, .inr (.inr x0)), (1, .inr (.inr x1)), (2, .inl x2)]) (pc' := 39) d_Re_openStep_38 rfl rfl (Nat.le_of_ble_eq_true rfl) rfl (sm_iload_n (i := 3) (j := 0) (pc' := 40) d_Re_openStep_39 rfl rfl rfl ?_)
        refine sm_if_eq (tgt := 58) (pc' := 43) d_Re_openStep_40 rfl rfl ?_ ?_
        · refine sm_aload_n (i := 1) (j := 2) (pc' := 59) d_Re_openStep_58 rfl rfl rfl ?_
          refine sm_getR (pc' := 62) d_Re_openStep_59 rfl fl_Re_203 rfl rfl (fun v3 => ?_)
          refine sm_aload_n (i := 1) (j := 2) (pc' := 63) d_Re_openStep_62 rfl rfl rfl ?_
          refine sm_getI (pc' := 66) d_Re_openStep_63 rfl fl_Re_186 rfl ⟨by decide, by decide⟩ (fun v4 => ?_)
          refine sm_iload_n (i := 2) (j := 3) (pc' := 67) d_Re_openStep_66 rfl rfl rfl (sm_iast (pc' := 68) d_Re_openStep_67 rfl (sm_aload_n (i := 1) (j := 2) (pc' := 69) d_Re_openStep_68 rfl rfl rfl ?_))
          refine sm_getR (pc' := 72) d_Re_openStep_69 rfl fl_Re_183 rfl rfl (fun v5 => ?_)
          refine sm_aload_n (i := 1) (j := 2) (pc' := 73) d_Re_openStep_72 rfl rfl rfl ?_
          refine sm_getI (pc' := 76) d_Re_openStep_73 rfl fl_Re_186 rfl ⟨by decide, by decide⟩ (fun v6 => ?_)
          refine sm_iload_n (i := 3) (j := 0) (pc' := 77) d_Re_openStep_76 rfl rfl rfl ?_
          refine sm_bd (mid := fun (t8 : Int32) => .inl (90, [(0, .inr (.inr x0)), (1, .inr (.inr x1))], [.inl t8, .inl v6, .inr (.inr v5)])) ?_ (fun t8 => ?_)
          · refine sm_if_eq (tgt := 84) (pc' := 80) d_Re_openStep_77 rfl rfl ?_ ?_
            · refine sm_aload_n (i := 1) (j := 2) (pc' := 85) d_Re_openStep_84 rfl rfl rfl ?_
              refine sm_getI (pc' := 88) d_Re_openStep_85 rfl fl_Re_186 rfl ⟨by decide, by decide⟩ (fun v7 => ?_)
              refine sm_iconst (pc' := 89) d_Re_openStep_88 rfl ic_1 (sm_iadd (pc' := 90) d_Re_openStep_89 rfl (sm_sub [1, 2] rfl ?_))
              exact sm_rt rfl
            · refine sm_iconst (pc' := 81) d_Re_openStep_80 rfl ic_m1 (sm_goto (tgt := 90) d_Re_openStep_81 rfl (sm_sub [1, 2] rfl ?_))
              exact sm_rt rfl
          · refine sm_iast (pc' := 91) d_Re_openStep_90 rfl (sm_aload_n (i := 1) (j := 1) (pc' := 92) d_Re_openStep_91 rfl rfl rfl (sm_dup (pc' := 93) d_Re_openStep_92 rfl rfl ?_))
            refine sm_getI (pc' := 96) d_Re_openStep_93 rfl fl_Re_186 rfl ⟨by decide, by decide⟩ (fun v9 => ?_)
            refine sm_iconst (pc' := 97) d_Re_openStep_96 rfl ic_1 (sm_iadd (pc' := 98) d_Re_openStep_97 rfl (sm_putI (pc' := 101) d_Re_openStep_98 rfl fl_Re_186 (Or.inl rfl) rfl (sm_aload_n (i := 0) (j := 0) (pc' := 102) d_Re_openStep_101 rfl rfl rfl ?_)))
            refine sm_callVv (ci := 2) (x := x0) (av := []) (st := []) (mc := 0) (ms := 0) (pc' := 105) d_Re_openStep_102 rfl (sd_Tx_advance x0) m_lv rfl cv_Tx_advance w_ml_Re_93 rfl rfl (by decide) (Nat.le_of_ble_eq_true rfl) rfl rfl ?_
            refine sm_iconst (pc' := 106) d_Re_openStep_105 rfl ic_1 ?_
            exact sm_zreturn d_Re_openStep_106 rfl (by decide) rfl
        · refine sm_aload_n (i := 1) (j := 2) (pc' := 44) d_Re_openStep_43 rfl rfl rfl ?_
          refine sm_callVi (ci := 6) (x := x1) (av := []) (st := []) (mc := 0) (ms := 0) (pc' := 47) d_Re_openStep_44 rfl (sd_Pl_openBlocks x1) m_lv rfl cv_Pl_openBlocks w_ml_Re_200 rfl rfl (by decide) (Nat.le_of_ble_eq_true rfl) rfl rfl (fun v10 => ?_)
          refine sm_iconst (pc' := 48) d_Re_openStep_47 rfl ic_3 ?_
          refine sm_icmp_lt (tgt := 58) (pc' := 51) d_Re_openStep_48 rfl rfl ?_ ?_
          · refine sm_aload_n (i := 1) (j := 2) (pc' := 59) d_Re_openStep_58 rfl rfl rfl ?_
            refine sm_getR (pc' := 62) d_Re_openStep_59 rfl fl_Re_203 rfl rfl (fun v11 => ?_)
            refine sm_aload_n (i := 1) (j := 2) (pc' := 63) d_Re_openStep_62 rfl rfl rfl ?_
            refine sm_getI (pc' := 66) d_Re_openStep_63 rfl fl_Re_186 rfl ⟨by decide, by decide⟩ (fun v12 => ?_)
            refine sm_iload_n (i := 2) (j := 3) (pc' := 67) d_Re_openStep_66 rfl rfl rfl (sm_iast (pc' := 68) d_Re_openStep_67 rfl (sm_aload_n (i := 1) (j := 2) (pc' := 69) d_Re_openStep_68 rfl rfl rfl ?_))
            refine sm_getR (pc' := 72) d_Re_openStep_69 rfl fl_Re_183 rfl rfl (fun v13 => ?_)
            refine sm_aload_n (i := 1) (j := 2) (pc' := 73) d_Re_openStep_72 rfl rfl rfl ?_
            refine sm_getI (pc' := 76) d_Re_openStep_73 rfl fl_Re_186 rfl ⟨by decide, by decide⟩ (fun v14 => ?_)
            refine sm_iload_n (i := 3) (j := 0) (pc' := 77) d_Re_openStep_76 rfl rfl rfl ?_
            refine sm_bd (mid := fun (t16 : Int32) => .inl (90, [(0, .inr (.inr x0)), (1, .inr (.inr x1))], [.inl t16, .inl v14, .inr (.inr v13)])) ?_ (fun t16 => ?_)
            · refine sm_if_eq (tgt := 84) (pc' := 80) d_Re_openStep_77 rfl rfl ?_ ?_
              · refine sm_aload_n (i := 1) (j := 2) (pc' := 85) d_Re_openStep_84 rfl rfl rfl ?_
                refine sm_getI (pc' := 88) d_Re_openStep_85 rfl fl_Re_186 rfl ⟨by decide, by decide⟩ (fun v15 => ?_)
                refine sm_iconst (pc' := 89) d_Re_openStep_88 rfl ic_1 (sm_iadd (pc' := 90) d_Re_openStep_89 rfl (sm_sub [1, 2] rfl ?_))
                exact sm_rt rfl
              · refine sm_iconst (pc' := 81) d_Re_openStep_80 rfl ic_m1 (sm_goto (tgt := 90) d_Re_openStep_81 rfl (sm_sub [1, 2] rfl ?_))
                exact sm_rt rfl
            · refine sm_iast (pc' := 91) d_Re_openStep_90 rfl (sm_aload_n (i := 1) (j := 1) (pc' := 92) d_Re_openStep_91 rfl rfl rfl (sm_dup (pc' := 93) d_Re_openStep_92 rfl rfl ?_))
              refine sm_getI (pc' := 96) d_Re_openStep_93 rfl fl_Re_186 rfl ⟨by decide, by decide⟩ (fun v17 => ?_)
              refine sm_iconst (pc' := 97) d_Re_openStep_96 rfl ic_1 (sm_iadd (pc' := 98) d_Re_openStep_97 rfl (sm_putI (pc' := 101) d_Re_openStep_98 rfl fl_Re_186 (Or.inl rfl) rfl (sm_aload_n (i := 0) (j := 0) (pc' := 102) d_Re_openStep_101 rfl rfl rfl ?_)))
              refine sm_callVv (ci := 2) (x := x0) (av := []) (st := []) (mc := 0) (ms := 0) (pc' := 105) d_Re_openStep_102 rfl (sd_Tx_advance x0) m_lv rfl cv_Tx_advance w_ml_Re_93 rfl rfl (by decide) (Nat.le_of_ble_eq_true rfl) rfl rfl ?_
              refine sm_iconst (pc' := 106) d_Re_openStep_105 rfl ic_1 ?_
              exact sm_zreturn d_Re_openStep_106 rfl (by decide) rfl
          · refine sm_aload_n (i := 0) (j := 1) (pc' := 52) d_Re_openStep_51 rfl rfl rfl (sm_bipush (pc' := 54) d_Re_openStep_52 rfl ib_7 ?_)
            refine sm_callVi (ci := 2) (x := x0) (av := [.inl 7]) (st := []) (mc := 0) (ms := 0) (pc' := 57) d_Re_openStep_54 rfl (sd_Tx_refuse x0 7) m_lv rfl cv_Tx_refuse w_ml_Re_89 rfl rfl (by decide) (Nat.le_of_ble_eq_true rfl) rfl rfl (fun v18 => ?_)
            exact sm_zretC d_Re_openStep_57 rfl rfl
    · refine sm_aload_n (i := 0) (j := 0) (pc' := 21) d_Re_openStep_20 rfl rfl rfl (sm_bipush (pc' := 23) d_Re_openStep_21 rfl ib_6 ?_)
      refine sm_callVi (ci := 2) (x := x0) (av := [.inl 6]) (st := []) (mc := 0) (ms := 0) (pc' := 26) d_Re_openStep_23 rfl (sd_Tx_refuse x0 6) m_lv rfl cv_Tx_refuse w_ml_Re_89 rfl rfl (by decide) (Nat.le_of_ble_eq_true rfl) rfl rfl (fun v19 => ?_)
      exact sm_zretC d_Re_openStep_26 rfl rfl
  · refine sm_aload_n (i := 0) (j := 0) (pc' := 6) d_Re_openStep_5 rfl rfl rfl (sm_iconst (pc' := 7) d_Re_openStep_6 rfl ic_2 ?_)
    refine sm_callVi (ci := 2) (x := x0) (av := [.inl 2]) (st := []) (mc := 0) (ms := 0) (pc' := 10) d_Re_openStep_7 rfl (sd_Tx_refuse x0 2) m_lv rfl cv_Tx_refuse w_ml_Re_89 rfl rfl (by decide) (Nat.le_of_ble_eq_true rfl) rfl rfl (fun v20 => ?_)
    exact sm_zretC d_Re_openStep_10 rfl rfl
theorem d_Re_stepKind_0 : m_D k_Re_stepKind 0 (.aload_n 0) 1 := (by decide +kernel : decode prog_8_method_13_code 0 = .ok (.aload_n 0, 1))
theorem d_Re_stepKind_1 : m_D k_Re_stepKind 1 (.ldc 189) 2 := (by decide +kernel : decode prog_8_method_13_code 1 = .ok (.ldc 189, 2))
theorem d_Re_stepKind_3 : m_D k_Re_stepKind 3 (.invokevirtual 26) 3 := (by decide +kernel : decode prog_8_method_13_code 3 = .ok (.invokevirtual 26, 3))
theorem d_Re_stepKind_6 : m_D k_Re_stepKind 6 (.ifCond .eq 7) 3 := (by decide +kernel : decode prog_8_method_13_code 6 = .ok (.ifCond .eq 7, 3))
theorem d_Re_stepKind_9 : m_D k_Re_stepKind 9 (.iconst 0) 1 := (by decide +kernel : decode prog_8_method_13_code 9 = .ok (.iconst 0, 1))
theorem d_Re_stepKind_10 : m_D k_Re_stepKind 10 (.goto 111) 3 := (by decide +kernel : decode prog_8_method_13_code 10 = .ok (.goto 111, 3))
theorem d_Re_stepKind_13 : m_D k_Re_stepKind 13 (.aload_n 0) 1 := (by decide +kernel : decode prog_8_method_13_code 13 = .ok (.aload_n 0, 1))
theorem d_Re_stepKind_14 : m_D k_Re_stepKind 14 (.ldc 190) 2 := (by decide +kernel : decode prog_8_method_13_code 14 = .ok (.ldc 190, 2))
theorem d_Re_stepKind_16 : m_D k_Re_stepKind 16 (.invokevirtual 26) 3 := (by decide +kernel : decode prog_8_method_13_code 16 = .ok (.invokevirtual 26, 3))
theorem d_Re_stepKind_19 : m_D k_Re_stepKind 19 (.ifCond .eq 7) 3 := (by decide +kernel : decode prog_8_method_13_code 19 = .ok (.ifCond .eq 7, 3))
theorem d_Re_stepKind_22 : m_D k_Re_stepKind 22 (.iconst 1) 1 := (by decide +kernel : decode prog_8_method_13_code 22 = .ok (.iconst 1, 1))
theorem d_Re_stepKind_23 : m_D k_Re_stepKind 23 (.goto 98) 3 := (by decide +kernel : decode prog_8_method_13_code 23 = .ok (.goto 98, 3))
theorem d_Re_stepKind_26 : m_D k_Re_stepKind 26 (.aload_n 0) 1 := (by decide +kernel : decode prog_8_method_13_code 26 = .ok (.aload_n 0, 1))
theorem d_Re_stepKind_27 : m_D k_Re_stepKind 27 (.ldc 39) 2 := (by decide +kernel : decode prog_8_method_13_code 27 = .ok (.ldc 39, 2))
theorem d_Re_stepKind_29 : m_D k_Re_stepKind 29 (.invokevirtual 26) 3 := (by decide +kernel : decode prog_8_method_13_code 29 = .ok (.invokevirtual 26, 3))
theorem d_Re_stepKind_32 : m_D k_Re_stepKind 32 (.ifCond .eq 7) 3 := (by decide +kernel : decode prog_8_method_13_code 32 = .ok (.ifCond .eq 7, 3))
theorem d_Re_stepKind_35 : m_D k_Re_stepKind 35 (.iconst 2) 1 := (by decide +kernel : decode prog_8_method_13_code 35 = .ok (.iconst 2, 1))
theorem d_Re_stepKind_36 : m_D k_Re_stepKind 36 (.goto 85) 3 := (by decide +kernel : decode prog_8_method_13_code 36 = .ok (.goto 85, 3))
theorem d_Re_stepKind_39 : m_D k_Re_stepKind 39 (.aload_n 0) 1 := (by decide +kernel : decode prog_8_method_13_code 39 = .ok (.aload_n 0, 1))
theorem d_Re_stepKind_40 : m_D k_Re_stepKind 40 (.ldc 87) 2 := (by decide +kernel : decode prog_8_method_13_code 40 = .ok (.ldc 87, 2))
theorem d_Re_stepKind_42 : m_D k_Re_stepKind 42 (.invokevirtual 26) 3 := (by decide +kernel : decode prog_8_method_13_code 42 = .ok (.invokevirtual 26, 3))
theorem d_Re_stepKind_45 : m_D k_Re_stepKind 45 (.ifCond .eq 7) 3 := (by decide +kernel : decode prog_8_method_13_code 45 = .ok (.ifCond .eq 7, 3))
theorem d_Re_stepKind_48 : m_D k_Re_stepKind 48 (.iconst 3) 1 := (by decide +kernel : decode prog_8_method_13_code 48 = .ok (.iconst 3, 1))
theorem d_Re_stepKind_49 : m_D k_Re_stepKind 49 (.goto 72) 3 := (by decide +kernel : decode prog_8_method_13_code 49 = .ok (.goto 72, 3))
theorem d_Re_stepKind_52 : m_D k_Re_stepKind 52 (.aload_n 0) 1 := (by decide +kernel : decode prog_8_method_13_code 52 = .ok (.aload_n 0, 1))
theorem d_Re_stepKind_53 : m_D k_Re_stepKind 53 (.ldc 136) 2 := (by decide +kernel : decode prog_8_method_13_code 53 = .ok (.ldc 136, 2))
theorem d_Re_stepKind_55 : m_D k_Re_stepKind 55 (.invokevirtual 26) 3 := (by decide +kernel : decode prog_8_method_13_code 55 = .ok (.invokevirtual 26, 3))
theorem d_Re_stepKind_58 : m_D k_Re_stepKind 58 (.ifCond .eq 7) 3 := (by decide +kernel : decode prog_8_method_13_code 58 = .ok (.ifCond .eq 7, 3))
theorem d_Re_stepKind_61 : m_D k_Re_stepKind 61 (.iconst 4) 1 := (by decide +kernel : decode prog_8_method_13_code 61 = .ok (.iconst 4, 1))
theorem d_Re_stepKind_62 : m_D k_Re_stepKind 62 (.goto 59) 3 := (by decide +kernel : decode prog_8_method_13_code 62 = .ok (.goto 59, 3))
theorem d_Re_stepKind_65 : m_D k_Re_stepKind 65 (.aload_n 0) 1 := (by decide +kernel : decode prog_8_method_13_code 65 = .ok (.aload_n 0, 1))
theorem d_Re_stepKind_66 : m_D k_Re_stepKind 66 (.ldc 192) 2 := (by decide +kernel : decode prog_8_method_13_code 66 = .ok (.ldc 192, 2))
theorem d_Re_stepKind_68 : m_D k_Re_stepKind 68 (.invokevirtual 26) 3 := (by decide +kernel : decode prog_8_method_13_code 68 = .ok (.invokevirtual 26, 3))
theorem d_Re_stepKind_71 : m_D k_Re_stepKind 71 (.ifCond .eq 7) 3 := (by decide +kernel : decode prog_8_method_13_code 71 = .ok (.ifCond .eq 7, 3))
theorem d_Re_stepKind_74 : m_D k_Re_stepKind 74 (.iconst 5) 1 := (by decide +kernel : decode prog_8_method_13_code 74 = .ok (.iconst 5, 1))
theorem d_Re_stepKind_75 : m_D k_Re_stepKind 75 (.goto 46) 3 := (by decide +kernel : decode prog_8_method_13_code 75 = .ok (.goto 46, 3))
theorem d_Re_stepKind_78 : m_D k_Re_stepKind 78 (.aload_n 0) 1 := (by decide +kernel : decode prog_8_method_13_code 78 = .ok (.aload_n 0, 1))
theorem d_Re_stepKind_79 : m_D k_Re_stepKind 79 (.ldc 194) 2 := (by decide +kernel : decode prog_8_method_13_code 79 = .ok (.ldc 194, 2))
theorem d_Re_stepKind_81 : m_D k_Re_stepKind 81 (.invokevirtual 26) 3 := (by decide +kernel : decode prog_8_method_13_code 81 = .ok (.invokevirtual 26, 3))
theorem d_Re_stepKind_84 : m_D k_Re_stepKind 84 (.ifCond .eq 8) 3 := (by decide +kernel : decode prog_8_method_13_code 84 = .ok (.ifCond .eq 8, 3))
theorem d_Re_stepKind_87 : m_D k_Re_stepKind 87 (.bipush 6) 2 := (by decide +kernel : decode prog_8_method_13_code 87 = .ok (.bipush 6, 2))
theorem d_Re_stepKind_89 : m_D k_Re_stepKind 89 (.goto 32) 3 := (by decide +kernel : decode prog_8_method_13_code 89 = .ok (.goto 32, 3))
theorem d_Re_stepKind_92 : m_D k_Re_stepKind 92 (.aload_n 0) 1 := (by decide +kernel : decode prog_8_method_13_code 92 = .ok (.aload_n 0, 1))
theorem d_Re_stepKind_93 : m_D k_Re_stepKind 93 (.ldc 196) 2 := (by decide +kernel : decode prog_8_method_13_code 93 = .ok (.ldc 196, 2))
theorem d_Re_stepKind_95 : m_D k_Re_stepKind 95 (.invokevirtual 26) 3 := (by decide +kernel : decode prog_8_method_13_code 95 = .ok (.invokevirtual 26, 3))
theorem d_Re_stepKind_98 : m_D k_Re_stepKind 98 (.ifCond .eq 8) 3 := (by decide +kernel : decode prog_8_method_13_code 98 = .ok (.ifCond .eq 8, 3))
theorem d_Re_stepKind_101 : m_D k_Re_stepKind 101 (.bipush 7) 2 := (by decide +kernel : decode prog_8_method_13_code 101 = .ok (.bipush 7, 2))
theorem d_Re_stepKind_103 : m_D k_Re_stepKind 103 (.goto 18) 3 := (by decide +kernel : decode prog_8_method_13_code 103 = .ok (.goto 18, 3))
theorem d_Re_stepKind_106 : m_D k_Re_stepKind 106 (.aload_n 0) 1 := (by decide +kernel : decode prog_8_method_13_code 106 = .ok (.aload_n 0, 1))
theorem d_Re_stepKind_107 : m_D k_Re_stepKind 107 (.ldc 198) 2 := (by decide +kernel : decode prog_8_method_13_code 107 = .ok (.ldc 198, 2))
theorem d_Re_stepKind_109 : m_D k_Re_stepKind 109 (.invokevirtual 26) 3 := (by decide +kernel : decode prog_8_method_13_code 109 = .ok (.invokevirtual 26, 3))
theorem d_Re_stepKind_112 : m_D k_Re_stepKind 112 (.ifCond .eq 8) 3 := (by decide +kernel : decode prog_8_method_13_code 112 = .ok (.ifCond .eq 8, 3))
theorem d_Re_stepKind_115 : m_D k_Re_stepKind 115 (.bipush 8) 2 := (by decide +kernel : decode prog_8_method_13_code 115 = .ok (.bipush 8, 2))
theorem d_Re_stepKind_117 : m_D k_Re_stepKind 117 (.goto 4) 3 := (by decide +kernel : decode prog_8_method_13_code 117 = .ok (.goto 4, 3))
theorem d_Re_stepKind_120 : m_D k_Re_stepKind 120 (.iconst (-1)) 1 := (by decide +kernel : decode prog_8_method_13_code 120 = .ok (.iconst (-1), 1))
theorem d_Re_stepKind_121 : m_D k_Re_stepKind 121 (.ireturn) 1 := (by decide +kernel : decode prog_8_method_13_code 121 = .ok (.ireturn, 1))
def fn_Re_stepKind (x0 : Option mA) : mP Int32 :=
  m_bd (fn_Tx_is x0 (some (0, 11, 0))) fun v1 =>
  if v1 = 0 then
    m_bd (fn_Tx_is x0 (some (0, 12, 0))) fun v2 =>
    if v2 = 0 then
      m_bd (fn_Tx_is x0 (some (0, 10, 0))) fun v3 =>
      if v3 = 0 then
        m_bd (fn_Tx_is x0 (some (0, 3, 0))) fun v4 =>
        if v4 = 0 then
          m_bd (fn_Tx_is x0 (some (0, 9, 0))) fun v5 =>
          if v5 = 0 then
            m_bd (fn_Tx_is x0 (some (0, 13, 0))) fun v6 =>
            if v6 = 0 then
              m_bd (fn_Tx_is x0 (some (0, 14, 0))) fun v7 =>
              if v7 = 0 then
                m_bd (fn_Tx_is x0 (some (0, 20, 0))) fun v8 =>
                if v8 = 0 then
                  m_bd (fn_Tx_is x0 (some (0, 18, 0))) fun v9 =>
                  if v9 = 0 then
                    m_rt (-1)
                  else
                    m_rt 8
                else
                  m_rt 7
              else
                m_rt 6
            else
              m_rt 5
          else
            m_rt 4
        else
          m_rt 3
      else
        m_rt 2
    else
      m_rt 1
  else
    m_rt 0
set_option maxHeartbeats 4000000 in
set_option maxRecDepth 100000 in
theorem sd_Re_stepKind (x0 : Option mA) : m_Sm k_Re_stepKind 7 0 0 [.inr (.inr x0)] (fn_Re_stepKind x0) (fun b => some (.inl b)) := by
  refine ⟨Nat.le_of_ble_eq_true rfl, ?_⟩
  refine sm_aload_n (i := 0) (j := 0) (pc' := 1) d_Re_stepKind_0 rfl rfl rfl (sm_ldcS (j := 11) (pc' := 3) d_Re_stepKind_1 rfl (by decide) ?_)
  refine sm_callVi (ci := 2) (x := x0) (av := [.inr (.inr (some (0, 11, 0)))]) (st := []) (mc := 0) (ms := 0) (pc' := 6) d_Re_stepKind_3 rfl (sd_Tx_is x0 (some (0, 11, 0))) m_lv rfl cv_Tx_is w_ml_Re_26 rfl rfl (by decide) (Nat.le_of_ble_eq_true rfl) rfl rfl (fun v1 => ?_)
  refine sm_if_eq (tgt := 13) (pc' := 9) d_Re_stepKind_6 rfl rfl ?_ ?_
  · refine sm_aload_n (i := 0) (j := 0) (pc' := 14) d_Re_stepKind_13 rfl rfl rfl (sm_ldcS (j := 12) (pc' := 16) d_Re_stepKind_14 rfl (by decide) ?_)
    refine sm_callVi (ci := 2) (x := x0) (av := [.inr (.inr (some (0, 12, 0)))]) (st := []) (mc := 0) (ms := 0) (pc' := 19) d_Re_stepKind_16 rfl (sd_Tx_is x0 (some (0, 12, 0))) m_lv rfl cv_Tx_is w_ml_Re_26 rfl rfl (by decide) (Nat.le_of_ble_eq_true rfl) rfl rfl (fun v2 => ?_)
    refine sm_if_eq (tgt := 26) (pc' := 22) d_Re_stepKind_19 rfl rfl ?_ ?_
    · refine sm_aload_n (i := 0) (j := 0) (pc' := 27) d_Re_stepKind_26 rfl rfl rfl (sm_ldcS (j := 10) (pc' := 29) d_Re_stepKind_27 rfl (by decide) ?_)
      refine sm_callVi (ci := 2) (x := x0) (av := [.inr (.inr (some (0, 10, 0)))]) (st := []) (mc := 0) (ms := 0) (pc' := 32) d_Re_stepKind_29 rfl (sd_Tx_is x0 (some (0, 10, 0))) m_lv rfl cv_Tx_is w_ml_Re_26 rfl rfl (by decide) (Nat.le_of_ble_eq_true rfl) rfl rfl (fun v3 => ?_)
      refine sm_if_eq (tgt := 39) (pc' := 35) d_Re_stepKind_32 rfl rfl ?_ ?_
      · refine sm_aload_n (i := 0) (j := 0) (pc' := 40) d_Re_stepKind_39 rfl rfl rfl (sm_ldcS (j := 3) (pc' := 42) d_Re_stepKind_40 rfl (by decide) ?_)
        refine sm_callVi (ci := 2) (x := x0) (av := [.inr (.inr (some (0, 3, 0)))]) (st := []) (mc := 0) (ms := 0) (pc' := 45) d_Re_stepKind_42 rfl (sd_Tx_is x0 (some (0, 3, 0))) m_lv rfl cv_Tx_is w_ml_Re_26 rfl rfl (by decide) (Nat.le_of_ble_eq_true rfl) rfl rfl (fun v4 => ?_)
        refine sm_if_eq (tgt := 52) (pc' := 48) d_Re_stepKind_45 rfl rfl ?_ ?_
        · refine sm_aload_n (i := 0) (j := 0) (pc' := 53) d_Re_stepKind_52 rfl rfl rfl (sm_ldcS (j := 9) (pc' := 55) d_Re_stepKind_53 rfl (by decide) ?_)
          refine sm_callVi (ci := 2) (x := x0) (av := [.inr (.inr (some (0, 9, 0)))]) (st := []) (mc := 0) (ms := 0) (pc' := 58) d_Re_stepKind_55 rfl (sd_Tx_is x0 (some (0, 9, 0))) m_lv rfl cv_Tx_is w_ml_Re_26 rfl rfl (by decide) (Nat.le_of_ble_eq_true rfl) rfl rfl (fun v5 => ?_)
          refine sm_if_eq (tgt := 65) (pc' := 61) d_Re_stepKind_58 rfl rfl ?_ ?_
          · refine sm_aload_n (i := 0) (j := 0) (pc' := 66) d_Re_stepKind_65 rfl rfl rfl (sm_ldcS (j := 13) (pc' := 68) d_Re_stepKind_66 rfl (by decide) ?_)
            refine sm_callVi (ci := 2) (x := x0) (av := [.inr (.inr (some (0, 13, 0)))]) (st := []) (mc := 0) (ms := 0) (pc' := 71) d_Re_stepKind_68 rfl (sd_Tx_is x0 (some (0, 13, 0))) m_lv rfl cv_Tx_is w_ml_Re_26 rfl rfl (by decide) (Nat.le_of_ble_eq_true rfl) rfl rfl (fun v6 => ?_)
            refine sm_if_eq (tgt := 78) (pc' := 74) d_Re_stepKind_71 rfl rfl ?_ ?_
            · refine sm_aload_n (i := 0) (j := 0) (pc' := 79) d_Re_stepKind_78 rfl rfl rfl (sm_ldcS (j := 14) (pc' := 81) d_Re_stepKind_79 rfl (by decide) ?_)
              refine sm_callVi (ci := 2) (x := x0) (av := [.inr (.inr (some (0, 14, 0)))]) (st := []) (mc := 0) (ms := 0) (pc' := 84) d_Re_stepKind_81 rfl (sd_Tx_is x0 (some (0, 14, 0))) m_lv rfl cv_Tx_is w_ml_Re_26 rfl rfl (by decide) (Nat.le_of_ble_eq_true rfl) rfl rfl (fun v7 => ?_)
              refine sm_if_eq (tgt := 92) (pc' := 87) d_Re_stepKind_84 rfl rfl ?_ ?_
              · refine sm_aload_n (i := 0) (j := 0) (pc' := 93) d_Re_stepKind_92 rfl rfl rfl (sm_ldcS (j := 20) (pc' := 95) d_Re_stepKind_93 rfl (by decide) ?_)
                refine sm_callVi (ci := 2) (x := x0) (av := [.inr (.inr (some (0, 20, 0)))]) (st := []) (mc := 0) (ms := 0) (pc' := 98) d_Re_stepKind_95 rfl (sd_Tx_is x0 (some (0, 20, 0))) m_lv rfl cv_Tx_is w_ml_Re_26 rfl rfl (by decide) (Nat.le_of_ble_eq_true rfl) rfl rfl (fun v8 => ?_)
                refine sm_if_eq (tgt := 106) (pc' := 101) d_Re_stepKind_98 rfl rfl ?_ ?_
                · refine sm_aload_n (i := 0) (j := 0) (pc' := 107) d_Re_stepKind_106 rfl rfl rfl (sm_ldcS (j := 18) (pc' := 109) d_Re_stepKind_107 rfl (by decide) ?_)
                  refine sm_callVi (ci := 2) (x := x0) (av := [.inr (.inr (some (0, 18, 0)))]) (st := []) (mc := 0) (ms := 0) (pc' := 112) d_Re_stepKind_109 rfl (sd_Tx_is x0 (some (0, 18, 0))) m_lv rfl cv_Tx_is w_ml_Re_26 rfl rfl (by decide) (Nat.le_of_ble_eq_true rfl) rfl rfl (fun v9 => ?_)
                  refine sm_if_eq (tgt := 120) (pc' := 115) d_Re_stepKind_112 rfl rfl ?_ ?_
                  · refine sm_iconst (pc' := 121) d_Re_stepKind_120 rfl ic_m1 ?_
                    exact sm_ireturn d_Re_stepKind_121 rfl rfl
                  · refine sm_bipush (pc' := 117) d_Re_stepKind_115 rfl ib_8 (sm_goto (tgt := 121) d_Re_stepKind_117 rfl ?_)
                    exact sm_ireturn d_Re_stepKind_121 rfl rfl
                · refine sm_bipush (pc' := 103) d_Re_stepKind_101 rfl ib_7 (sm_goto (tgt := 121) d_Re_stepKind_103 rfl ?_)
                  exact sm_ireturn d_Re_stepKind_121 rfl rfl
              · refine sm_bipush (pc' := 89) d_Re_stepKind_87 rfl ib_6 (sm_goto (tgt := 121) d_Re_stepKind_89 rfl ?_)
                exact sm_ireturn d_Re_stepKind_121 rfl rfl
            · refine sm_iconst (pc' := 75) d_Re_stepKind_74 rfl ic_5 (sm_goto (tgt := 121) d_Re_stepKind_75 rfl ?_)
              exact sm_ireturn d_Re_stepKind_121 rfl rfl
          · refine sm_iconst (pc' := 62) d_Re_stepKind_61 rfl ic_4 (sm_goto (tgt := 121) d_Re_stepKind_62 rfl ?_)
            exact sm_ireturn d_Re_stepKind_121 rfl rfl
        · refine sm_iconst (pc' := 49) d_Re_stepKind_48 rfl ic_3 (sm_goto (tgt := 121) d_Re_stepKind_49 rfl ?_)
          exact sm_ireturn d_Re_stepKind_121 rfl rfl
      · refine sm_iconst (pc' := 36) d_Re_stepKind_35 rfl ic_2 (sm_goto (tgt := 121) d_Re_stepKind_36 rfl ?_)
        exact sm_ireturn d_Re_stepKind_121 rfl rfl
    · refine sm_iconst (pc' := 23) d_Re_stepKind_22 rfl ic_1 (sm_goto (tgt := 121) d_Re_stepKind_23 rfl ?_)
      exact sm_ireturn d_Re_stepKind_121 rfl rfl
  · refine sm_iconst (pc' := 10) d_Re_stepKind_9 rfl ic_0 (sm_goto (tgt := 121) d_Re_stepKind_10 rfl ?_)
    exact sm_ireturn d_Re_stepKind_121 rfl rfl
theorem d_Re_takeMuch_0 : m_D k_Re_takeMuch 0 (.aload_n 0) 1 := (by decide +kernel : decode prog_8_method_18_code 0 = .ok (.aload_n 0, 1))
theorem d_Re_takeMuch_1 : m_D k_Re_takeMuch 1 (.iload_n 2) 1 := (by decide +kernel : decode prog_8_method_18_code 1 = .ok (.iload_n 2, 1))
theorem d_Re_takeMuch_2 : m_D k_Re_takeMuch 2 (.iload_n 3) 1 := (by decide +kernel : decode prog_8_method_18_code 2 = .ok (.iload_n 3, 1))
theorem d_Re_takeMuch_3 : m_D k_Re_takeMuch 3 (.invokevirtual 96) 3 := (by decide +kernel : decode prog_8_method_18_code 3 = .ok (.invokevirtual 96, 3))
theorem d_Re_takeMuch_6 : m_D k_Re_takeMuch 6 (.istore 4) 2 := (by decide +kernel : decode prog_8_method_18_code 6 = .ok (.istore 4, 2))
theorem d_Re_takeMuch_8 : m_D k_Re_takeMuch 8 (.aload_n 1) 1 := (by decide +kernel : decode prog_8_method_18_code 8 = .ok (.aload_n 1, 1))
theorem d_Re_takeMuch_9 : m_D k_Re_takeMuch 9 (.getfield 225) 3 := (by decide +kernel : decode prog_8_method_18_code 9 = .ok (.getfield 225, 3))
theorem d_Re_takeMuch_12 : m_D k_Re_takeMuch 12 (.aload_n 1) 1 := (by decide +kernel : decode prog_8_method_18_code 12 = .ok (.aload_n 1, 1))
theorem d_Re_takeMuch_13 : m_D k_Re_takeMuch 13 (.getfield 186) 3 := (by decide +kernel : decode prog_8_method_18_code 13 = .ok (.getfield 186, 3))
theorem d_Re_takeMuch_16 : m_D k_Re_takeMuch 16 (.iconst 1) 1 := (by decide +kernel : decode prog_8_method_18_code 16 = .ok (.iconst 1, 1))
theorem d_Re_takeMuch_17 : m_D k_Re_takeMuch 17 (.isub) 1 := (by decide +kernel : decode prog_8_method_18_code 17 = .ok (.isub, 1))
theorem d_Re_takeMuch_18 : m_D k_Re_takeMuch 18 (.aload_n 0) 1 := (by decide +kernel : decode prog_8_method_18_code 18 = .ok (.aload_n 0, 1))
theorem d_Re_takeMuch_19 : m_D k_Re_takeMuch 19 (.getfield 83) 3 := (by decide +kernel : decode prog_8_method_18_code 19 = .ok (.getfield 83, 3))
theorem d_Re_takeMuch_22 : m_D k_Re_takeMuch 22 (.iastore) 1 := (by decide +kernel : decode prog_8_method_18_code 22 = .ok (.iastore, 1))
theorem d_Re_takeMuch_23 : m_D k_Re_takeMuch 23 (.iload 4) 2 := (by decide +kernel : decode prog_8_method_18_code 23 = .ok (.iload 4, 2))
theorem d_Re_takeMuch_25 : m_D k_Re_takeMuch 25 (.ireturn) 1 := (by decide +kernel : decode prog_8_method_18_code 25 = .ok (.ireturn, 1))
def fn_Re_takeMuch (x0 : Option mA) (x1 : Option mA) (x2 : Int32) (x3 : Int32) : mP Int32 :=
  m_bd (fn_Tx_takeNumber x0 x2 x3) fun v1 =>
  m_bd (m_gR 6 5 x1) fun v2 =>
  m_bd (m_gI 6 1 x1) fun v3 =>
  m_bd (m_gI 2 9 x0) fun v4 =>
  m_bd (m_tI 0 v2 (v3 - 1) v4) fun _ =>
  m_bd (m_cz v1) fun _ => m_rt v1
set_option maxHeartbeats 4000000 in
set_option maxRecDepth 100000 in
theorem sd_Re_takeMuch (x0 : Option mA) (x1 : Option mA) (x2 : Int32) (x3 : Int32) : m_Sm k_Re_takeMuch 5 0 0 [.inr (.inr x0), .inr (.inr x1), .inl x2, .inl x3] (fn_Re_takeMuch x0 x1 x2 x3) (fun b => some (.inl b)) := by
  refine ⟨Nat.le_of_ble_eq_true rfl, ?_⟩
  refine sm_aload_n (i := 0) (j := 0) (pc' := 1) d_Re_takeMuch_0 rfl rfl rfl (sm_iload_n (i := 2) (j := 2) (pc' := 2) d_Re_takeMuch_1 rfl rfl rfl (sm_iload_n (i := 3) (j := 3) (pc' := 3) d_Re_takeMuch_2 rfl rfl rfl ?_))
  refine sm_callVi (ci := 2) (x := x0) (av := [.inl x2, .inl x3]) (st := []) (mc := 0) (ms := 0) (pc' := 6) d_Re_takeMuch_3 rfl (sd_Tx_takeNumber x0 x2 x3) m_lv rfl cv_Tx_takeNumber w_ml_Re_96 rfl rfl (by decide) (Nat.le_of_ble_eq_true rfl) rfl rfl (fun v1 => ?_)
  refine sm_istore (L' := [(4, .inl v1), (0, .inr (.inr x0)), (1, .inr (.inr x1)), (2, .inl x2), (3, .inl x3)]) (pc' := 8) d_Re_takeMuch_6 rfl (Nat.le_of_ble_eq_true rfl) rfl (sm_aload_n (i := 1) (j := 2) (pc' := 9) d_Re_takeMuch_8 rfl rfl rfl ?_)
  refine sm_getR (pc' := 12) d_Re_takeMuch_9 rfl fl_Re_225 rfl rfl (fun v2 => ?_)
  refine sm_aload_n (i := 1) (j := 2) (pc' := 13) d_Re_takeMuch_12 rfl rfl rfl ?_
  refine sm_getI (pc' := 16) d_Re_takeMuch_13 rfl fl_Re_186 rfl ⟨by decide, by decide⟩ (fun v3 => ?_)
  refine sm_iconst (pc' := 17) d_Re_takeMuch_16 rfl ic_1 (sm_isub (pc' := 18) d_Re_takeMuch_17 rfl (sm_aload_n (i := 0) (j := 1) (pc' := 19) d_Re_takeMuch_18 rfl rfl rfl ?_))
  refine sm_getI (pc' := 22) d_Re_takeMuch_19 rfl fl_Re_83 rfl ⟨by decide, by decide⟩ (fun v4 => ?_)
  refine sm_iast (pc' := 23) d_Re_takeMuch_22 rfl (sm_iload (j := 0) (pc' := 25) d_Re_takeMuch_23 rfl rfl ?_)
  exact sm_zretC d_Re_takeMuch_25 rfl rfl
theorem d_Re_takePersonName_0 : m_D k_Re_takePersonName 0 (.aload_n 1) 1 := (by decide +kernel : decode prog_8_method_19_code 0 = .ok (.aload_n 1, 1))
theorem d_Re_takePersonName_1 : m_D k_Re_takePersonName 1 (.aload_n 0) 1 := (by decide +kernel : decode prog_8_method_19_code 1 = .ok (.aload_n 0, 1))
theorem d_Re_takePersonName_2 : m_D k_Re_takePersonName 2 (.getfield 111) 3 := (by decide +kernel : decode prog_8_method_19_code 2 = .ok (.getfield 111, 3))
theorem d_Re_takePersonName_5 : m_D k_Re_takePersonName 5 (.invokevirtual 104) 3 := (by decide +kernel : decode prog_8_method_19_code 5 = .ok (.invokevirtual 104, 3))
theorem d_Re_takePersonName_8 : m_D k_Re_takePersonName 8 (.istore_n 3) 1 := (by decide +kernel : decode prog_8_method_19_code 8 = .ok (.istore_n 3, 1))
theorem d_Re_takePersonName_9 : m_D k_Re_takePersonName 9 (.aload_n 2) 1 := (by decide +kernel : decode prog_8_method_19_code 9 = .ok (.aload_n 2, 1))
theorem d_Re_takePersonName_10 : m_D k_Re_takePersonName 10 (.getfield 228) 3 := (by decide +kernel : decode prog_8_method_19_code 10 = .ok (.getfield 228, 3))
theorem d_Re_takePersonName_13 : m_D k_Re_takePersonName 13 (.aload_n 2) 1 := (by decide +kernel : decode prog_8_method_19_code 13 = .ok (.aload_n 2, 1))
theorem d_Re_takePersonName_14 : m_D k_Re_takePersonName 14 (.getfield 186) 3 := (by decide +kernel : decode prog_8_method_19_code 14 = .ok (.getfield 186, 3))
theorem d_Re_takePersonName_17 : m_D k_Re_takePersonName 17 (.iconst 1) 1 := (by decide +kernel : decode prog_8_method_19_code 17 = .ok (.iconst 1, 1))
theorem d_Re_takePersonName_18 : m_D k_Re_takePersonName 18 (.isub) 1 := (by decide +kernel : decode prog_8_method_19_code 18 = .ok (.isub, 1))
theorem d_Re_takePersonName_19 : m_D k_Re_takePersonName 19 (.iload_n 3) 1 := (by decide +kernel : decode prog_8_method_19_code 19 = .ok (.iload_n 3, 1))
theorem d_Re_takePersonName_20 : m_D k_Re_takePersonName 20 (.iastore) 1 := (by decide +kernel : decode prog_8_method_19_code 20 = .ok (.iastore, 1))
theorem d_Re_takePersonName_21 : m_D k_Re_takePersonName 21 (.aload_n 0) 1 := (by decide +kernel : decode prog_8_method_19_code 21 = .ok (.aload_n 0, 1))
theorem d_Re_takePersonName_22 : m_D k_Re_takePersonName 22 (.iload_n 3) 1 := (by decide +kernel : decode prog_8_method_19_code 22 = .ok (.iload_n 3, 1))
theorem d_Re_takePersonName_23 : m_D k_Re_takePersonName 23 (.iconst (-1)) 1 := (by decide +kernel : decode prog_8_method_19_code 23 = .ok (.iconst (-1), 1))
theorem d_Re_takePersonName_24 : m_D k_Re_takePersonName 24 (.if_icmp .eq 7) 3 := (by decide +kernel : decode prog_8_method_19_code 24 = .ok (.if_icmp .eq 7, 3))
theorem d_Re_takePersonName_27 : m_D k_Re_takePersonName 27 (.iconst 1) 1 := (by decide +kernel : decode prog_8_method_19_code 27 = .ok (.iconst 1, 1))
theorem d_Re_takePersonName_28 : m_D k_Re_takePersonName 28 (.goto 4) 3 := (by decide +kernel : decode prog_8_method_19_code 28 = .ok (.goto 4, 3))
theorem d_Re_takePersonName_31 : m_D k_Re_takePersonName 31 (.iconst 0) 1 := (by decide +kernel : decode prog_8_method_19_code 31 = .ok (.iconst 0, 1))
theorem d_Re_takePersonName_32 : m_D k_Re_takePersonName 32 (.invokevirtual 119) 3 := (by decide +kernel : decode prog_8_method_19_code 32 = .ok (.invokevirtual 119, 3))
theorem d_Re_takePersonName_35 : m_D k_Re_takePersonName 35 (.ireturn) 1 := (by decide +kernel : decode prog_8_method_19_code 35 = .ok (.ireturn, 1))
def fn_Re_takePersonName (x0 : Option mA) (x1 : Option mA) (x2 : Option mA) : mP Int32 :=
  m_bd (m_gJ 2 7 x0) fun v1 =>
  m_bd (fn_Fa_personNamed x1 v1) fun v2 =>
  m_bd (m_gR 6 3 x2) fun v3 =>
  m_bd (m_gI 6 1 x2) fun v4 =>
  m_bd (m_tI 0 v3 (v4 - 1) v2) fun _ =>
  m_bd (α := Int32) (
    if v2 = (-1) then
      m_rt 0
    else
      m_rt 1
    ) fun (t5 : Int32) =>
  m_bd (fn_Tx_takeName x0 t5) fun v6 =>
  m_bd (m_cz v6) fun _ => m_rt v6
set_option maxHeartbeats 4000000 in
set_option maxRecDepth 100000 in
theorem sd_Re_takePersonName (x0 : Option mA) (x1 : Option mA) (x2 : Option mA) : m_Sm k_Re_takePersonName 9 0 0 [.inr (.inr x0), .inr (.inr x1), .inr (.inr x2)] (fn_Re_takePersonName x0 x1 x2) (fun b => some (.inl b)) := by
  refine ⟨Nat.le_of_ble_eq_true rfl, ?_⟩
  refine sm_aload_n (i := 1) (j := 1) (pc' := 1) d_Re_takePersonName_0 rfl rfl rfl (sm_aload_n (i := 0) (j := 0) (pc' := 2) d_Re_takePersonName_1 rfl rfl rfl ?_)
  refine sm_getJ (pc' := 5) d_Re_takePersonName_2 rfl fl_Re_111 rfl rfl (fun v1 => ?_)
  refine sm_callVi (ci := 3) (x := x1) (av := [.inr (.inl v1)]) (st := []) (mc := 0) (ms := 0) (pc' := 8) d_Re_takePersonName_5 rfl (sd_Fa_personNamed x1 v1) m_lv rfl cv_Fa_personNamed w_ml_Re_104 rfl rfl (by decide) (Nat.le_of_ble_eq_true rfl) rfl rfl (fun v2 => ?_)
  refine sm_istore_n (i := 3) (L' := [(3, .inl v2), (0, .inr (.inr x0)), (1, .inr (.inr x1)), (2, .inr (.inr x2))]) (pc' := 9) d_Re_takePersonName_8 rfl rfl (Nat.le_of_ble_eq_true rfl) rfl (sm_aload_n (i := 2) (j := 3) (pc' := 10) d_Re_takePersonName_9 rfl rfl rfl ?_)
  refine sm_getR (pc' := 13) d_Re_takePersonName_10 rfl fl_Re_228 rfl rfl (fun v3 => ?_)
  refine sm_aload_n (i := 2) (j := 3) (pc' := 14) d_Re_takePersonName_13 rfl rfl rfl ?_
  refine sm_getI (pc' := 17) d_Re_takePersonName_14 rfl fl_Re_186 rfl ⟨by decide, by decide⟩ (fun v4 => ?_)
  refine sm_iconst (pc' := 18) d_Re_takePersonName_17 rfl ic_1 (sm_isub (pc' := 19) d_Re_takePersonName_18 rfl (sm_iload_n (i := 3) (j := 0) (pc' := 20) d_Re_takePersonName_19 rfl rfl rfl (sm_iast (pc' := 21) d_Re_takePersonName_20 rfl (sm_aload_n (i := 0) (j := 1) (pc' := 22) d_Re_takePersonName_21 rfl rfl rfl (sm_iload_n (i := 3) (j := 0) (pc' := 23) d_Re_takePersonName_22 rfl rfl rfl (sm_iconst (pc' := 24) d_Re_takePersonName_23 rfl ic_m1 ?_))))))
  refine sm_bd (mid := fun (t5 : Int32) => .inl (32, [], [.inl t5, .inr (.inr x0)])) ?_ (fun t5 => ?_)
  · refine sm_icmp_eq (tgt := 31) (pc' := 27) d_Re_takePersonName_24 rfl rfl ?_ ?_
    · refine sm_iconst (pc' := 32) d_Re_takePersonName_31 rfl ic_0 (sm_sub [] rfl ?_)
      exact sm_rt rfl
    · refine sm_iconst (pc' := 28) d_Re_takePersonName_27 rfl ic_1 (sm_goto (tgt := 32) d_Re_takePersonName_28 rfl (sm_sub [] rfl ?_))
      exact sm_rt rfl
  · refine sm_callVi (ci := 2) (x := x0) (av := [.inl t5]) (st := []) (mc := 0) (ms := 0) (pc' := 35) d_Re_takePersonName_32 rfl (sd_Tx_takeName x0 t5) m_lv rfl cv_Tx_takeName w_ml_Re_119 rfl rfl (by decide) (Nat.le_of_ble_eq_true rfl) rfl rfl (fun v6 => ?_)
    exact sm_zretC d_Re_takePersonName_35 rfl rfl
theorem d_Re_takeThingName_0 : m_D k_Re_takeThingName 0 (.aload_n 1) 1 := (by decide +kernel : decode prog_8_method_20_code 0 = .ok (.aload_n 1, 1))
theorem d_Re_takeThingName_1 : m_D k_Re_takeThingName 1 (.aload_n 0) 1 := (by decide +kernel : decode prog_8_method_20_code 1 = .ok (.aload_n 0, 1))
theorem d_Re_takeThingName_2 : m_D k_Re_takeThingName 2 (.getfield 111) 3 := (by decide +kernel : decode prog_8_method_20_code 2 = .ok (.getfield 111, 3))
theorem d_Re_takeThingName_5 : m_D k_Re_takeThingName 5 (.invokevirtual 108) 3 := (by decide +kernel : decode prog_8_method_20_code 5 = .ok (.invokevirtual 108, 3))
theorem d_Re_takeThingName_8 : m_D k_Re_takeThingName 8 (.istore_n 3) 1 := (by decide +kernel : decode prog_8_method_20_code 8 = .ok (.istore_n 3, 1))
theorem d_Re_takeThingName_9 : m_D k_Re_takeThingName 9 (.aload_n 2) 1 := (by decide +kernel : decode prog_8_method_20_code 9 = .ok (.aload_n 2, 1))
theorem d_Re_takeThingName_10 : m_D k_Re_takeThingName 10 (.getfield 230) 3 := (by decide +kernel : decode prog_8_method_20_code 10 = .ok (.getfield 230, 3))
theorem d_Re_takeThingName_13 : m_D k_Re_takeThingName 13 (.aload_n 2) 1 := (by decide +kernel : decode prog_8_method_20_code 13 = .ok (.aload_n 2, 1))
theorem d_Re_takeThingName_14 : m_D k_Re_takeThingName 14 (.getfield 186) 3 := (by decide +kernel : decode prog_8_method_20_code 14 = .ok (.getfield 186, 3))
theorem d_Re_takeThingName_17 : m_D k_Re_takeThingName 17 (.iconst 1) 1 := (by decide +kernel : decode prog_8_method_20_code 17 = .ok (.iconst 1, 1))
theorem d_Re_takeThingName_18 : m_D k_Re_takeThingName 18 (.isub) 1 := (by decide +kernel : decode prog_8_method_20_code 18 = .ok (.isub, 1))
theorem d_Re_takeThingName_19 : m_D k_Re_takeThingName 19 (.iload_n 3) 1 := (by decide +kernel : decode prog_8_method_20_code 19 = .ok (.iload_n 3, 1))
theorem d_Re_takeThingName_20 : m_D k_Re_takeThingName 20 (.iastore) 1 := (by decide +kernel : decode prog_8_method_20_code 20 = .ok (.iastore, 1))
theorem d_Re_takeThingName_21 : m_D k_Re_takeThingName 21 (.aload_n 0) 1 := (by decide +kernel : decode prog_8_method_20_code 21 = .ok (.aload_n 0, 1))
theorem d_Re_takeThingName_22 : m_D k_Re_takeThingName 22 (.iload_n 3) 1 := (by decide +kernel : decode prog_8_method_20_code 22 = .ok (.iload_n 3, 1))
theorem d_Re_takeThingName_23 : m_D k_Re_takeThingName 23 (.iconst (-1)) 1 := (by decide +kernel : decode prog_8_method_20_code 23 = .ok (.iconst (-1), 1))
theorem d_Re_takeThingName_24 : m_D k_Re_takeThingName 24 (.if_icmp .eq 7) 3 := (by decide +kernel : decode prog_8_method_20_code 24 = .ok (.if_icmp .eq 7, 3))
theorem d_Re_takeThingName_27 : m_D k_Re_takeThingName 27 (.iconst 1) 1 := (by decide +kernel : decode prog_8_method_20_code 27 = .ok (.iconst 1, 1))
theorem d_Re_takeThingName_28 : m_D k_Re_takeThingName 28 (.goto 4) 3 := (by decide +kernel : decode prog_8_method_20_code 28 = .ok (.goto 4, 3))
theorem d_Re_takeThingName_31 : m_D k_Re_takeThingName 31 (.iconst 0) 1 := (by decide +kernel : decode prog_8_method_20_code 31 = .ok (.iconst 0, 1))
theorem d_Re_takeThingName_32 : m_D k_Re_takeThingName 32 (.invokevirtual 119) 3 := (by decide +kernel : decode prog_8_method_20_code 32 = .ok (.invokevirtual 119, 3))
theorem d_Re_takeThingName_35 : m_D k_Re_takeThingName 35 (.ireturn) 1 := (by decide +kernel : decode prog_8_method_20_code 35 = .ok (.ireturn, 1))
def fn_Re_takeThingName (x0 : Option mA) (x1 : Option mA) (x2 : Option mA) : mP Int32 :=
  m_bd (m_gJ 2 7 x0) fun v1 =>
  m_bd (fn_Fa_thingNamed x1 v1) fun v2 =>
  m_bd (m_gR 6 4 x2) fun v3 =>
  m_bd (m_gI 6 1 x2) fun v4 =>
  m_bd (m_tI 0 v3 (v4 - 1) v2) fun _ =>
  m_bd (α := Int32) (
    if v2 = (-1) then
      m_rt 0
    else
      m_rt 1
    ) fun (t5 : Int32) =>
  m_bd (fn_Tx_takeName x0 t5) fun v6 =>
  m_bd (m_cz v6) fun _ => m_rt v6
set_option maxHeartbeats 4000000 in
set_option maxRecDepth 100000 in
theorem sd_Re_takeThingName (x0 : Option mA) (x1 : Option mA) (x2 : Option mA) : m_Sm k_Re_takeThingName 9 0 0 [.inr (.inr x0), .inr (.inr x1), .inr (.inr x2)] (fn_Re_takeThingName x0 x1 x2) (fun b => some (.inl b)) := by
  refine ⟨Nat.le_of_ble_eq_true rfl, ?_⟩
  refine sm_aload_n (i := 1) (j := 1) (pc' := 1) d_Re_takeThingName_0 rfl rfl rfl (sm_aload_n (i := 0) (j := 0) (pc' := 2) d_Re_takeThingName_1 rfl rfl rfl ?_)
  refine sm_getJ (pc' := 5) d_Re_takeThingName_2 rfl fl_Re_111 rfl rfl (fun v1 => ?_)
  refine sm_callVi (ci := 3) (x := x1) (av := [.inr (.inl v1)]) (st := []) (mc := 0) (ms := 0) (pc' := 8) d_Re_takeThingName_5 rfl (sd_Fa_thingNamed x1 v1) m_lv rfl cv_Fa_thingNamed w_ml_Re_108 rfl rfl (by decide) (Nat.le_of_ble_eq_true rfl) rfl rfl (fun v2 => ?_)
  refine sm_istore_n (i := 3) (L' := [(3, .inl v2), (0, .inr (.inr x0)), (1, .inr (.inr x1)), (2, .inr (.inr x2))]) (pc' := 9) d_Re_takeThingName_8 rfl rfl (Nat.le_of_ble_eq_true rfl) rfl (sm_aload_n (i := 2) (j := 3) (pc' := 10) d_Re_takeThingName_9 rfl rfl rfl ?_)
  refine sm_getR (pc' := 13) d_Re_takeThingName_10 rfl fl_Re_230 rfl rfl (fun v3 => ?_)
  refine sm_aload_n (i := 2) (j := 3) (pc' := 14) d_Re_takeThingName_13 rfl rfl rfl ?_
  refine sm_getI (pc' := 17) d_Re_takeThingName_14 rfl fl_Re_186 rfl ⟨by decide, by decide⟩ (fun v4 => ?_)
  refine sm_iconst (pc' := 18) d_Re_takeThingName_17 rfl ic_1 (sm_isub (pc' := 19) d_Re_takeThingName_18 rfl (sm_iload_n (i := 3) (j := 0) (pc' := 20) d_Re_takeThingName_19 rfl rfl rfl (sm_iast (pc' := 21) d_Re_takeThingName_20 rfl (sm_aload_n (i := 0) (j := 1) (pc' := 22) d_Re_takeThingName_21 rfl rfl rfl (sm_iload_n (i := 3) (j := 0) (pc' := 23) d_Re_takeThingName_22 rfl rfl rfl (sm_iconst (pc' := 24) d_Re_takeThingName_23 rfl ic_m1 ?_))))))
  refine sm_bd (mid := fun (t5 : Int32) => .inl (32, [], [.inl t5, .inr (.inr x0)])) ?_ (fun t5 => ?_)
  · refine sm_icmp_eq (tgt := 31) (pc' := 27) d_Re_takeThingName_24 rfl rfl ?_ ?_
    · refine sm_iconst (pc' := 32) d_Re_takeThingName_31 rfl ic_0 (sm_sub [] rfl ?_)
      exact sm_rt rfl
    · refine sm_iconst (pc' := 28) d_Re_takeThingName_27 rfl ic_1 (sm_goto (tgt := 32) d_Re_takeThingName_28 rfl (sm_sub [] rfl ?_))
      exact sm_rt rfl
  · refine sm_callVi (ci := 2) (x := x0) (av := [.inl t5]) (st := []) (mc := 0) (ms := 0) (pc' := 35) d_Re_takeThingName_32 rfl (sd_Tx_takeName x0 t5) m_lv rfl cv_Tx_takeName w_ml_Re_119 rfl rfl (by decide) (Nat.le_of_ble_eq_true rfl) rfl rfl (fun v6 => ?_)
    exact sm_zretC d_Re_takeThingName_35 rfl rfl
theorem d_Re_takeRest_0 : m_D k_Re_takeRest 0 (.aload_n 2) 1 := (by decide +kernel : decode prog_8_method_15_code 0 = .ok (.aload_n 2, 1))
theorem d_Re_takeRest_1 : m_D k_Re_takeRest 1 (.getfield 203) 3 := (by decide +kernel : decode prog_8_method_15_code 1 = .ok (.getfield 203, 3))
theorem d_Re_takeRest_4 : m_D k_Re_takeRest 4 (.aload_n 2) 1 := (by decide +kernel : decode prog_8_method_15_code 4 = .ok (.aload_n 2, 1))
theorem d_Re_takeRest_5 : m_D k_Re_takeRest 5 (.getfield 186) 3 := (by decide +kernel : decode prog_8_method_15_code 5 = .ok (.getfield 186, 3))
theorem d_Re_takeRest_8 : m_D k_Re_takeRest 8 (.iconst 1) 1 := (by decide +kernel : decode prog_8_method_15_code 8 = .ok (.iconst 1, 1))
theorem d_Re_takeRest_9 : m_D k_Re_takeRest 9 (.isub) 1 := (by decide +kernel : decode prog_8_method_15_code 9 = .ok (.isub, 1))
theorem d_Re_takeRest_10 : m_D k_Re_takeRest 10 (.iaload) 1 := (by decide +kernel : decode prog_8_method_15_code 10 = .ok (.iaload, 1))
theorem d_Re_takeRest_11 : m_D k_Re_takeRest 11 (.tableswitch 144 0 8 #[49, 76, 109, 58, 83, 76, 144, 144, 67]) 49 := (by decide +kernel : decode prog_8_method_15_code 11 = .ok (.tableswitch 144 0 8 #[49, 76, 109, 58, 83, 76, 144, 144, 67], 49))
theorem d_Re_takeRest_60 : m_D k_Re_takeRest 60 (.aload_n 0) 1 := (by decide +kernel : decode prog_8_method_15_code 60 = .ok (.aload_n 0, 1))
theorem d_Re_takeRest_61 : m_D k_Re_takeRest 61 (.aload_n 2) 1 := (by decide +kernel : decode prog_8_method_15_code 61 = .ok (.aload_n 2, 1))
theorem d_Re_takeRest_62 : m_D k_Re_takeRest 62 (.iconst 1) 1 := (by decide +kernel : decode prog_8_method_15_code 62 = .ok (.iconst 1, 1))
theorem d_Re_takeRest_63 : m_D k_Re_takeRest 63 (.bipush 20) 2 := (by decide +kernel : decode prog_8_method_15_code 63 = .ok (.bipush 20, 2))
theorem d_Re_takeRest_65 : m_D k_Re_takeRest 65 (.invokestatic 205) 3 := (by decide +kernel : decode prog_8_method_15_code 65 = .ok (.invokestatic 205, 3))
theorem d_Re_takeRest_68 : m_D k_Re_takeRest 68 (.ireturn) 1 := (by decide +kernel : decode prog_8_method_15_code 68 = .ok (.ireturn, 1))
theorem d_Re_takeRest_69 : m_D k_Re_takeRest 69 (.aload_n 0) 1 := (by decide +kernel : decode prog_8_method_15_code 69 = .ok (.aload_n 0, 1))
theorem d_Re_takeRest_70 : m_D k_Re_takeRest 70 (.aload_n 2) 1 := (by decide +kernel : decode prog_8_method_15_code 70 = .ok (.aload_n 2, 1))
theorem d_Re_takeRest_71 : m_D k_Re_takeRest 71 (.iconst 0) 1 := (by decide +kernel : decode prog_8_method_15_code 71 = .ok (.iconst 0, 1))
theorem d_Re_takeRest_72 : m_D k_Re_takeRest 72 (.bipush 9) 2 := (by decide +kernel : decode prog_8_method_15_code 72 = .ok (.bipush 9, 2))
theorem d_Re_takeRest_74 : m_D k_Re_takeRest 74 (.invokestatic 205) 3 := (by decide +kernel : decode prog_8_method_15_code 74 = .ok (.invokestatic 205, 3))
theorem d_Re_takeRest_77 : m_D k_Re_takeRest 77 (.ireturn) 1 := (by decide +kernel : decode prog_8_method_15_code 77 = .ok (.ireturn, 1))
theorem d_Re_takeRest_78 : m_D k_Re_takeRest 78 (.aload_n 0) 1 := (by decide +kernel : decode prog_8_method_15_code 78 = .ok (.aload_n 0, 1))
theorem d_Re_takeRest_79 : m_D k_Re_takeRest 79 (.aload_n 2) 1 := (by decide +kernel : decode prog_8_method_15_code 79 = .ok (.aload_n 2, 1))
theorem d_Re_takeRest_80 : m_D k_Re_takeRest 80 (.iconst 1) 1 := (by decide +kernel : decode prog_8_method_15_code 80 = .ok (.iconst 1, 1))
theorem d_Re_takeRest_81 : m_D k_Re_takeRest 81 (.bipush 99) 2 := (by decide +kernel : decode prog_8_method_15_code 81 = .ok (.bipush 99, 2))
theorem d_Re_takeRest_83 : m_D k_Re_takeRest 83 (.invokestatic 205) 3 := (by decide +kernel : decode prog_8_method_15_code 83 = .ok (.invokestatic 205, 3))
theorem d_Re_takeRest_86 : m_D k_Re_takeRest 86 (.ireturn) 1 := (by decide +kernel : decode prog_8_method_15_code 86 = .ok (.ireturn, 1))
theorem d_Re_takeRest_87 : m_D k_Re_takeRest 87 (.aload_n 0) 1 := (by decide +kernel : decode prog_8_method_15_code 87 = .ok (.aload_n 0, 1))
theorem d_Re_takeRest_88 : m_D k_Re_takeRest 88 (.aload_n 1) 1 := (by decide +kernel : decode prog_8_method_15_code 88 = .ok (.aload_n 1, 1))
theorem d_Re_takeRest_89 : m_D k_Re_takeRest 89 (.aload_n 2) 1 := (by decide +kernel : decode prog_8_method_15_code 89 = .ok (.aload_n 2, 1))
theorem d_Re_takeRest_90 : m_D k_Re_takeRest 90 (.invokestatic 209) 3 := (by decide +kernel : decode prog_8_method_15_code 90 = .ok (.invokestatic 209, 3))
theorem d_Re_takeRest_93 : m_D k_Re_takeRest 93 (.ireturn) 1 := (by decide +kernel : decode prog_8_method_15_code 93 = .ok (.ireturn, 1))
theorem d_Re_takeRest_94 : m_D k_Re_takeRest 94 (.aload_n 0) 1 := (by decide +kernel : decode prog_8_method_15_code 94 = .ok (.aload_n 0, 1))
theorem d_Re_takeRest_95 : m_D k_Re_takeRest 95 (.aload_n 1) 1 := (by decide +kernel : decode prog_8_method_15_code 95 = .ok (.aload_n 1, 1))
theorem d_Re_takeRest_96 : m_D k_Re_takeRest 96 (.aload_n 2) 1 := (by decide +kernel : decode prog_8_method_15_code 96 = .ok (.aload_n 2, 1))
theorem d_Re_takeRest_97 : m_D k_Re_takeRest 97 (.invokestatic 209) 3 := (by decide +kernel : decode prog_8_method_15_code 97 = .ok (.invokestatic 209, 3))
theorem d_Re_takeRest_100 : m_D k_Re_takeRest 100 (.ifCond .eq 18) 3 := (by decide +kernel : decode prog_8_method_15_code 100 = .ok (.ifCond .eq 18, 3))
theorem d_Re_takeRest_103 : m_D k_Re_takeRest 103 (.aload_n 0) 1 := (by decide +kernel : decode prog_8_method_15_code 103 = .ok (.aload_n 0, 1))
theorem d_Re_takeRest_104 : m_D k_Re_takeRest 104 (.aload_n 2) 1 := (by decide +kernel : decode prog_8_method_15_code 104 = .ok (.aload_n 2, 1))
theorem d_Re_takeRest_105 : m_D k_Re_takeRest 105 (.iconst 1) 1 := (by decide +kernel : decode prog_8_method_15_code 105 = .ok (.iconst 1, 1))
theorem d_Re_takeRest_106 : m_D k_Re_takeRest 106 (.bipush 99) 2 := (by decide +kernel : decode prog_8_method_15_code 106 = .ok (.bipush 99, 2))
theorem d_Re_takeRest_108 : m_D k_Re_takeRest 108 (.invokestatic 205) 3 := (by decide +kernel : decode prog_8_method_15_code 108 = .ok (.invokestatic 205, 3))
theorem d_Re_takeRest_111 : m_D k_Re_takeRest 111 (.ifCond .eq 7) 3 := (by decide +kernel : decode prog_8_method_15_code 111 = .ok (.ifCond .eq 7, 3))
theorem d_Re_takeRest_114 : m_D k_Re_takeRest 114 (.iconst 1) 1 := (by decide +kernel : decode prog_8_method_15_code 114 = .ok (.iconst 1, 1))
theorem d_Re_takeRest_115 : m_D k_Re_takeRest 115 (.goto 4) 3 := (by decide +kernel : decode prog_8_method_15_code 115 = .ok (.goto 4, 3))
theorem d_Re_takeRest_118 : m_D k_Re_takeRest 118 (.iconst 0) 1 := (by decide +kernel : decode prog_8_method_15_code 118 = .ok (.iconst 0, 1))
theorem d_Re_takeRest_119 : m_D k_Re_takeRest 119 (.ireturn) 1 := (by decide +kernel : decode prog_8_method_15_code 119 = .ok (.ireturn, 1))
theorem d_Re_takeRest_120 : m_D k_Re_takeRest 120 (.aload_n 0) 1 := (by decide +kernel : decode prog_8_method_15_code 120 = .ok (.aload_n 0, 1))
theorem d_Re_takeRest_121 : m_D k_Re_takeRest 121 (.aload_n 1) 1 := (by decide +kernel : decode prog_8_method_15_code 121 = .ok (.aload_n 1, 1))
theorem d_Re_takeRest_122 : m_D k_Re_takeRest 122 (.aload_n 2) 1 := (by decide +kernel : decode prog_8_method_15_code 122 = .ok (.aload_n 2, 1))
theorem d_Re_takeRest_123 : m_D k_Re_takeRest 123 (.invokestatic 212) 3 := (by decide +kernel : decode prog_8_method_15_code 123 = .ok (.invokestatic 212, 3))
theorem d_Re_takeRest_126 : m_D k_Re_takeRest 126 (.ifCond .eq 27) 3 := (by decide +kernel : decode prog_8_method_15_code 126 = .ok (.ifCond .eq 27, 3))
theorem d_Re_takeRest_129 : m_D k_Re_takeRest 129 (.aload_n 0) 1 := (by decide +kernel : decode prog_8_method_15_code 129 = .ok (.aload_n 0, 1))
theorem d_Re_takeRest_130 : m_D k_Re_takeRest 130 (.aload_n 1) 1 := (by decide +kernel : decode prog_8_method_15_code 130 = .ok (.aload_n 1, 1))
theorem d_Re_takeRest_131 : m_D k_Re_takeRest 131 (.aload_n 2) 1 := (by decide +kernel : decode prog_8_method_15_code 131 = .ok (.aload_n 2, 1))
theorem d_Re_takeRest_132 : m_D k_Re_takeRest 132 (.invokestatic 209) 3 := (by decide +kernel : decode prog_8_method_15_code 132 = .ok (.invokestatic 209, 3))
theorem d_Re_takeRest_135 : m_D k_Re_takeRest 135 (.ifCond .eq 18) 3 := (by decide +kernel : decode prog_8_method_15_code 135 = .ok (.ifCond .eq 18, 3))
theorem d_Re_takeRest_138 : m_D k_Re_takeRest 138 (.aload_n 0) 1 := (by decide +kernel : decode prog_8_method_15_code 138 = .ok (.aload_n 0, 1))
theorem d_Re_takeRest_139 : m_D k_Re_takeRest 139 (.aload_n 2) 1 := (by decide +kernel : decode prog_8_method_15_code 139 = .ok (.aload_n 2, 1))
theorem d_Re_takeRest_140 : m_D k_Re_takeRest 140 (.iconst 0) 1 := (by decide +kernel : decode prog_8_method_15_code 140 = .ok (.iconst 0, 1))
theorem d_Re_takeRest_141 : m_D k_Re_takeRest 141 (.bipush 9) 2 := (by decide +kernel : decode prog_8_method_15_code 141 = .ok (.bipush 9, 2))
theorem d_Re_takeRest_143 : m_D k_Re_takeRest 143 (.invokestatic 205) 3 := (by decide +kernel : decode prog_8_method_15_code 143 = .ok (.invokestatic 205, 3))
theorem d_Re_takeRest_146 : m_D k_Re_takeRest 146 (.ifCond .eq 7) 3 := (by decide +kernel : decode prog_8_method_15_code 146 = .ok (.ifCond .eq 7, 3))
theorem d_Re_takeRest_149 : m_D k_Re_takeRest 149 (.iconst 1) 1 := (by decide +kernel : decode prog_8_method_15_code 149 = .ok (.iconst 1, 1))
theorem d_Re_takeRest_150 : m_D k_Re_takeRest 150 (.goto 4) 3 := (by decide +kernel : decode prog_8_method_15_code 150 = .ok (.goto 4, 3))
theorem d_Re_takeRest_153 : m_D k_Re_takeRest 153 (.iconst 0) 1 := (by decide +kernel : decode prog_8_method_15_code 153 = .ok (.iconst 0, 1))
theorem d_Re_takeRest_154 : m_D k_Re_takeRest 154 (.ireturn) 1 := (by decide +kernel : decode prog_8_method_15_code 154 = .ok (.ireturn, 1))
theorem d_Re_takeRest_155 : m_D k_Re_takeRest 155 (.iconst 1) 1 := (by decide +kernel : decode prog_8_method_15_code 155 = .ok (.iconst 1, 1))
theorem d_Re_takeRest_156 : m_D k_Re_takeRest 156 (.ireturn) 1 := (by decide +kernel : decode prog_8_method_15_code 156 = .ok (.ireturn, 1))
def fn_Re_takeRest (x0 : Option mA) (x1 : Option mA) (x2 : Option mA) : mP Int32 :=
  m_bd (m_gR 6 2 x2) fun v1 =>
  m_bd (m_gI 6 1 x2) fun v2 =>
  m_bd (m_aI 0 v1 (v2 - 1)) fun v3 =>
  if v3 = 0 then
    m_bd (fn_Re_takeMuch x0 x2 1 20) fun v4 =>
    m_bd (m_cz v4) fun _ => m_rt v4
  else if v3 = 1 then
    m_bd (fn_Re_takeThingName x0 x1 x2) fun v5 =>
    m_bd (m_cz v5) fun _ => m_rt v5
  else if v3 = 2 then
    m_bd (fn_Re_takePersonName x0 x1 x2) fun v6 =>
    if v6 = 0 then
      m_rt 0
    else
      m_bd (fn_Re_takeThingName x0 x1 x2) fun v7 =>
      if v7 = 0 then
        m_rt 0
      else
        m_bd (fn_Re_takeMuch x0 x2 0 9) fun v8 =>
        if v8 = 0 then
          m_rt 0
        else
          m_rt 1
  else if v3 = 3 then
    m_bd (fn_Re_takeMuch x0 x2 0 9) fun v9 =>
    m_bd (m_cz v9) fun _ => m_rt v9
  else if v3 = 4 then
    m_bd (fn_Re_takeThingName x0 x1 x2) fun v10 =>
    if v10 = 0 then
      m_rt 0
    else
      m_bd (fn_Re_takeMuch x0 x2 1 99) fun v11 =>
      if v11 = 0 then
        m_rt 0
      else
        m_rt 1
  else if v3 = 5 then
    m_bd (fn_Re_takeThingName x0 x1 x2) fun v12 =>
    m_bd (m_cz v12) fun _ => m_rt v12
  else if v3 = 8 then
    m_bd (fn_Re_takeMuch x0 x2 1 99) fun v13 =>
    m_bd (m_cz v13) fun _ => m_rt v13
  else
    m_rt 1
set_option maxHeartbeats 4000000 in
set_option maxRecDepth 100000 in
theorem sd_Re_takeRest (x0 : Option mA) (x1 : Option mA) (x2 : Option mA) : m_Sm k_Re_takeRest 10 0 0 [.inr (.inr x0), .inr (.inr x1), .inr (.inr x2)] (fn_Re_takeRest x0 x1 x2) (fun b => some (.inl b)) := by
  refine ⟨Nat.le_of_ble_eq_true rfl, ?_⟩
  refine sm_aload_n (i := 2) (j := 2) (pc' := 1) d_Re_takeRest_0 rfl rfl rfl ?_
  refine sm_getR (pc' := 4) d_Re_takeRest_1 rfl fl_Re_203 rfl rfl (fun v1 => ?_)
  refine sm_aload_n (i := 2) (j := 2) (pc' := 5) d_Re_takeRest_4 rfl rfl rfl ?_
  refine sm_getI (pc' := 8) d_Re_takeRest_5 rfl fl_Re_186 rfl ⟨by decide, by decide⟩ (fun v2 => ?_)
  refine sm_iconst (pc' := 9) d_Re_takeRest_8 rfl ic_1 (sm_isub (pc' := 10) d_Re_takeRest_9 rfl ?_)
  refine sm_iald (pc' := 11) d_Re_takeRest_10 rfl (fun v3 => ?_)
  refine sm_ite (fun hs11_0 => ?_) (fun hs11_0 => ?_)
  · refine sm_tabIn (off := 49) (tgt := 60) d_Re_takeRest_11 (by rw [hs11_0]; decide) (by rw [hs11_0]; decide) (by rw [hs11_0]; rfl) rfl ?_
    refine sm_aload_n (i := 0) (j := 0) (pc' := 61) d_Re_takeRest_60 rfl rfl rfl (sm_aload_n (i := 2) (j := 2) (pc' := 62) d_Re_takeRest_61 rfl rfl rfl (sm_iconst (pc' := 63) d_Re_takeRest_62 rfl ic_1 (sm_bipush (pc' := 65) d_Re_takeRest_63 rfl ib_20 ?_)))
    refine sm_callSi (av := [.inr (.inr x0), .inr (.inr x2), .inl 1, .inl 20]) (st := []) (mc := 0) (ms := 0) (pc' := 68) d_Re_takeRest_65 rfl (sd_Re_takeMuch x0 x2 1 20) cs_Re_takeMuch w_ml_Re_205 rfl rfl (by decide) (Nat.le_of_ble_eq_true rfl) rfl rfl (fun v4 => ?_)
    exact sm_zretC d_Re_takeRest_68 rfl rfl
  refine sm_ite (fun hs11_1 => ?_) (fun hs11_1 => ?_)
  · refine sm_tabIn (off := 76) (tgt := 87) d_Re_takeRest_11 (by rw [hs11_1]; decide) (by rw [hs11_1]; decide) (by rw [hs11_1]; rfl) rfl ?_
    refine sm_aload_n (i := 0) (j := 0) (pc' := 88) d_Re_takeRest_87 rfl rfl rfl (sm_aload_n (i := 1) (j := 1) (pc' := 89) d_Re_takeRest_88 rfl rfl rfl (sm_aload_n (i := 2) (j := 2) (pc' := 90) d_Re_takeRest_89 rfl rfl rfl ?_))
    refine sm_callSi (av := [.inr (.inr x0), .inr (.inr x1), .inr (.inr x2)]) (st := []) (mc := 0) (ms := 0) (pc' := 93) d_Re_takeRest_90 rfl (sd_Re_takeThingName x0 x1 x2) cs_Re_takeThingName w_ml_Re_209 rfl rfl (by decide) (Nat.le_of_ble_eq_true rfl) rfl rfl (fun v5 => ?_)
    exact sm_zretC d_Re_takeRest_93 rfl rfl
  refine sm_ite (fun hs11_2 => ?_) (fun hs11_2 => ?_)
  · refine sm_tabIn (off := 109) (tgt := 120) d_Re_takeRest_11 (by rw [hs11_2]; decide) (by rw [hs11_2]; decide) (by rw [hs11_2]; rfl) rfl ?_
    refine sm_aload_n (i := 0) (j := 0) (pc' := 121) d_Re_takeRest_120 rfl rfl rfl (sm_aload_n (i := 1) (j := 1) (pc' := 122) d_Re_takeRest_121 rfl rfl rfl (sm_aload_n (i := 2) (j := 2) (pc' := 123) d_Re_takeRest_122 rfl rfl rfl ?_))
    refine sm_callSi (av := [.inr (.inr x0), .inr (.inr x1), .inr (.inr x2)]) (st := []) (mc := 0) (ms := 0) (pc' := 126) d_Re_takeRest_123 rfl (sd_Re_takePersonName x0 x1 x2) cs_Re_takePersonName w_ml_Re_212 rfl rfl (by decide) (Nat.le_of_ble_eq_true rfl) rfl rfl (fun v6 => ?_)
    refine sm_if_eq (tgt := 153) (pc' := 129) d_Re_takeRest_126 rfl rfl ?_ ?_
    · refine sm_iconst (pc' := 154) d_Re_takeRest_153 rfl ic_0 ?_
      exact sm_zreturn d_Re_takeRest_154 rfl (by decide) rfl
    · refine sm_aload_n (i := 0) (j := 0) (pc' := 130) d_Re_takeRest_129 rfl rfl rfl (sm_aload_n (i := 1) (j := 1) (pc' := 131) d_Re_takeRest_130 rfl rfl rfl (sm_aload_n (i := 2) (j := 2) (pc' := 132) d_Re_takeRest_131 rfl rfl rfl ?_))
      refine sm_callSi (av := [.inr (.inr x0), .inr (.inr x1), .inr (.inr x2)]) (st := []) (mc := 0) (ms := 0) (pc' := 135) d_Re_takeRest_132 rfl (sd_Re_takeThingName x0 x1 x2) cs_Re_takeThingName w_ml_Re_209 rfl rfl (by decide) (Nat.le_of_ble_eq_true rfl) rfl rfl (fun v7 => ?_)
      refine sm_if_eq (tgt := 153) (pc' := 138) d_Re_takeRest_135 rfl rfl ?_ ?_
      · refine sm_iconst (pc' := 154) d_Re_takeRest_153 rfl ic_0 ?_
        exact sm_zreturn d_Re_takeRest_154 rfl (by decide) rfl
      · refine sm_aload_n (i := 0) (j := 0) (pc' := 139) d_Re_takeRest_138 rfl rfl rfl (sm_aload_n (i := 2) (j := 2) (pc' := 140) d_Re_takeRest_139 rfl rfl rfl (sm_iconst (pc' := 141) d_Re_takeRest_140 rfl ic_0 (sm_bipush (pc' := 143) d_Re_takeRest_141 rfl ib_9 ?_)))
        refine sm_callSi (av := [.inr (.inr x0), .inr (.inr x2), .inl 0, .inl 9]) (st := []) (mc := 0) (ms := 0) (pc' := 146) d_Re_takeRest_143 rfl (sd_Re_takeMuch x0 x2 0 9) cs_Re_takeMuch w_ml_Re_205 rfl rfl (by decide) (Nat.le_of_ble_eq_true rfl) rfl rfl (fun v8 => ?_)
        refine sm_if_eq (tgt := 153) (pc' := 149) d_Re_takeRest_146 rfl rfl ?_ ?_
        · refine sm_iconst (pc' := 154) d_Re_takeRest_153 rfl ic_0 ?_
          exact sm_zreturn d_Re_takeRest_154 rfl (by decide) rfl
        · refine sm_iconst (pc' := 150) d_Re_takeRest_149 rfl ic_1 (sm_goto (tgt := 154) d_Re_takeRest_150 rfl ?_)
          exact sm_zreturn d_Re_takeRest_154 rfl (by decide) rfl
  refine sm_ite (fun hs11_3 => ?_) (fun hs11_3 => ?_)
  · refine sm_tabIn (off := 58) (tgt := 69) d_Re_takeRest_11 (by rw [hs11_3]; decide) (by rw [hs11_3]; decide) (by rw [hs11_3]; rfl) rfl ?_
    refine sm_aload_n (i := 0) (j := 0) (pc' := 70) d_Re_takeRest_69 rfl rfl rfl (sm_aload_n (i := 2) (j := 2) (pc' := 71) d_Re_takeRest_70 rfl rfl rfl (sm_iconst (pc' := 72) d_Re_takeRest_71 rfl ic_0 (sm_bipush (pc' := 74) d_Re_takeRest_72 rfl ib_9 ?_)))
    refine sm_callSi (av := [.inr (.inr x0), .inr (.inr x2), .inl 0, .inl 9]) (st := []) (mc := 0) (ms := 0) (pc' := 77) d_Re_takeRest_74 rfl (sd_Re_takeMuch x0 x2 0 9) cs_Re_takeMuch w_ml_Re_205 rfl rfl (by decide) (Nat.le_of_ble_eq_true rfl) rfl rfl (fun v9 => ?_)
    exact sm_zretC d_Re_takeRest_77 rfl rfl
  refine sm_ite (fun hs11_4 => ?_) (fun hs11_4 => ?_)
  · refine sm_tabIn (off := 83) (tgt := 94) d_Re_takeRest_11 (by rw [hs11_4]; decide) (by rw [hs11_4]; decide) (by rw [hs11_4]; rfl) rfl ?_
    refine sm_aload_n (i := 0) (j := 0) (pc' := 95) d_Re_takeRest_94 rfl rfl rfl (sm_aload_n (i := 1) (j := 1) (pc' := 96) d_Re_takeRest_95 rfl rfl rfl (sm_aload_n (i := 2) (j := 2) (pc' := 97) d_Re_takeRest_96 rfl rfl rfl ?_))
    refine sm_callSi (av := [.inr (.inr x0), .inr (.inr x1), .inr (.inr x2)]) (st := []) (mc := 0) (ms := 0) (pc' := 100) d_Re_takeRest_97 rfl (sd_Re_takeThingName x0 x1 x2) cs_Re_takeThingName w_ml_Re_209 rfl rfl (by decide) (Nat.le_of_ble_eq_true rfl) rfl rfl (fun v10 => ?_)
    refine sm_if_eq (tgt := 118) (pc' := 103) d_Re_takeRest_100 rfl rfl ?_ ?_
    · refine sm_iconst (pc' := 119) d_Re_takeRest_118 rfl ic_0 ?_
      exact sm_zreturn d_Re_takeRest_119 rfl (by decide) rfl
    · refine sm_aload_n (i := 0) (j := 0) (pc' := 104) d_Re_takeRest_103 rfl rfl rfl (sm_aload_n (i := 2) (j := 2) (pc' := 105) d_Re_takeRest_104 rfl rfl rfl (sm_iconst (pc' := 106) d_Re_takeRest_105 rfl ic_1 (sm_bipush (pc' := 108) d_Re_takeRest_106 rfl ib_99 ?_)))
      refine sm_callSi (av := [.inr (.inr x0), .inr (.inr x2), .inl 1, .inl 99]) (st := []) (mc := 0) (ms := 0) (pc' := 111) d_Re_takeRest_108 rfl (sd_Re_takeMuch x0 x2 1 99) cs_Re_takeMuch w_ml_Re_205 rfl rfl (by decide) (Nat.le_of_ble_eq_true rfl) rfl rfl (fun v11 => ?_)
      refine sm_if_eq (tgt := 118) (pc' := 114) d_Re_takeRest_111 rfl rfl ?_ ?_
      · refine sm_iconst (pc' := 119) d_Re_takeRest_118 rfl ic_0 ?_
        exact sm_zreturn d_Re_takeRest_119 rfl (by decide) rfl
      · refine sm_iconst (pc' := 115) d_Re_takeRest_114 rfl ic_1 (sm_goto (tgt := 119) d_Re_takeRest_115 rfl ?_)
        exact sm_zreturn d_Re_takeRest_119 rfl (by decide) rfl
  refine sm_ite (fun hs11_5 => ?_) (fun hs11_5 => ?_)
  · refine sm_tabIn (off := 76) (tgt := 87) d_Re_takeRest_11 (by rw [hs11_5]; decide) (by rw [hs11_5]; decide) (by rw [hs11_5]; rfl) rfl ?_
    refine sm_aload_n (i := 0) (j := 0) (pc' := 88) d_Re_takeRest_87 rfl rfl rfl (sm_aload_n (i := 1) (j := 1) (pc' := 89) d_Re_takeRest_88 rfl rfl rfl (sm_aload_n (i := 2) (j := 2) (pc' := 90) d_Re_takeRest_89 rfl rfl rfl ?_))
    refine sm_callSi (av := [.inr (.inr x0), .inr (.inr x1), .inr (.inr x2)]) (st := []) (mc := 0) (ms := 0) (pc' := 93) d_Re_takeRest_90 rfl (sd_Re_takeThingName x0 x1 x2) cs_Re_takeThingName w_ml_Re_209 rfl rfl (by decide) (Nat.le_of_ble_eq_true rfl) rfl rfl (fun v12 => ?_)
    exact sm_zretC d_Re_takeRest_93 rfl rfl
  refine sm_ite (fun hs11_8 => ?_) (fun hs11_8 => ?_)
  · refine sm_tabIn (off := 67) (tgt := 78) d_Re_takeRest_11 (by rw [hs11_8]; decide) (by rw [hs11_8]; decide) (by rw [hs11_8]; rfl) rfl ?_
    refine sm_aload_n (i := 0) (j := 0) (pc' := 79) d_Re_takeRest_78 rfl rfl rfl (sm_aload_n (i := 2) (j := 2) (pc' := 80) d_Re_takeRest_79 rfl rfl rfl (sm_iconst (pc' := 81) d_Re_takeRest_80 rfl ic_1 (sm_bipush (pc' := 83) d_Re_takeRest_81 rfl ib_99 ?_)))
    refine sm_callSi (av := [.inr (.inr x0), .inr (.inr x2), .inl 1, .inl 99]) (st := []) (mc := 0) (ms := 0) (pc' := 86) d_Re_takeRest_83 rfl (sd_Re_takeMuch x0 x2 1 99) cs_Re_takeMuch w_ml_Re_205 rfl rfl (by decide) (Nat.le_of_ble_eq_true rfl) rfl rfl (fun v13 => ?_)
    exact sm_zretC d_Re_takeRest_86 rfl rfl
  by_cases hg11_6 : v3 = 6
  · refine sm_tabIn (off := 144) (tgt := 155) d_Re_takeRest_11 (by rw [hg11_6]; decide) (by rw [hg11_6]; decide) (by rw [hg11_6]; rfl) rfl ?_
    refine sm_iconst (pc' := 156) d_Re_takeRest_155 rfl ic_1 ?_
    exact sm_zreturn d_Re_takeRest_156 rfl (by decide) rfl
  by_cases hg11_7 : v3 = 7
  · refine sm_tabIn (off := 144) (tgt := 155) d_Re_takeRest_11 (by rw [hg11_7]; decide) (by rw [hg11_7]; decide) (by rw [hg11_7]; rfl) rfl ?_
    refine sm_iconst (pc' := 156) d_Re_takeRest_155 rfl ic_1 ?_
    exact sm_zreturn d_Re_takeRest_156 rfl (by decide) rfl
  refine sm_tabOut (tgt := 155) d_Re_takeRest_11 (by have z0 : (v3).toInt ≠ 0 := fun e => hs11_0 (Int32.toInt_inj.mp (by rw [e]; rfl)); have z1 : (v3).toInt ≠ 1 := fun e => hs11_1 (Int32.toInt_inj.mp (by rw [e]; rfl)); have z2 : (v3).toInt ≠ 2 := fun e => hs11_2 (Int32.toInt_inj.mp (by rw [e]; rfl)); have z3 : (v3).toInt ≠ 3 := fun e => hs11_3 (Int32.toInt_inj.mp (by rw [e]; rfl)); have z4 : (v3).toInt ≠ 4 := fun e => hs11_4 (Int32.toInt_inj.mp (by rw [e]; rfl)); have z5 : (v3).toInt ≠ 5 := fun e => hs11_5 (Int32.toInt_inj.mp (by rw [e]; rfl)); have z6 : (v3).toInt ≠ 8 := fun e => hs11_8 (Int32.toInt_inj.mp (by rw [e]; rfl)); have z7 : (v3).toInt ≠ 6 := fun e => hg11_6 (Int32.toInt_inj.mp (by rw [e]; rfl)); have z8 : (v3).toInt ≠ 7 := fun e => hg11_7 (Int32.toInt_inj.mp (by rw [e]; rfl)); omega) rfl ?_
  refine sm_iconst (pc' := 156) d_Re_takeRest_155 rfl ic_1 ?_
  exact sm_zreturn d_Re_takeRest_156 rfl (by decide) rfl
theorem d_Re_takeCompares_0 : m_D k_Re_takeCompares 0 (.aload_n 0) 1 := (by decide +kernel : decode prog_8_method_17_code 0 = .ok (.aload_n 0, 1))
theorem d_Re_takeCompares_1 : m_D k_Re_takeCompares 1 (.getfield 15) 3 := (by decide +kernel : decode prog_8_method_17_code 1 = .ok (.getfield 15, 3))
theorem d_Re_takeCompares_4 : m_D k_Re_takeCompares 4 (.iconst 3) 1 := (by decide +kernel : decode prog_8_method_17_code 4 = .ok (.iconst 3, 1))
theorem d_Re_takeCompares_5 : m_D k_Re_takeCompares 5 (.if_icmp .ne 12) 3 := (by decide +kernel : decode prog_8_method_17_code 5 = .ok (.if_icmp .ne 12, 3))
theorem d_Re_takeCompares_8 : m_D k_Re_takeCompares 8 (.aload_n 0) 1 := (by decide +kernel : decode prog_8_method_17_code 8 = .ok (.aload_n 0, 1))
theorem d_Re_takeCompares_9 : m_D k_Re_takeCompares 9 (.getfield 222) 3 := (by decide +kernel : decode prog_8_method_17_code 9 = .ok (.getfield 222, 3))
theorem d_Re_takeCompares_12 : m_D k_Re_takeCompares 12 (.bipush 59) 2 := (by decide +kernel : decode prog_8_method_17_code 12 = .ok (.bipush 59, 2))
theorem d_Re_takeCompares_14 : m_D k_Re_takeCompares 14 (.if_icmp .ne 9) 3 := (by decide +kernel : decode prog_8_method_17_code 14 = .ok (.if_icmp .ne 9, 3))
theorem d_Re_takeCompares_17 : m_D k_Re_takeCompares 17 (.aload_n 0) 1 := (by decide +kernel : decode prog_8_method_17_code 17 = .ok (.aload_n 0, 1))
theorem d_Re_takeCompares_18 : m_D k_Re_takeCompares 18 (.iconst 2) 1 := (by decide +kernel : decode prog_8_method_17_code 18 = .ok (.iconst 2, 1))
theorem d_Re_takeCompares_19 : m_D k_Re_takeCompares 19 (.invokevirtual 89) 3 := (by decide +kernel : decode prog_8_method_17_code 19 = .ok (.invokevirtual 89, 3))
theorem d_Re_takeCompares_22 : m_D k_Re_takeCompares 22 (.ireturn) 1 := (by decide +kernel : decode prog_8_method_17_code 22 = .ok (.ireturn, 1))
theorem d_Re_takeCompares_23 : m_D k_Re_takeCompares 23 (.aload_n 1) 1 := (by decide +kernel : decode prog_8_method_17_code 23 = .ok (.aload_n 1, 1))
theorem d_Re_takeCompares_24 : m_D k_Re_takeCompares 24 (.getfield 203) 3 := (by decide +kernel : decode prog_8_method_17_code 24 = .ok (.getfield 203, 3))
theorem d_Re_takeCompares_27 : m_D k_Re_takeCompares 27 (.aload_n 1) 1 := (by decide +kernel : decode prog_8_method_17_code 27 = .ok (.aload_n 1, 1))
theorem d_Re_takeCompares_28 : m_D k_Re_takeCompares 28 (.getfield 186) 3 := (by decide +kernel : decode prog_8_method_17_code 28 = .ok (.getfield 186, 3))
theorem d_Re_takeCompares_31 : m_D k_Re_takeCompares 31 (.iconst 1) 1 := (by decide +kernel : decode prog_8_method_17_code 31 = .ok (.iconst 1, 1))
theorem d_Re_takeCompares_32 : m_D k_Re_takeCompares 32 (.isub) 1 := (by decide +kernel : decode prog_8_method_17_code 32 = .ok (.isub, 1))
theorem d_Re_takeCompares_33 : m_D k_Re_takeCompares 33 (.aload_n 0) 1 := (by decide +kernel : decode prog_8_method_17_code 33 = .ok (.aload_n 0, 1))
theorem d_Re_takeCompares_34 : m_D k_Re_takeCompares 34 (.getfield 222) 3 := (by decide +kernel : decode prog_8_method_17_code 34 = .ok (.getfield 222, 3))
theorem d_Re_takeCompares_37 : m_D k_Re_takeCompares 37 (.bipush 60) 2 := (by decide +kernel : decode prog_8_method_17_code 37 = .ok (.bipush 60, 2))
theorem d_Re_takeCompares_39 : m_D k_Re_takeCompares 39 (.if_icmp .ne 8) 3 := (by decide +kernel : decode prog_8_method_17_code 39 = .ok (.if_icmp .ne 8, 3))
theorem d_Re_takeCompares_42 : m_D k_Re_takeCompares 42 (.bipush 11) 2 := (by decide +kernel : decode prog_8_method_17_code 42 = .ok (.bipush 11, 2))
theorem d_Re_takeCompares_44 : m_D k_Re_takeCompares 44 (.goto 19) 3 := (by decide +kernel : decode prog_8_method_17_code 44 = .ok (.goto 19, 3))
theorem d_Re_takeCompares_47 : m_D k_Re_takeCompares 47 (.aload_n 0) 1 := (by decide +kernel : decode prog_8_method_17_code 47 = .ok (.aload_n 0, 1))
theorem d_Re_takeCompares_48 : m_D k_Re_takeCompares 48 (.getfield 222) 3 := (by decide +kernel : decode prog_8_method_17_code 48 = .ok (.getfield 222, 3))
theorem d_Re_takeCompares_51 : m_D k_Re_takeCompares 51 (.bipush 62) 2 := (by decide +kernel : decode prog_8_method_17_code 51 = .ok (.bipush 62, 2))
theorem d_Re_takeCompares_53 : m_D k_Re_takeCompares 53 (.if_icmp .ne 8) 3 := (by decide +kernel : decode prog_8_method_17_code 53 = .ok (.if_icmp .ne 8, 3))
theorem d_Re_takeCompares_56 : m_D k_Re_takeCompares 56 (.bipush 12) 2 := (by decide +kernel : decode prog_8_method_17_code 56 = .ok (.bipush 12, 2))
theorem d_Re_takeCompares_58 : m_D k_Re_takeCompares 58 (.goto 5) 3 := (by decide +kernel : decode prog_8_method_17_code 58 = .ok (.goto 5, 3))
theorem d_Re_takeCompares_61 : m_D k_Re_takeCompares 61 (.bipush 13) 2 := (by decide +kernel : decode prog_8_method_17_code 61 = .ok (.bipush 13, 2))
theorem d_Re_takeCompares_63 : m_D k_Re_takeCompares 63 (.iastore) 1 := (by decide +kernel : decode prog_8_method_17_code 63 = .ok (.iastore, 1))
theorem d_Re_takeCompares_64 : m_D k_Re_takeCompares 64 (.aload_n 0) 1 := (by decide +kernel : decode prog_8_method_17_code 64 = .ok (.aload_n 0, 1))
theorem d_Re_takeCompares_65 : m_D k_Re_takeCompares 65 (.invokevirtual 93) 3 := (by decide +kernel : decode prog_8_method_17_code 65 = .ok (.invokevirtual 93, 3))
theorem d_Re_takeCompares_68 : m_D k_Re_takeCompares 68 (.iconst 1) 1 := (by decide +kernel : decode prog_8_method_17_code 68 = .ok (.iconst 1, 1))
theorem d_Re_takeCompares_69 : m_D k_Re_takeCompares 69 (.ireturn) 1 := (by decide +kernel : decode prog_8_method_17_code 69 = .ok (.ireturn, 1))
def fn_Re_takeCompares (x0 : Option mA) (x1 : Option mA) : mP Int32 :=
  m_bd (m_gI 2 4 x0) fun v1 =>
  if v1 = 3 then
    m_bd (m_gI 2 8 x0) fun v3 =>
    if v3 = 59 then
      m_bd (fn_Tx_refuse x0 2) fun v9 =>
      m_bd (m_cz v9) fun _ => m_rt v9
    else
      m_bd (m_gR 6 2 x1) fun v4 =>
      m_bd (m_gI 6 1 x1) fun v5 =>
      m_bd (m_gI 2 8 x0) fun v6 =>
      m_bd (α := Int32) (
        if v6 = 60 then
          m_rt 11
        else
          m_bd (m_gI 2 8 x0) fun v7 =>
          if v7 = 62 then
            m_rt 12
          else
            m_rt 13
        ) fun (t8 : Int32) =>
      m_bd (m_tI 0 v4 (v5 - 1) t8) fun _ =>
      m_bd (fn_Tx_advance x0) fun _ =>
      m_rt 1
  else
    m_bd (fn_Tx_refuse x0 2) fun v2 =>
    m_bd (m_cz v2) fun _ => m_rt v2
set_option maxHeartbeats 4000000 in
set_option maxRecDepth 100000 in
theorem sd_Re_takeCompares (x0 : Option mA) (x1 : Option mA) : m_Sm k_Re_takeCompares 4 0 0 [.inr (.inr x0), .inr (.inr x1)] (fn_Re_takeCompares x0 x1) (fun b => some (.inl b)) := by
  refine ⟨Nat.le_of_ble_eq_true rfl, ?_⟩
  refine sm_aload_n (i := 0) (j := 0) (pc' := 1) d_Re_takeCompares_0 rfl rfl rfl ?_
  refine sm_getI (pc' := 4) d_Re_takeCompares_1 rfl fl_Re_15 rfl ⟨by decide, by decide⟩ (fun v1 => ?_)
  refine sm_iconst (pc' := 5) d_Re_takeCompares_4 rfl ic_3 ?_
  refine sm_icmp_ne (tgt := 17) (pc' := 8) d_Re_takeCompares_5 rfl rfl ?_ ?_
  · refine sm_aload_n (i := 0) (j := 0) (pc' := 18) d_Re_takeCompares_17 rfl rfl rfl (sm_iconst (pc' := 19) d_Re_takeCompares_18 rfl ic_2 ?_)
    refine sm_callVi (ci := 2) (x := x0) (av := [.inl 2]) (st := []) (mc := 0) (ms := 0) (pc' := 22) d_Re_takeCompares_19 rfl (sd_Tx_refuse x0 2) m_lv rfl cv_Tx_refuse w_ml_Re_89 rfl rfl (by decide) (Nat.le_of_ble_eq_true rfl) rfl rfl (fun v2 => ?_)
    exact sm_zretC d_Re_takeCompares_22 rfl rfl
  · refine sm_aload_n (i := 0) (j := 0) (pc' := 9) d_Re_takeCompares_8 rfl rfl rfl ?_
    refine sm_getI (pc' := 12) d_Re_takeCompares_9 rfl fl_Re_222 rfl ⟨by decide, by decide⟩ (fun v3 => ?_)
    refine sm_bipush (pc' := 14) d_Re_takeCompares_12 rfl ib_59 ?_
    refine sm_icmp_ne (tgt := 23) (pc' := 17) d_Re_takeCompares_14 rfl rfl ?_ ?_
    · refine sm_aload_n (i := 1) (j := 1) (pc' := 24) d_Re_takeCompares_23 rfl rfl rfl ?_
      refine sm_getR (pc' := 27) d_Re_takeCompares_24 rfl fl_Re_203 rfl rfl (fun v4 => ?_)
      refine sm_aload_n (i := 1) (j := 1) (pc' := 28) d_Re_takeCompares_27 rfl rfl rfl ?_
      refine sm_getI (pc' := 31) d_Re_takeCompares_28 rfl fl_Re_186 rfl ⟨by decide, by decide⟩ (fun v5 => ?_)
      refine sm_iconst (pc' := 32) d_Re_takeCompares_31 rfl ic_1 (sm_isub (pc' := 33) d_Re_takeCompares_32 rfl (sm_aload_n (i := 0) (j := 0) (pc' := 34) d_Re_takeCompares_33 rfl rfl rfl ?_))
      refine sm_getI (pc' := 37) d_Re_takeCompares_34 rfl fl_Re_222 rfl ⟨by decide, by decide⟩ (fun v6 => ?_)
      refine sm_bipush (pc' := 39) d_Re_takeCompares_37 rfl ib_60 ?_
      refine sm_bd (mid := fun (t8 : Int32) => .inl (63, [(0, .inr (.inr x0))], [.inl t8, .inl (v5 - 1), .inr (.inr v4)])) ?_ (fun t8 => ?_)
      · refine sm_icmp_ne (tgt := 47) (pc' := 42) d_Re_takeCompares_39 rfl rfl ?_ ?_
        · refine sm_aload_n (i := 0) (j := 0) (pc' := 48) d_Re_takeCompares_47 rfl rfl rfl ?_
          refine sm_getI (pc' := 51) d_Re_takeCompares_48 rfl fl_Re_222 rfl ⟨by decide, by decide⟩ (fun v7 => ?_)
          refine sm_bipush (pc' := 53) d_Re_takeCompares_51 rfl ib_62 ?_
          refine sm_icmp_ne (tgt := 61) (pc' := 56) d_Re_takeCompares_53 rfl rfl ?_ ?_
          · refine sm_bipush (pc' := 63) d_Re_takeCompares_61 rfl ib_13 (sm_sub [0] rfl ?_)
            exact sm_rt rfl
          · refine sm_bipush (pc' := 58) d_Re_takeCompares_56 rfl ib_12 (sm_goto (tgt := 63) d_Re_takeCompares_58 rfl (sm_sub [0] rfl ?_))
            exact sm_rt rfl
        · refine sm_bipush (pc' := 44) d_Re_takeCompares_42 rfl ib_11 (sm_goto (tgt := 63) d_Re_takeCompares_44 rfl (sm_sub [0] rfl ?_))
          exact sm_rt rfl
      · refine sm_iast (pc' := 64) d_Re_takeCompares_63 rfl (sm_aload_n (i := 0) (j := 0) (pc' := 65) d_Re_takeCompares_64 rfl rfl rfl ?_)
        refine sm_callVv (ci := 2) (x := x0) (av := []) (st := []) (mc := 0) (ms := 0) (pc' := 68) d_Re_takeCompares_65 rfl (sd_Tx_advance x0) m_lv rfl cv_Tx_advance w_ml_Re_93 rfl rfl (by decide) (Nat.le_of_ble_eq_true rfl) rfl rfl ?_
        refine sm_iconst (pc' := 69) d_Re_takeCompares_68 rfl ic_1 ?_
        exact sm_zreturn d_Re_takeCompares_69 rfl (by decide) rfl
    · refine sm_aload_n (i := 0) (j := 0) (pc' := 18) d_Re_takeCompares_17 rfl rfl rfl (sm_iconst (pc' := 19) d_Re_takeCompares_18 rfl ic_2 ?_)
      refine sm_callVi (ci := 2) (x := x0) (av := [.inl 2]) (st := []) (mc := 0) (ms := 0) (pc' := 22) d_Re_takeCompares_19 rfl (sd_Tx_refuse x0 2) m_lv rfl cv_Tx_refuse w_ml_Re_89 rfl rfl (by decide) (Nat.le_of_ble_eq_true rfl) rfl rfl (fun v9 => ?_)
      exact sm_zretC d_Re_takeCompares_22 rfl rfl
theorem d_Re_takeTest_0 : m_D k_Re_takeTest 0 (.aload_n 0) 1 := (by decide +kernel : decode prog_8_method_16_code 0 = .ok (.aload_n 0, 1))
theorem d_Re_takeTest_1 : m_D k_Re_takeTest 1 (.ldc 215) 2 := (by decide +kernel : decode prog_8_method_16_code 1 = .ok (.ldc 215, 2))
theorem d_Re_takeTest_3 : m_D k_Re_takeTest 3 (.invokevirtual 26) 3 := (by decide +kernel : decode prog_8_method_16_code 3 = .ok (.invokevirtual 26, 3))
theorem d_Re_takeTest_6 : m_D k_Re_takeTest 6 (.ifCond .eq 14) 3 := (by decide +kernel : decode prog_8_method_16_code 6 = .ok (.ifCond .eq 14, 3))
theorem d_Re_takeTest_9 : m_D k_Re_takeTest 9 (.aload_n 0) 1 := (by decide +kernel : decode prog_8_method_16_code 9 = .ok (.aload_n 0, 1))
theorem d_Re_takeTest_10 : m_D k_Re_takeTest 10 (.invokevirtual 93) 3 := (by decide +kernel : decode prog_8_method_16_code 10 = .ok (.invokevirtual 93, 3))
theorem d_Re_takeTest_13 : m_D k_Re_takeTest 13 (.aload_n 0) 1 := (by decide +kernel : decode prog_8_method_16_code 13 = .ok (.aload_n 0, 1))
theorem d_Re_takeTest_14 : m_D k_Re_takeTest 14 (.aload_n 1) 1 := (by decide +kernel : decode prog_8_method_16_code 14 = .ok (.aload_n 1, 1))
theorem d_Re_takeTest_15 : m_D k_Re_takeTest 15 (.aload_n 2) 1 := (by decide +kernel : decode prog_8_method_16_code 15 = .ok (.aload_n 2, 1))
theorem d_Re_takeTest_16 : m_D k_Re_takeTest 16 (.invokestatic 209) 3 := (by decide +kernel : decode prog_8_method_16_code 16 = .ok (.invokestatic 209, 3))
theorem d_Re_takeTest_19 : m_D k_Re_takeTest 19 (.ireturn) 1 := (by decide +kernel : decode prog_8_method_16_code 19 = .ok (.ireturn, 1))
theorem d_Re_takeTest_20 : m_D k_Re_takeTest 20 (.aload_n 0) 1 := (by decide +kernel : decode prog_8_method_16_code 20 = .ok (.aload_n 0, 1))
theorem d_Re_takeTest_21 : m_D k_Re_takeTest 21 (.ldc 78) 2 := (by decide +kernel : decode prog_8_method_16_code 21 = .ok (.ldc 78, 2))
theorem d_Re_takeTest_23 : m_D k_Re_takeTest 23 (.invokevirtual 26) 3 := (by decide +kernel : decode prog_8_method_16_code 23 = .ok (.invokevirtual 26, 3))
theorem d_Re_takeTest_26 : m_D k_Re_takeTest 26 (.ifCond .eq 27) 3 := (by decide +kernel : decode prog_8_method_16_code 26 = .ok (.ifCond .eq 27, 3))
theorem d_Re_takeTest_29 : m_D k_Re_takeTest 29 (.aload_n 0) 1 := (by decide +kernel : decode prog_8_method_16_code 29 = .ok (.aload_n 0, 1))
theorem d_Re_takeTest_30 : m_D k_Re_takeTest 30 (.invokevirtual 93) 3 := (by decide +kernel : decode prog_8_method_16_code 30 = .ok (.invokevirtual 93, 3))
theorem d_Re_takeTest_33 : m_D k_Re_takeTest 33 (.aload_n 2) 1 := (by decide +kernel : decode prog_8_method_16_code 33 = .ok (.aload_n 2, 1))
theorem d_Re_takeTest_34 : m_D k_Re_takeTest 34 (.getfield 203) 3 := (by decide +kernel : decode prog_8_method_16_code 34 = .ok (.getfield 203, 3))
theorem d_Re_takeTest_37 : m_D k_Re_takeTest 37 (.aload_n 2) 1 := (by decide +kernel : decode prog_8_method_16_code 37 = .ok (.aload_n 2, 1))
theorem d_Re_takeTest_38 : m_D k_Re_takeTest 38 (.getfield 186) 3 := (by decide +kernel : decode prog_8_method_16_code 38 = .ok (.getfield 186, 3))
theorem d_Re_takeTest_41 : m_D k_Re_takeTest 41 (.iconst 1) 1 := (by decide +kernel : decode prog_8_method_16_code 41 = .ok (.iconst 1, 1))
theorem d_Re_takeTest_42 : m_D k_Re_takeTest 42 (.isub) 1 := (by decide +kernel : decode prog_8_method_16_code 42 = .ok (.isub, 1))
theorem d_Re_takeTest_43 : m_D k_Re_takeTest 43 (.bipush 10) 2 := (by decide +kernel : decode prog_8_method_16_code 43 = .ok (.bipush 10, 2))
theorem d_Re_takeTest_45 : m_D k_Re_takeTest 45 (.iastore) 1 := (by decide +kernel : decode prog_8_method_16_code 45 = .ok (.iastore, 1))
theorem d_Re_takeTest_46 : m_D k_Re_takeTest 46 (.aload_n 0) 1 := (by decide +kernel : decode prog_8_method_16_code 46 = .ok (.aload_n 0, 1))
theorem d_Re_takeTest_47 : m_D k_Re_takeTest 47 (.aload_n 1) 1 := (by decide +kernel : decode prog_8_method_16_code 47 = .ok (.aload_n 1, 1))
theorem d_Re_takeTest_48 : m_D k_Re_takeTest 48 (.aload_n 2) 1 := (by decide +kernel : decode prog_8_method_16_code 48 = .ok (.aload_n 2, 1))
theorem d_Re_takeTest_49 : m_D k_Re_takeTest 49 (.invokestatic 212) 3 := (by decide +kernel : decode prog_8_method_16_code 49 = .ok (.invokestatic 212, 3))
theorem d_Re_takeTest_52 : m_D k_Re_takeTest 52 (.ireturn) 1 := (by decide +kernel : decode prog_8_method_16_code 52 = .ok (.ireturn, 1))
theorem d_Re_takeTest_53 : m_D k_Re_takeTest 53 (.aload_n 0) 1 := (by decide +kernel : decode prog_8_method_16_code 53 = .ok (.aload_n 0, 1))
theorem d_Re_takeTest_54 : m_D k_Re_takeTest 54 (.ldc 217) 2 := (by decide +kernel : decode prog_8_method_16_code 54 = .ok (.ldc 217, 2))
theorem d_Re_takeTest_56 : m_D k_Re_takeTest 56 (.invokevirtual 26) 3 := (by decide +kernel : decode prog_8_method_16_code 56 = .ok (.invokevirtual 26, 3))
theorem d_Re_takeTest_59 : m_D k_Re_takeTest 59 (.ifCond .eq 42) 3 := (by decide +kernel : decode prog_8_method_16_code 59 = .ok (.ifCond .eq 42, 3))
theorem d_Re_takeTest_62 : m_D k_Re_takeTest 62 (.aload_n 0) 1 := (by decide +kernel : decode prog_8_method_16_code 62 = .ok (.aload_n 0, 1))
theorem d_Re_takeTest_63 : m_D k_Re_takeTest 63 (.invokevirtual 93) 3 := (by decide +kernel : decode prog_8_method_16_code 63 = .ok (.invokevirtual 93, 3))
theorem d_Re_takeTest_66 : m_D k_Re_takeTest 66 (.aload_n 0) 1 := (by decide +kernel : decode prog_8_method_16_code 66 = .ok (.aload_n 0, 1))
theorem d_Re_takeTest_67 : m_D k_Re_takeTest 67 (.aload_n 1) 1 := (by decide +kernel : decode prog_8_method_16_code 67 = .ok (.aload_n 1, 1))
theorem d_Re_takeTest_68 : m_D k_Re_takeTest 68 (.aload_n 2) 1 := (by decide +kernel : decode prog_8_method_16_code 68 = .ok (.aload_n 2, 1))
theorem d_Re_takeTest_69 : m_D k_Re_takeTest 69 (.invokestatic 209) 3 := (by decide +kernel : decode prog_8_method_16_code 69 = .ok (.invokestatic 209, 3))
theorem d_Re_takeTest_72 : m_D k_Re_takeTest 72 (.ifCond .eq 27) 3 := (by decide +kernel : decode prog_8_method_16_code 72 = .ok (.ifCond .eq 27, 3))
theorem d_Re_takeTest_75 : m_D k_Re_takeTest 75 (.aload_n 0) 1 := (by decide +kernel : decode prog_8_method_16_code 75 = .ok (.aload_n 0, 1))
theorem d_Re_takeTest_76 : m_D k_Re_takeTest 76 (.aload_n 2) 1 := (by decide +kernel : decode prog_8_method_16_code 76 = .ok (.aload_n 2, 1))
theorem d_Re_takeTest_77 : m_D k_Re_takeTest 77 (.invokestatic 219) 3 := (by decide +kernel : decode prog_8_method_16_code 77 = .ok (.invokestatic 219, 3))
theorem d_Re_takeTest_80 : m_D k_Re_takeTest 80 (.ifCond .eq 19) 3 := (by decide +kernel : decode prog_8_method_16_code 80 = .ok (.ifCond .eq 19, 3))
theorem d_Re_takeTest_83 : m_D k_Re_takeTest 83 (.aload_n 0) 1 := (by decide +kernel : decode prog_8_method_16_code 83 = .ok (.aload_n 0, 1))
theorem d_Re_takeTest_84 : m_D k_Re_takeTest 84 (.aload_n 2) 1 := (by decide +kernel : decode prog_8_method_16_code 84 = .ok (.aload_n 2, 1))
theorem d_Re_takeTest_85 : m_D k_Re_takeTest 85 (.iconst 0) 1 := (by decide +kernel : decode prog_8_method_16_code 85 = .ok (.iconst 0, 1))
theorem d_Re_takeTest_86 : m_D k_Re_takeTest 86 (.sipush 999) 3 := (by decide +kernel : decode prog_8_method_16_code 86 = .ok (.sipush 999, 3))
theorem d_Re_takeTest_89 : m_D k_Re_takeTest 89 (.invokestatic 205) 3 := (by decide +kernel : decode prog_8_method_16_code 89 = .ok (.invokestatic 205, 3))
theorem d_Re_takeTest_92 : m_D k_Re_takeTest 92 (.ifCond .eq 7) 3 := (by decide +kernel : decode prog_8_method_16_code 92 = .ok (.ifCond .eq 7, 3))
theorem d_Re_takeTest_95 : m_D k_Re_takeTest 95 (.iconst 1) 1 := (by decide +kernel : decode prog_8_method_16_code 95 = .ok (.iconst 1, 1))
theorem d_Re_takeTest_96 : m_D k_Re_takeTest 96 (.goto 4) 3 := (by decide +kernel : decode prog_8_method_16_code 96 = .ok (.goto 4, 3))
theorem d_Re_takeTest_99 : m_D k_Re_takeTest 99 (.iconst 0) 1 := (by decide +kernel : decode prog_8_method_16_code 99 = .ok (.iconst 0, 1))
theorem d_Re_takeTest_100 : m_D k_Re_takeTest 100 (.ireturn) 1 := (by decide +kernel : decode prog_8_method_16_code 100 = .ok (.ireturn, 1))
theorem d_Re_takeTest_101 : m_D k_Re_takeTest 101 (.aload_n 0) 1 := (by decide +kernel : decode prog_8_method_16_code 101 = .ok (.aload_n 0, 1))
theorem d_Re_takeTest_102 : m_D k_Re_takeTest 102 (.iconst 2) 1 := (by decide +kernel : decode prog_8_method_16_code 102 = .ok (.iconst 2, 1))
theorem d_Re_takeTest_103 : m_D k_Re_takeTest 103 (.invokevirtual 89) 3 := (by decide +kernel : decode prog_8_method_16_code 103 = .ok (.invokevirtual 89, 3))
theorem d_Re_takeTest_106 : m_D k_Re_takeTest 106 (.ireturn) 1 := (by decide +kernel : decode prog_8_method_16_code 106 = .ok (.ireturn, 1))
def fn_Re_takeTest (x0 : Option mA) (x1 : Option mA) (x2 : Option mA) : mP Int32 :=
  m_bd (fn_Tx_is x0 (some (0, 16, 0))) fun v1 =>
  if v1 = 0 then
    m_bd (fn_Tx_is x0 (some (0, 1, 0))) fun v2 =>
    if v2 = 0 then
      m_bd (fn_Tx_is x0 (some (0, 17, 0))) fun v3 =>
      if v3 = 0 then
        m_bd (fn_Tx_refuse x0 2) fun v4 =>
        m_bd (m_cz v4) fun _ => m_rt v4
      else
        m_bd (fn_Tx_advance x0) fun _ =>
        m_bd (fn_Re_takeThingName x0 x1 x2) fun v5 =>
        if v5 = 0 then
          m_rt 0
        else
          m_bd (fn_Re_takeCompares x0 x2) fun v6 =>
          if v6 = 0 then
            m_rt 0
          else
            m_bd (fn_Re_takeMuch x0 x2 0 999) fun v7 =>
            if v7 = 0 then
              m_rt 0
            else
              m_rt 1
    else
      m_bd (fn_Tx_advance x0) fun _ =>
      m_bd (m_gR 6 2 x2) fun v8 =>
      m_bd (m_gI 6 1 x2) fun v9 =>
      m_bd (m_tI 0 v8 (v9 - 1) 10) fun _ =>
      m_bd (fn_Re_takePersonName x0 x1 x2) fun v10 =>
      m_bd (m_cz v10) fun _ => m_rt v10
  else
    m_bd (fn_Tx_advance x0) fun _ =>
    m_bd (fn_Re_takeThingName x0 x1 x2) fun v11 =>
    m_bd (m_cz v11) fun _ => m_rt v11
set_option maxHeartbeats 4000000 in
set_option maxRecDepth 100000 in
theorem sd_Re_takeTest (x0 : Option mA) (x1 : Option mA) (x2 : Option mA) : m_Sm k_Re_takeTest 10 0 0 [.inr (.inr x0), .inr (.inr x1), .inr (.inr x2)] (fn_Re_takeTest x0 x1 x2) (fun b => some (.inl b)) := by
  refine ⟨Nat.le_of_ble_eq_true rfl, ?_⟩
  refine sm_aload_n (i := 0) (j := 0) (pc' := 1) d_Re_takeTest_0 rfl rfl rfl (sm_ldcS (j := 16) (pc' := 3) d_Re_takeTest_1 rfl (by decide) ?_)
  refine sm_callVi (ci := 2) (x := x0) (av := [.inr (.inr (some (0, 16, 0)))]) (st := []) (mc := 0) (ms := 0) (pc' := 6) d_Re_takeTest_3 rfl (sd_Tx_is x0 (some (0, 16, 0))) m_lv rfl cv_Tx_is w_ml_Re_26 rfl rfl (by decide) (Nat.le_of_ble_eq_true rfl) rfl rfl (fun v1 => ?_)
  refine sm_if_eq (tgt := 20) (pc' := 9) d_Re_takeTest_6 rfl rfl ?_ ?_
  · refine sm_aload_n (i := 0) (j := 0) (pc' := 21) d_Re_takeTest_20 rfl rfl rfl (sm_ldcS (j := 1) (pc' := 23) d_Re_takeTest_21 rfl (by decide) ?_)
    refine sm_callVi (ci := 2) (x := x0) (av := [.inr (.inr (some (0, 1, 0)))]) (st := []) (mc := 0) (ms := 0) (pc' := 26) d_Re_takeTest_23 rfl (sd_Tx_is x0 (some (0, 1, 0))) m_lv rfl cv_Tx_is w_ml_Re_26 rfl rfl (by decide) (Nat.le_of_ble_eq_true rfl) rfl rfl (fun v2 => ?_)
    refine sm_if_eq (tgt := 53) (pc' := 29) d_Re_takeTest_26 rfl rfl ?_ ?_
    · refine sm_aload_n (i := 0) (j := 0) (pc' := 54) d_Re_takeTest_53 rfl rfl rfl (sm_ldcS (j := 17) (pc' := 56) d_Re_takeTest_54 rfl (by decide) ?_)
      refine sm_callVi (ci := 2) (x := x0) (av := [.inr (.inr (some (0, 17, 0)))]) (st := []) (mc := 0) (ms := 0) (pc' := 59) d_Re_takeTest_56 rfl (sd_Tx_is x0 (some (0, 17, 0))) m_lv rfl cv_Tx_is w_ml_Re_26 rfl rfl (by decide) (Nat.le_of_ble_eq_true rfl) rfl rfl (fun v3 => ?_)
      refine sm_if_eq (tgt := 101) (pc' := 62) d_Re_takeTest_59 rfl rfl ?_ ?_
      · refine sm_aload_n (i := 0) (j := 0) (pc' := 102) d_Re_takeTest_101 rfl rfl rfl (sm_iconst (pc' := 103) d_Re_takeTest_102 rfl ic_2 ?_)
        refine sm_callVi (ci := 2) (x := x0) (av := [.inl 2]) (st := []) (mc := 0) (ms := 0) (pc' := 106) d_Re_takeTest_103 rfl (sd_Tx_refuse x0 2) m_lv rfl cv_Tx_refuse w_ml_Re_89 rfl rfl (by decide) (Nat.le_of_ble_eq_true rfl) rfl rfl (fun v4 => ?_)
        exact sm_zretC d_Re_takeTest_106 rfl rfl
      · refine sm_aload_n (i := 0) (j := 0) (pc' := 63) d_Re_takeTest_62 rfl rfl rfl ?_
        refine sm_callVv (ci := 2) (x := x0) (av := []) (st := []) (mc := 0) (ms := 0) (pc' := 66) d_Re_takeTest_63 rfl (sd_Tx_advance x0) m_lv rfl cv_Tx_advance w_ml_Re_93 rfl rfl (by decide) (Nat.le_of_ble_eq_true rfl) rfl rfl ?_
        refine sm_aload_n (i := 0) (j := 0) (pc' := 67) d_Re_takeTest_66 rfl rfl rfl (sm_aload_n (i := 1) (j := 1) (pc' := 68) d_Re_takeTest_67 rfl rfl rfl (sm_aload_n (i := 2) (j := 2) (pc' := 69) d_Re_takeTest_68 rfl rfl rfl ?_))
        refine sm_callSi (av := [.inr (.inr x0), .inr (.inr x1), .inr (.inr x2)]) (st := []) (mc := 0) (ms := 0) (pc' := 72) d_Re_takeTest_69 rfl (sd_Re_takeThingName x0 x1 x2) cs_Re_takeThingName w_ml_Re_209 rfl rfl (by decide) (Nat.le_of_ble_eq_true rfl) rfl rfl (fun v5 => ?_)
        refine sm_if_eq (tgt := 99) (pc' := 75) d_Re_takeTest_72 rfl rfl ?_ ?_
        · refine sm_iconst (pc' := 100) d_Re_takeTest_99 rfl ic_0 ?_
          exact sm_zreturn d_Re_takeTest_100 rfl (by decide) rfl
        · refine sm_aload_n (i := 0) (j := 0) (pc' := 76) d_Re_takeTest_75 rfl rfl rfl (sm_aload_n (i := 2) (j := 2) (pc' := 77) d_Re_takeTest_76 rfl rfl rfl ?_)
          refine sm_callSi (av := [.inr (.inr x0), .inr (.inr x2)]) (st := []) (mc := 0) (ms := 0) (pc' := 80) d_Re_takeTest_77 rfl (sd_Re_takeCompares x0 x2) cs_Re_takeCompares w_ml_Re_219 rfl rfl (by decide) (Nat.le_of_ble_eq_true rfl) rfl rfl (fun v6 => ?_)
          refine sm_if_eq (tgt := 99) (pc' := 83) d_Re_takeTest_80 rfl rfl ?_ ?_
          · refine sm_iconst (pc' := 100) d_Re_takeTest_99 rfl ic_0 ?_
            exact sm_zreturn d_Re_takeTest_100 rfl (by decide) rfl
          · refine sm_aload_n (i := 0) (j := 0) (pc' := 84) d_Re_takeTest_83 rfl rfl rfl (sm_aload_n (i := 2) (j := 2) (pc' := 85) d_Re_takeTest_84 rfl rfl rfl (sm_iconst (pc' := 86) d_Re_takeTest_85 rfl ic_0 (sm_sipush (pc' := 89) d_Re_takeTest_86 rfl is_999 ?_)))
            refine sm_callSi (av := [.inr (.inr x0), .inr (.inr x2), .inl 0, .inl 999]) (st := []) (mc := 0) (ms := 0) (pc' := 92) d_Re_takeTest_89 rfl (sd_Re_takeMuch x0 x2 0 999) cs_Re_takeMuch w_ml_Re_205 rfl rfl (by decide) (Nat.le_of_ble_eq_true rfl) rfl rfl (fun v7 => ?_)
            refine sm_if_eq (tgt := 99) (pc' := 95) d_Re_takeTest_92 rfl rfl ?_ ?_
            · refine sm_iconst (pc' := 100) d_Re_takeTest_99 rfl ic_0 ?_
              exact sm_zreturn d_Re_takeTest_100 rfl (by decide) rfl
            · refine sm_iconst (pc' := 96) d_Re_takeTest_95 rfl ic_1 (sm_goto (tgt := 100) d_Re_takeTest_96 rfl ?_)
              exact sm_zreturn d_Re_takeTest_100 rfl (by decide) rfl
    · refine sm_aload_n (i := 0) (j := 0) (pc' := 30) d_Re_takeTest_29 rfl rfl rfl ?_
      refine sm_callVv (ci := 2) (x := x0) (av := []) (st := []) (mc := 0) (ms := 0) (pc' := 33) d_Re_takeTest_30 rfl (sd_Tx_advance x0) m_lv rfl cv_Tx_advance w_ml_Re_93 rfl rfl (by decide) (Nat.le_of_ble_eq_true rfl) rfl rfl ?_
      refine sm_aload_n (i := 2) (j := 2) (pc' := 34) d_Re_takeTest_33 rfl rfl rfl ?_
      refine sm_getR (pc' := 37) d_Re_takeTest_34 rfl fl_Re_203 rfl rfl (fun v8 => ?_)
      refine sm_aload_n (i := 2) (j := 2) (pc' := 38) d_Re_takeTest_37 rfl rfl rfl ?_
      refine sm_getI (pc' := 41) d_Re_takeTest_38 rfl fl_Re_186 rfl ⟨by decide, by decide⟩ (fun v9 => ?_)
      refine sm_iconst (pc' := 42) d_Re_takeTest_41 rfl ic_1 (sm_isub (pc' := 43) d_Re_takeTest_42 rfl (sm_bipush (pc' := 45) d_Re_takeTest_43 rfl ib_10 (sm_iast (pc' := 46) d_Re_takeTest_45 rfl (sm_aload_n (i := 0) (j := 0) (pc' := 47) d_Re_takeTest_46 rfl rfl rfl (sm_aload_n (i := 1) (j := 1) (pc' := 48) d_Re_takeTest_47 rfl rfl rfl (sm_aload_n (i := 2) (j := 2) (pc' := 49) d_Re_takeTest_48 rfl rfl rfl ?_))))))
      refine sm_callSi (av := [.inr (.inr x0), .inr (.inr x1), .inr (.inr x2)]) (st := []) (mc := 0) (ms := 0) (pc' := 52) d_Re_takeTest_49 rfl (sd_Re_takePersonName x0 x1 x2) cs_Re_takePersonName w_ml_Re_212 rfl rfl (by decide) (Nat.le_of_ble_eq_true rfl) rfl rfl (fun v10 => ?_)
      exact sm_zretC d_Re_takeTest_52 rfl rfl
  · refine sm_aload_n (i := 0) (j := 0) (pc' := 10) d_Re_takeTest_9 rfl rfl rfl ?_
    refine sm_callVv (ci := 2) (x := x0) (av := []) (st := []) (mc := 0) (ms := 0) (pc' := 13) d_Re_takeTest_10 rfl (sd_Tx_advance x0) m_lv rfl cv_Tx_advance w_ml_Re_93 rfl rfl (by decide) (Nat.le_of_ble_eq_true rfl) rfl rfl ?_
    refine sm_aload_n (i := 0) (j := 0) (pc' := 14) d_Re_takeTest_13 rfl rfl rfl (sm_aload_n (i := 1) (j := 1) (pc' := 15) d_Re_takeTest_14 rfl rfl rfl (sm_aload_n (i := 2) (j := 2) (pc' := 16) d_Re_takeTest_15 rfl rfl rfl ?_))
    refine sm_callSi (av := [.inr (.inr x0), .inr (.inr x1), .inr (.inr x2)]) (st := []) (mc := 0) (ms := 0) (pc' := 19) d_Re_takeTest_16 rfl (sd_Re_takeThingName x0 x1 x2) cs_Re_takeThingName w_ml_Re_209 rfl rfl (by decide) (Nat.le_of_ble_eq_true rfl) rfl rfl (fun v11 => ?_)
    exact sm_zretC d_Re_takeTest_19 rfl rfl
theorem d_Re_takePlan_0 : m_D k_Re_takePlan 0 (.aload_n 2) 1 := (by decide +kernel : decode prog_8_method_11_code 0 = .ok (.aload_n 2, 1))
theorem d_Re_takePlan_1 : m_D k_Re_takePlan 1 (.invokevirtual 74) 3 := (by decide +kernel : decode prog_8_method_11_code 1 = .ok (.invokevirtual 74, 3))
theorem d_Re_takePlan_4 : m_D k_Re_takePlan 4 (.iconst 0) 1 := (by decide +kernel : decode prog_8_method_11_code 4 = .ok (.iconst 0, 1))
theorem d_Re_takePlan_5 : m_D k_Re_takePlan 5 (.istore_n 3) 1 := (by decide +kernel : decode prog_8_method_11_code 5 = .ok (.istore_n 3, 1))
theorem d_Re_takePlan_6 : m_D k_Re_takePlan 6 (.iload_n 3) 1 := (by decide +kernel : decode prog_8_method_11_code 6 = .ok (.iload_n 3, 1))
theorem d_Re_takePlan_7 : m_D k_Re_takePlan 7 (.sipush 300) 3 := (by decide +kernel : decode prog_8_method_11_code 7 = .ok (.sipush 300, 3))
theorem d_Re_takePlan_10 : m_D k_Re_takePlan 10 (.if_icmp .gt 149) 3 := (by decide +kernel : decode prog_8_method_11_code 10 = .ok (.if_icmp .gt 149, 3))
theorem d_Re_takePlan_13 : m_D k_Re_takePlan 13 (.aload_n 0) 1 := (by decide +kernel : decode prog_8_method_11_code 13 = .ok (.aload_n 0, 1))
theorem d_Re_takePlan_14 : m_D k_Re_takePlan 14 (.getfield 15) 3 := (by decide +kernel : decode prog_8_method_11_code 14 = .ok (.getfield 15, 3))
theorem d_Re_takePlan_17 : m_D k_Re_takePlan 17 (.ifCond .ne 41) 3 := (by decide +kernel : decode prog_8_method_11_code 17 = .ok (.ifCond .ne 41, 3))
theorem d_Re_takePlan_20 : m_D k_Re_takePlan 20 (.aload_n 2) 1 := (by decide +kernel : decode prog_8_method_11_code 20 = .ok (.aload_n 2, 1))
theorem d_Re_takePlan_21 : m_D k_Re_takePlan 21 (.aload_n 2) 1 := (by decide +kernel : decode prog_8_method_11_code 21 = .ok (.aload_n 2, 1))
theorem d_Re_takePlan_22 : m_D k_Re_takePlan 22 (.invokevirtual 152) 3 := (by decide +kernel : decode prog_8_method_11_code 22 = .ok (.invokevirtual 152, 3))
theorem d_Re_takePlan_25 : m_D k_Re_takePlan 25 (.iconst (-1)) 1 := (by decide +kernel : decode prog_8_method_11_code 25 = .ok (.iconst (-1), 1))
theorem d_Re_takePlan_26 : m_D k_Re_takePlan 26 (.if_icmp .ne 7) 3 := (by decide +kernel : decode prog_8_method_11_code 26 = .ok (.if_icmp .ne 7, 3))
theorem d_Re_takePlan_29 : m_D k_Re_takePlan 29 (.iconst 1) 1 := (by decide +kernel : decode prog_8_method_11_code 29 = .ok (.iconst 1, 1))
theorem d_Re_takePlan_30 : m_D k_Re_takePlan 30 (.goto 4) 3 := (by decide +kernel : decode prog_8_method_11_code 30 = .ok (.goto 4, 3))
theorem d_Re_takePlan_33 : m_D k_Re_takePlan 33 (.iconst 0) 1 := (by decide +kernel : decode prog_8_method_11_code 33 = .ok (.iconst 0, 1))
theorem d_Re_takePlan_34 : m_D k_Re_takePlan 34 (.putfield 156) 3 := (by decide +kernel : decode prog_8_method_11_code 34 = .ok (.putfield 156, 3))
theorem d_Re_takePlan_37 : m_D k_Re_takePlan 37 (.aload_n 2) 1 := (by decide +kernel : decode prog_8_method_11_code 37 = .ok (.aload_n 2, 1))
theorem d_Re_takePlan_38 : m_D k_Re_takePlan 38 (.getfield 156) 3 := (by decide +kernel : decode prog_8_method_11_code 38 = .ok (.getfield 156, 3))
theorem d_Re_takePlan_41 : m_D k_Re_takePlan 41 (.ifCond .ne 11) 3 := (by decide +kernel : decode prog_8_method_11_code 41 = .ok (.ifCond .ne 11, 3))
theorem d_Re_takePlan_44 : m_D k_Re_takePlan 44 (.aload_n 0) 1 := (by decide +kernel : decode prog_8_method_11_code 44 = .ok (.aload_n 0, 1))
theorem d_Re_takePlan_45 : m_D k_Re_takePlan 45 (.iconst 2) 1 := (by decide +kernel : decode prog_8_method_11_code 45 = .ok (.iconst 2, 1))
theorem d_Re_takePlan_46 : m_D k_Re_takePlan 46 (.invokevirtual 89) 3 := (by decide +kernel : decode prog_8_method_11_code 46 = .ok (.invokevirtual 89, 3))
theorem d_Re_takePlan_49 : m_D k_Re_takePlan 49 (.ifCond .eq 7) 3 := (by decide +kernel : decode prog_8_method_11_code 49 = .ok (.ifCond .eq 7, 3))
theorem d_Re_takePlan_52 : m_D k_Re_takePlan 52 (.iconst 1) 1 := (by decide +kernel : decode prog_8_method_11_code 52 = .ok (.iconst 1, 1))
theorem d_Re_takePlan_53 : m_D k_Re_takePlan 53 (.goto 4) 3 := (by decide +kernel : decode prog_8_method_11_code 53 = .ok (.goto 4, 3))
theorem d_Re_takePlan_56 : m_D k_Re_takePlan 56 (.iconst 0) 1 := (by decide +kernel : decode prog_8_method_11_code 56 = .ok (.iconst 0, 1))
theorem d_Re_takePlan_57 : m_D k_Re_takePlan 57 (.ireturn) 1 := (by decide +kernel : decode prog_8_method_11_code 57 = .ok (.ireturn, 1))
theorem d_Re_takePlan_58 : m_D k_Re_takePlan 58 (.aload_n 0) 1 := (by decide +kernel : decode prog_8_method_11_code 58 = .ok (.aload_n 0, 1))
theorem d_Re_takePlan_59 : m_D k_Re_takePlan 59 (.ldc 160) 2 := (by decide +kernel : decode prog_8_method_11_code 59 = .ok (.ldc 160, 2))
theorem d_Re_takePlan_61 : m_D k_Re_takePlan 61 (.invokevirtual 26) 3 := (by decide +kernel : decode prog_8_method_11_code 61 = .ok (.invokevirtual 26, 3))
theorem d_Re_takePlan_64 : m_D k_Re_takePlan 64 (.ifCond .eq 11) 3 := (by decide +kernel : decode prog_8_method_11_code 64 = .ok (.ifCond .eq 11, 3))
theorem d_Re_takePlan_67 : m_D k_Re_takePlan 67 (.aload_n 0) 1 := (by decide +kernel : decode prog_8_method_11_code 67 = .ok (.aload_n 0, 1))
theorem d_Re_takePlan_68 : m_D k_Re_takePlan 68 (.aload_n 2) 1 := (by decide +kernel : decode prog_8_method_11_code 68 = .ok (.aload_n 2, 1))
theorem d_Re_takePlan_69 : m_D k_Re_takePlan 69 (.invokestatic 162) 3 := (by decide +kernel : decode prog_8_method_11_code 69 = .ok (.invokestatic 162, 3))
theorem d_Re_takePlan_72 : m_D k_Re_takePlan 72 (.goto 65) 3 := (by decide +kernel : decode prog_8_method_11_code 72 = .ok (.goto 65, 3))
theorem d_Re_takePlan_75 : m_D k_Re_takePlan 75 (.aload_n 0) 1 := (by decide +kernel : decode prog_8_method_11_code 75 = .ok (.aload_n 0, 1))
theorem d_Re_takePlan_76 : m_D k_Re_takePlan 76 (.ldc 166) 2 := (by decide +kernel : decode prog_8_method_11_code 76 = .ok (.ldc 166, 2))
theorem d_Re_takePlan_78 : m_D k_Re_takePlan 78 (.invokevirtual 26) 3 := (by decide +kernel : decode prog_8_method_11_code 78 = .ok (.invokevirtual 26, 3))
theorem d_Re_takePlan_81 : m_D k_Re_takePlan 81 (.ifCond .eq 30) 3 := (by decide +kernel : decode prog_8_method_11_code 81 = .ok (.ifCond .eq 30, 3))
theorem d_Re_takePlan_84 : m_D k_Re_takePlan 84 (.aload_n 0) 1 := (by decide +kernel : decode prog_8_method_11_code 84 = .ok (.aload_n 0, 1))
theorem d_Re_takePlan_85 : m_D k_Re_takePlan 85 (.aload_n 2) 1 := (by decide +kernel : decode prog_8_method_11_code 85 = .ok (.aload_n 2, 1))
theorem d_Re_takePlan_86 : m_D k_Re_takePlan 86 (.bipush 9) 2 := (by decide +kernel : decode prog_8_method_11_code 86 = .ok (.bipush 9, 2))
theorem d_Re_takePlan_88 : m_D k_Re_takePlan 88 (.invokestatic 168) 3 := (by decide +kernel : decode prog_8_method_11_code 88 = .ok (.invokestatic 168, 3))
theorem d_Re_takePlan_91 : m_D k_Re_takePlan 91 (.ifCond .eq 16) 3 := (by decide +kernel : decode prog_8_method_11_code 91 = .ok (.ifCond .eq 16, 3))
theorem d_Re_takePlan_94 : m_D k_Re_takePlan 94 (.aload_n 0) 1 := (by decide +kernel : decode prog_8_method_11_code 94 = .ok (.aload_n 0, 1))
theorem d_Re_takePlan_95 : m_D k_Re_takePlan 95 (.aload_n 1) 1 := (by decide +kernel : decode prog_8_method_11_code 95 = .ok (.aload_n 1, 1))
theorem d_Re_takePlan_96 : m_D k_Re_takePlan 96 (.aload_n 2) 1 := (by decide +kernel : decode prog_8_method_11_code 96 = .ok (.aload_n 2, 1))
theorem d_Re_takePlan_97 : m_D k_Re_takePlan 97 (.invokestatic 172) 3 := (by decide +kernel : decode prog_8_method_11_code 97 = .ok (.invokestatic 172, 3))
theorem d_Re_takePlan_100 : m_D k_Re_takePlan 100 (.ifCond .eq 7) 3 := (by decide +kernel : decode prog_8_method_11_code 100 = .ok (.ifCond .eq 7, 3))
theorem d_Re_takePlan_103 : m_D k_Re_takePlan 103 (.iconst 1) 1 := (by decide +kernel : decode prog_8_method_11_code 103 = .ok (.iconst 1, 1))
theorem d_Re_takePlan_104 : m_D k_Re_takePlan 104 (.goto 33) 3 := (by decide +kernel : decode prog_8_method_11_code 104 = .ok (.goto 33, 3))
theorem d_Re_takePlan_107 : m_D k_Re_takePlan 107 (.iconst 0) 1 := (by decide +kernel : decode prog_8_method_11_code 107 = .ok (.iconst 0, 1))
theorem d_Re_takePlan_108 : m_D k_Re_takePlan 108 (.goto 29) 3 := (by decide +kernel : decode prog_8_method_11_code 108 = .ok (.goto 29, 3))
theorem d_Re_takePlan_111 : m_D k_Re_takePlan 111 (.aload_n 0) 1 := (by decide +kernel : decode prog_8_method_11_code 111 = .ok (.aload_n 0, 1))
theorem d_Re_takePlan_112 : m_D k_Re_takePlan 112 (.aload_n 2) 1 := (by decide +kernel : decode prog_8_method_11_code 112 = .ok (.aload_n 2, 1))
theorem d_Re_takePlan_113 : m_D k_Re_takePlan 113 (.aload_n 0) 1 := (by decide +kernel : decode prog_8_method_11_code 113 = .ok (.aload_n 0, 1))
theorem d_Re_takePlan_114 : m_D k_Re_takePlan 114 (.invokestatic 176) 3 := (by decide +kernel : decode prog_8_method_11_code 114 = .ok (.invokestatic 176, 3))
theorem d_Re_takePlan_117 : m_D k_Re_takePlan 117 (.invokestatic 168) 3 := (by decide +kernel : decode prog_8_method_11_code 117 = .ok (.invokestatic 168, 3))
theorem d_Re_takePlan_120 : m_D k_Re_takePlan 120 (.ifCond .eq 16) 3 := (by decide +kernel : decode prog_8_method_11_code 120 = .ok (.ifCond .eq 16, 3))
theorem d_Re_takePlan_123 : m_D k_Re_takePlan 123 (.aload_n 0) 1 := (by decide +kernel : decode prog_8_method_11_code 123 = .ok (.aload_n 0, 1))
theorem d_Re_takePlan_124 : m_D k_Re_takePlan 124 (.aload_n 1) 1 := (by decide +kernel : decode prog_8_method_11_code 124 = .ok (.aload_n 1, 1))
theorem d_Re_takePlan_125 : m_D k_Re_takePlan 125 (.aload_n 2) 1 := (by decide +kernel : decode prog_8_method_11_code 125 = .ok (.aload_n 2, 1))
theorem d_Re_takePlan_126 : m_D k_Re_takePlan 126 (.invokestatic 180) 3 := (by decide +kernel : decode prog_8_method_11_code 126 = .ok (.invokestatic 180, 3))
theorem d_Re_takePlan_129 : m_D k_Re_takePlan 129 (.ifCond .eq 7) 3 := (by decide +kernel : decode prog_8_method_11_code 129 = .ok (.ifCond .eq 7, 3))
theorem d_Re_takePlan_132 : m_D k_Re_takePlan 132 (.iconst 1) 1 := (by decide +kernel : decode prog_8_method_11_code 132 = .ok (.iconst 1, 1))
theorem d_Re_takePlan_133 : m_D k_Re_takePlan 133 (.goto 4) 3 := (by decide +kernel : decode prog_8_method_11_code 133 = .ok (.goto 4, 3))
theorem d_Re_takePlan_136 : m_D k_Re_takePlan 136 (.iconst 0) 1 := (by decide +kernel : decode prog_8_method_11_code 136 = .ok (.iconst 0, 1))
theorem d_Re_takePlan_137 : m_D k_Re_takePlan 137 (.istore 4) 2 := (by decide +kernel : decode prog_8_method_11_code 137 = .ok (.istore 4, 2))
theorem d_Re_takePlan_139 : m_D k_Re_takePlan 139 (.iload 4) 2 := (by decide +kernel : decode prog_8_method_11_code 139 = .ok (.iload 4, 2))
theorem d_Re_takePlan_141 : m_D k_Re_takePlan 141 (.ifCond .eq 10) 3 := (by decide +kernel : decode prog_8_method_11_code 141 = .ok (.ifCond .eq 10, 3))
theorem d_Re_takePlan_144 : m_D k_Re_takePlan 144 (.aload_n 0) 1 := (by decide +kernel : decode prog_8_method_11_code 144 = .ok (.aload_n 0, 1))
theorem d_Re_takePlan_145 : m_D k_Re_takePlan 145 (.invokevirtual 100) 3 := (by decide +kernel : decode prog_8_method_11_code 145 = .ok (.invokevirtual 100, 3))
theorem d_Re_takePlan_148 : m_D k_Re_takePlan 148 (.ifCond .ne 5) 3 := (by decide +kernel : decode prog_8_method_11_code 148 = .ok (.ifCond .ne 5, 3))
theorem d_Re_takePlan_151 : m_D k_Re_takePlan 151 (.iconst 0) 1 := (by decide +kernel : decode prog_8_method_11_code 151 = .ok (.iconst 0, 1))
theorem d_Re_takePlan_152 : m_D k_Re_takePlan 152 (.ireturn) 1 := (by decide +kernel : decode prog_8_method_11_code 152 = .ok (.ireturn, 1))
theorem d_Re_takePlan_153 : m_D k_Re_takePlan 153 (.iinc 3 1) 3 := (by decide +kernel : decode prog_8_method_11_code 153 = .ok (.iinc 3 1, 3))
theorem d_Re_takePlan_156 : m_D k_Re_takePlan 156 (.goto (-150)) 3 := (by decide +kernel : decode prog_8_method_11_code 156 = .ok (.goto (-150), 3))
theorem d_Re_takePlan_159 : m_D k_Re_takePlan 159 (.iconst 0) 1 := (by decide +kernel : decode prog_8_method_11_code 159 = .ok (.iconst 0, 1))
theorem d_Re_takePlan_160 : m_D k_Re_takePlan 160 (.ireturn) 1 := (by decide +kernel : decode prog_8_method_11_code 160 = .ok (.ireturn, 1))
def fn_Re_takePlan_l6 (x0 : Option mA) (x1 : Option mA) (x2 : Option mA) (t1 : Int32) : mP ((Int32) ⊕ (Int32)) :=
  if 300 < t1 then
    m_rt (.inr 0)
  else
    m_bd (m_gI 2 4 x0) fun v2 =>
    if v2 = 0 then
      m_bd (fn_Pl_latestOpen x2) fun v13 =>
      m_bd (α := Int32) (
        if v13 = (-1) then
          m_rt 1
        else
          m_rt 0
        ) fun (t14 : Int32) =>
      m_bd (m_pZ 6 0 x2 t14) fun _ =>
      m_bd (m_gI 6 0 x2) fun v15 =>
      if v15 = 0 then
        m_bd (fn_Tx_refuse x0 2) fun v16 =>
        if v16 = 0 then
          m_rt (.inr 0)
        else
          m_rt (.inr 1)
      else
        m_rt (.inr 1)
    else
      m_bd (fn_Tx_is x0 (some (0, 19, 0))) fun v3 =>
      m_bd (α := Int32) (
        if v3 = 0 then
          m_bd (fn_Tx_is x0 (some (0, 15, 0))) fun v4 =>
          if v4 = 0 then
            m_bd (fn_Re_stepKind x0) fun v5 =>
            m_bd (fn_Re_openStep x0 x2 v5) fun v6 =>
            if v6 = 0 then
              m_rt 0
            else
              m_bd (fn_Re_takeRest x0 x1 x2) fun v7 =>
              if v7 = 0 then
                m_rt 0
              else
                m_rt 1
          else
            m_bd (fn_Re_openStep x0 x2 9) fun v8 =>
            if v8 = 0 then
              m_rt 0
            else
              m_bd (fn_Re_takeTest x0 x1 x2) fun v9 =>
              if v9 = 0 then
                m_rt 0
              else
                m_rt 1
        else
          m_bd (fn_Re_closeBlock x0 x2) fun v10 =>
          m_rt v10
        ) fun (t11 : Int32) =>
      if t11 = 0 then
        m_rt (.inr 0)
      else
        m_bd (fn_Tx_takeEndSign x0) fun v12 =>
        if v12 = 0 then
          m_rt (.inr 0)
        else
          m_rt (.inl (t1 + 1))
def fn_Re_takePlan (x0 : Option mA) (x1 : Option mA) (x2 : Option mA) : mP Int32 :=
  m_bd (fn_Pl_clear x2) fun _ =>
  m_lp (fn_Re_takePlan_l6 x0 x1 x2) m_F 0
set_option maxHeartbeats 4000000 in
set_option maxRecDepth 100000 in
theorem sd_Re_takePlan (x0 : Option mA) (x1 : Option mA) (x2 : Option mA) : m_Sm k_Re_takePlan 11 0 0 [.inr (.inr x0), .inr (.inr x1), .inr (.inr x2)] (fn_Re_takePlan x0 x1 x2) (fun b => some (.inl b)) := by
  refine ⟨Nat.le_of_ble_eq_true rfl, ?_⟩
  refine sm_aload_n (i := 2) (j := 2) (pc' := 1) d_Re_takePlan_0 rfl rfl rfl ?_
  refine sm_callVv (ci := 6) (x := x2) (av := []) (st := []) (mc := 0) (ms := 0) (pc' := 4) d_Re_takePlan_1 rfl (sd_Pl_clear x2) m_lv rfl cv_Pl_clear w_ml_Re_74 rfl rfl (by decide) (Nat.le_of_ble_eq_true rfl) rfl rfl ?_
  refine sm_iconst (pc' := 5) d_Re_takePlan_4 rfl ic_0 (sm_istore_n (i := 3) (L' := [(3, .inl 0), (0, .inr (.inr x0)), (1, .inr (.inr x1)), (2, .inr (.inr x2))]) (pc' := 6) d_Re_takePlan_5 rfl rfl (Nat.le_of_ble_eq_true rfl) rfl ?_)
  refine sm_sub [0, 1, 2, 3] rfl ?_
  refine sm_lp (hd := fun (t1 : Int32) => (.inl (6, [(3, .inl t1), (0, .inr (.inr x0)), (1, .inr (.inr x1)), (2, .inr (.inr x2))], []) : mC)) (fun t1 => ?_) m_F 0
  refine sm_iload_n (i := 3) (j := 0) (pc' := 7) d_Re_takePlan_6 rfl rfl rfl (sm_sipush (pc' := 10) d_Re_takePlan_7 rfl is_300 ?_)
  refine sm_icmp_gt (tgt := 159) (pc' := 13) d_Re_takePlan_10 rfl rfl ?_ ?_
  · refine sm_iconst (pc' := 160) d_Re_takePlan_159 rfl ic_0 ?_
    exact sm_zreturn d_Re_takePlan_160 rfl (by decide) rfl
  · refine sm_aload_n (i := 0) (j := 1) (pc' := 14) d_Re_takePlan_13 rfl rfl rfl ?_
    refine sm_getI (pc' := 17) d_Re_takePlan_14 rfl fl_Re_15 rfl ⟨by decide, by decide⟩ (fun v2 => ?_)
    refine sm_if_ne (tgt := 58) (pc' := 20) d_Re_takePlan_17 rfl rfl ?_ ?_
    · refine sm_aload_n (i := 0) (j := 1) (pc' := 59) d_Re_takePlan_58 rfl rfl rfl (sm_ldcS (j := 19) (pc' := 61) d_Re_takePlan_59 rfl (by decide) ?_)
      refine sm_callVi (ci := 2) (x := x0) (av := [.inr (.inr (some (0, 19, 0)))]) (st := []) (mc := 0) (ms := 0) (pc' := 64) d_Re_takePlan_61 rfl (sd_Tx_is x0 (some (0, 19, 0))) m_lv rfl cv_Tx_is w_ml_Re_26 rfl rfl (by decide) (Nat.le_of_ble_eq_true rfl) rfl rfl (fun v3 => ?_)
      refine sm_bd (mid := fun (t11 : Int32) => .inl (137, [(0, .inr (.inr x0)), (1, .inr (.inr x1)), (2, .inr (.inr x2)), (3, .inl t1)], [.inl t11])) ?_ (fun t11 => ?_)
      · refine sm_if_eq (tgt := 75) (pc' := 67) d_Re_takePlan_64 rfl rfl ?_ ?_
        · refine sm_aload_n (i := 0) (j := 1) (pc' := 76) d_Re_takePlan_75 rfl rfl rfl (sm_ldcS (j := 15) (pc' := 78) d_Re_takePlan_76 rfl (by decide) ?_)
          refine sm_callVi (ci := 2) (x := x0) (av := [.inr (.inr (some (0, 15, 0)))]) (st := []) (mc := 0) (ms := 0) (pc' := 81) d_Re_takePlan_78 rfl (sd_Tx_is x0 (some (0, 15, 0))) m_lv rfl cv_Tx_is w_ml_Re_26 rfl rfl (by decide) (Nat.le_of_ble_eq_true rfl) rfl rfl (fun v4 => ?_)
          refine sm_if_eq (tgt := 111) (pc' := 84) d_Re_takePlan_81 rfl rfl ?_ ?_
          · refine sm_aload_n (i := 0) (j := 1) (pc' := 112) d_Re_takePlan_111 rfl rfl rfl (sm_aload_n (i := 2) (j := 3) (pc' := 113) d_Re_takePlan_112 rfl rfl rfl (sm_aload_n (i := 0) (j := 1) (pc' := 114) d_Re_takePlan_113 rfl rfl rfl ?_))
            refine sm_callSi (av := [.inr (.inr x0)]) (st := [.inr (.inr x2), .inr (.inr x0)]) (mc := 0) (ms := 0) (pc' := 117) d_Re_takePlan_114 rfl (sd_Re_stepKind x0) cs_Re_stepKind w_ml_Re_176 rfl rfl (by decide) (Nat.le_of_ble_eq_true rfl) rfl rfl (fun v5 => ?_)
            refine sm_callSi (av := [.inr (.inr x0), .inr (.inr x2), .inl v5]) (st := []) (mc := 0) (ms := 0) (pc' := 120) d_Re_takePlan_117 rfl (sd_Re_openStep x0 x2 v5) cs_Re_openStep w_ml_Re_168 rfl rfl (by decide) (Nat.le_of_ble_eq_true rfl) rfl rfl (fun v6 => ?_)
            refine sm_if_eq (tgt := 136) (pc' := 123) d_Re_takePlan_120 rfl rfl ?_ ?_
            · refine sm_iconst (pc' := 137) d_Re_takePlan_136 rfl ic_0 (sm_sub [1, 2, 3, 0] rfl ?_)
              exact sm_rt rfl
            · refine sm_aload_n (i := 0) (j := 1) (pc' := 124) d_Re_takePlan_123 rfl rfl rfl (sm_aload_n (i := 1) (j := 2) (pc' := 125) d_Re_takePlan_124 rfl rfl rfl (sm_aload_n (i := 2) (j := 3) (pc' := 126) d_Re_takePlan_125 rfl rfl rfl ?_))
              refine sm_callSi (av := [.inr (.inr x0), .inr (.inr x1), .inr (.inr x2)]) (st := []) (mc := 0) (ms := 0) (pc' := 129) d_Re_takePlan_126 rfl (sd_Re_takeRest x0 x1 x2) cs_Re_takeRest w_ml_Re_180 rfl rfl (by decide) (Nat.le_of_ble_eq_true rfl) rfl rfl (fun v7 => ?_)
              refine sm_if_eq (tgt := 136) (pc' := 132) d_Re_takePlan_129 rfl rfl ?_ ?_
              · refine sm_iconst (pc' := 137) d_Re_takePlan_136 rfl ic_0 (sm_sub [1, 2, 3, 0] rfl ?_)
                exact sm_rt rfl
              · refine sm_iconst (pc' := 133) d_Re_takePlan_132 rfl ic_1 (sm_goto (tgt := 137) d_Re_takePlan_133 rfl (sm_sub [1, 2, 3, 0] rfl ?_))
                exact sm_rt rfl
          · refine sm_aload_n (i := 0) (j := 1) (pc' := 85) d_Re_takePlan_84 rfl rfl rfl (sm_aload_n (i := 2) (j := 3) (pc' := 86) d_Re_takePlan_85 rfl rfl rfl (sm_bipush (pc' := 88) d_Re_takePlan_86 rfl ib_9 ?_))
            refine sm_callSi (av := [.inr (.inr x0), .inr (.inr x2), .inl 9]) (st := []) (mc := 0) (ms := 0) (pc' := 91) d_Re_takePlan_88 rfl (sd_Re_openStep x0 x2 9) cs_Re_openStep w_ml_Re_168 rfl rfl (by decide) (Nat.le_of_ble_eq_true rfl) rfl rfl (fun v8 => ?_)
            refine sm_if_eq (tgt := 107) (pc' := 94) d_Re_takePlan_91 rfl rfl ?_ ?_
            · refine sm_iconst (pc' := 108) d_Re_takePlan_107 rfl ic_0 (sm_goto (tgt := 137) d_Re_takePlan_108 rfl (sm_sub [1, 2, 3, 0] rfl ?_))
              exact sm_rt rfl
            · refine sm_aload_n (i := 0) (j := 1) (pc' := 95) d_Re_takePlan_94 rfl rfl rfl (sm_aload_n (i := 1) (j := 2) (pc' := 96) d_Re_takePlan_95 rfl rfl rfl (sm_aload_n (i := 2) (j := 3) (pc' := 97) d_Re_takePlan_96 rfl rfl rfl ?_))
              refine sm_callSi (av := [.inr (.inr x0), .inr (.inr x1), .inr (.inr x2)]) (st := []) (mc := 0) (ms := 0) (pc' := 100) d_Re_takePlan_97 rfl (sd_Re_takeTest x0 x1 x2) cs_Re_takeTest w_ml_Re_172 rfl rfl (by decide) (Nat.le_of_ble_eq_true rfl) rfl rfl (fun v9 => ?_)
              refine sm_if_eq (tgt := 107) (pc' := 103) d_Re_takePlan_100 rfl rfl ?_ ?_
              · refine sm_iconst (pc' := 108) d_Re_takePlan_107 rfl ic_0 (sm_goto (tgt := 137) d_Re_takePlan_108 rfl (sm_sub [1, 2, 3, 0] rfl ?_))
                exact sm_rt rfl
              · refine sm_iconst (pc' := 104) d_Re_takePlan_103 rfl ic_1 (sm_goto (tgt := 137) d_Re_takePlan_104 rfl (sm_sub [1, 2, 3, 0] rfl ?_))
                exact sm_rt rfl
        · refine sm_aload_n (i := 0) (j := 1) (pc' := 68) d_Re_takePlan_67 rfl rfl rfl (sm_aload_n (i := 2) (j := 3) (pc' := 69) d_Re_takePlan_68 rfl rfl rfl ?_)
          refine sm_callSi (av := [.inr (.inr x0), .inr (.inr x2)]) (st := []) (mc := 0) (ms := 0) (pc' := 72) d_Re_takePlan_69 rfl (sd_Re_closeBlock x0 x2) cs_Re_closeBlock w_ml_Re_162 rfl rfl (by decide) (Nat.le_of_ble_eq_true rfl) rfl rfl (fun v10 => ?_)
          refine sm_goto (tgt := 137) d_Re_takePlan_72 rfl (sm_sub [1, 2, 3, 0] rfl ?_)
          exact sm_rt rfl
      · refine sm_istore (L' := [(4, .inl t11), (0, .inr (.inr x0)), (1, .inr (.inr x1)), (2, .inr (.inr x2)), (3, .inl t1)]) (pc' := 139) d_Re_takePlan_137 rfl (Nat.le_of_ble_eq_true rfl) rfl (sm_iload (j := 0) (pc' := 141) d_Re_takePlan_139 rfl rfl ?_)
        refine sm_if_eq (tgt := 151) (pc' := 144) d_Re_takePlan_141 rfl rfl ?_ ?_
        · refine sm_iconst (pc' := 152) d_Re_takePlan_151 rfl ic_0 ?_
          exact sm_zreturn d_Re_takePlan_152 rfl (by decide) rfl
        · refine sm_aload_n (i := 0) (j := 1) (pc' := 145) d_Re_takePlan_144 rfl rfl rfl ?_
          refine sm_callVi (ci := 2) (x := x0) (av := []) (st := []) (mc := 0) (ms := 0) (pc' := 148) d_Re_takePlan_145 rfl (sd_Tx_takeEndSign x0) m_lv rfl cv_Tx_takeEndSign w_ml_Re_100 rfl rfl (by decide) (Nat.le_of_ble_eq_true rfl) rfl rfl (fun v12 => ?_)
          refine sm_if_ne (tgt := 153) (pc' := 151) d_Re_takePlan_148 rfl rfl ?_ ?_
          · refine sm_iinc (j := 4) (L' := [(3, .inl (t1 + 1)), (4, .inl t11), (0, .inr (.inr x0)), (1, .inr (.inr x1)), (2, .inr (.inr x2))]) (pc' := 156) d_Re_takePlan_153 rfl (v := (t1 + 1)) rfl (ix_1 _) (Nat.le_of_ble_eq_true rfl) rfl (sm_goto (tgt := 6) d_Re_takePlan_156 rfl (sm_sub [0, 2, 3, 4] rfl ?_))
            exact sm_rt rfl
          · refine sm_iconst (pc' := 152) d_Re_takePlan_151 rfl ic_0 ?_
            exact sm_zreturn d_Re_takePlan_152 rfl (by decide) rfl
    · refine sm_aload_n (i := 2) (j := 3) (pc' := 21) d_Re_takePlan_20 rfl rfl rfl (sm_aload_n (i := 2) (j := 3) (pc' := 22) d_Re_takePlan_21 rfl rfl rfl ?_)
      refine sm_callVi (ci := 6) (x := x2) (av := []) (st := [.inr (.inr x2)]) (mc := 0) (ms := 0) (pc' := 25) d_Re_takePlan_22 rfl (sd_Pl_latestOpen x2) m_lv rfl cv_Pl_latestOpen w_ml_Re_152 rfl rfl (by decide) (Nat.le_of_ble_eq_true rfl) rfl rfl (fun v13 => ?_)
      refine sm_iconst (pc' := 26) d_Re_takePlan_25 rfl ic_m1 ?_
      refine sm_bd (mid := fun (t14 : Int32) => .inl (34, [(0, .inr (.inr x0)), (2, .inr (.inr x2))], [.inl t14, .inr (.inr x2)])) ?_ (fun t14 => ?_)
      · refine sm_icmp_ne (tgt := 33) (pc' := 29) d_Re_takePlan_26 rfl rfl ?_ ?_
        · refine sm_iconst (pc' := 34) d_Re_takePlan_33 rfl ic_0 (sm_sub [1, 3] rfl ?_)
          exact sm_rt rfl
        · refine sm_iconst (pc' := 30) d_Re_takePlan_29 rfl ic_1 (sm_goto (tgt := 34) d_Re_takePlan_30 rfl (sm_sub [1, 3] rfl ?_))
          exact sm_rt rfl
      · refine sm_putZ (pc' := 37) d_Re_takePlan_34 rfl fl_Re_156 (Or.inl rfl) rfl (sm_aload_n (i := 2) (j := 1) (pc' := 38) d_Re_takePlan_37 rfl rfl rfl ?_)
        refine sm_getI (pc' := 41) d_Re_takePlan_38 rfl fl_Re_156 rfl ⟨by decide, by decide⟩ (fun v15 => ?_)
        refine sm_if_ne (tgt := 52) (pc' := 44) d_Re_takePlan_41 rfl rfl ?_ ?_
        · refine sm_iconst (pc' := 53) d_Re_takePlan_52 rfl ic_1 (sm_goto (tgt := 57) d_Re_takePlan_53 rfl ?_)
          exact sm_zreturn d_Re_takePlan_57 rfl (by decide) rfl
        · refine sm_aload_n (i := 0) (j := 0) (pc' := 45) d_Re_takePlan_44 rfl rfl rfl (sm_iconst (pc' := 46) d_Re_takePlan_45 rfl ic_2 ?_)
          refine sm_callVi (ci := 2) (x := x0) (av := [.inl 2]) (st := []) (mc := 0) (ms := 0) (pc' := 49) d_Re_takePlan_46 rfl (sd_Tx_refuse x0 2) m_lv rfl cv_Tx_refuse w_ml_Re_89 rfl rfl (by decide) (Nat.le_of_ble_eq_true rfl) rfl rfl (fun v16 => ?_)
          refine sm_if_eq (tgt := 56) (pc' := 52) d_Re_takePlan_49 rfl rfl ?_ ?_
          · refine sm_iconst (pc' := 57) d_Re_takePlan_56 rfl ic_0 ?_
            exact sm_zreturn d_Re_takePlan_57 rfl (by decide) rfl
          · refine sm_iconst (pc' := 53) d_Re_takePlan_52 rfl ic_1 (sm_goto (tgt := 57) d_Re_takePlan_53 rfl ?_)
            exact sm_zreturn d_Re_takePlan_57 rfl (by decide) rfl
theorem d_C_years_0 : m_D k_C_years 0 (.aload_n 0) 1 := (by decide +kernel : decode prog_1_method_15_code 0 = .ok (.aload_n 0, 1))
theorem d_C_years_1 : m_D k_C_years 1 (.iload_n 1) 1 := (by decide +kernel : decode prog_1_method_15_code 1 = .ok (.iload_n 1, 1))
theorem d_C_years_2 : m_D k_C_years 2 (.ifCond .lt 21) 3 := (by decide +kernel : decode prog_1_method_15_code 2 = .ok (.ifCond .lt 21, 3))
theorem d_C_years_5 : m_D k_C_years 5 (.iload_n 1) 1 := (by decide +kernel : decode prog_1_method_15_code 5 = .ok (.iload_n 1, 1))
theorem d_C_years_6 : m_D k_C_years 6 (.aload_n 0) 1 := (by decide +kernel : decode prog_1_method_15_code 6 = .ok (.aload_n 0, 1))
theorem d_C_years_7 : m_D k_C_years 7 (.getfield 30) 3 := (by decide +kernel : decode prog_1_method_15_code 7 = .ok (.getfield 30, 3))
theorem d_C_years_10 : m_D k_C_years 10 (.getfield 141) 3 := (by decide +kernel : decode prog_1_method_15_code 10 = .ok (.getfield 141, 3))
theorem d_C_years_13 : m_D k_C_years 13 (.if_icmp .gt 10) 3 := (by decide +kernel : decode prog_1_method_15_code 13 = .ok (.if_icmp .gt 10, 3))
theorem d_C_years_16 : m_D k_C_years 16 (.iload_n 1) 1 := (by decide +kernel : decode prog_1_method_15_code 16 = .ok (.iload_n 1, 1))
theorem d_C_years_17 : m_D k_C_years 17 (.sipush 300) 3 := (by decide +kernel : decode prog_1_method_15_code 17 = .ok (.sipush 300, 3))
theorem d_C_years_20 : m_D k_C_years 20 (.if_icmp .le 7) 3 := (by decide +kernel : decode prog_1_method_15_code 20 = .ok (.if_icmp .le 7, 3))
theorem d_C_years_23 : m_D k_C_years 23 (.iconst 5) 1 := (by decide +kernel : decode prog_1_method_15_code 23 = .ok (.iconst 5, 1))
theorem d_C_years_24 : m_D k_C_years 24 (.goto 4) 3 := (by decide +kernel : decode prog_1_method_15_code 24 = .ok (.goto 4, 3))
theorem d_C_years_27 : m_D k_C_years 27 (.iconst 0) 1 := (by decide +kernel : decode prog_1_method_15_code 27 = .ok (.iconst 0, 1))
theorem d_C_years_28 : m_D k_C_years 28 (.putfield 9) 3 := (by decide +kernel : decode prog_1_method_15_code 28 = .ok (.putfield 9, 3))
theorem d_C_years_31 : m_D k_C_years 31 (.aload_n 0) 1 := (by decide +kernel : decode prog_1_method_15_code 31 = .ok (.aload_n 0, 1))
theorem d_C_years_32 : m_D k_C_years 32 (.getfield 9) 3 := (by decide +kernel : decode prog_1_method_15_code 32 = .ok (.getfield 9, 3))
theorem d_C_years_35 : m_D k_C_years 35 (.ifCond .eq 5) 3 := (by decide +kernel : decode prog_1_method_15_code 35 = .ok (.ifCond .eq 5, 3))
theorem d_C_years_38 : m_D k_C_years 38 (.iconst (-1)) 1 := (by decide +kernel : decode prog_1_method_15_code 38 = .ok (.iconst (-1), 1))
theorem d_C_years_39 : m_D k_C_years 39 (.ireturn) 1 := (by decide +kernel : decode prog_1_method_15_code 39 = .ok (.ireturn, 1))
theorem d_C_years_40 : m_D k_C_years 40 (.aload_n 0) 1 := (by decide +kernel : decode prog_1_method_15_code 40 = .ok (.aload_n 0, 1))
theorem d_C_years_41 : m_D k_C_years 41 (.getfield 30) 3 := (by decide +kernel : decode prog_1_method_15_code 41 = .ok (.getfield 30, 3))
theorem d_C_years_44 : m_D k_C_years 44 (.iload_n 1) 1 := (by decide +kernel : decode prog_1_method_15_code 44 = .ok (.iload_n 1, 1))
theorem d_C_years_45 : m_D k_C_years 45 (.invokevirtual 147) 3 := (by decide +kernel : decode prog_1_method_15_code 45 = .ok (.invokevirtual 147, 3))
theorem d_C_years_48 : m_D k_C_years 48 (.aload_n 0) 1 := (by decide +kernel : decode prog_1_method_15_code 48 = .ok (.aload_n 0, 1))
theorem d_C_years_49 : m_D k_C_years 49 (.getfield 30) 3 := (by decide +kernel : decode prog_1_method_15_code 49 = .ok (.getfield 30, 3))
theorem d_C_years_52 : m_D k_C_years 52 (.aload_n 0) 1 := (by decide +kernel : decode prog_1_method_15_code 52 = .ok (.aload_n 0, 1))
theorem d_C_years_53 : m_D k_C_years 53 (.getfield 37) 3 := (by decide +kernel : decode prog_1_method_15_code 53 = .ok (.getfield 37, 3))
theorem d_C_years_56 : m_D k_C_years 56 (.aload_n 0) 1 := (by decide +kernel : decode prog_1_method_15_code 56 = .ok (.aload_n 0, 1))
theorem d_C_years_57 : m_D k_C_years 57 (.getfield 47) 3 := (by decide +kernel : decode prog_1_method_15_code 57 = .ok (.getfield 47, 3))
theorem d_C_years_60 : m_D k_C_years 60 (.invokestatic 159) 3 := (by decide +kernel : decode prog_1_method_15_code 60 = .ok (.invokestatic 159, 3))
theorem d_C_years_63 : m_D k_C_years 63 (.ifCond .ne 11) 3 := (by decide +kernel : decode prog_1_method_15_code 63 = .ok (.ifCond .ne 11, 3))
theorem d_C_years_66 : m_D k_C_years 66 (.aload_n 0) 1 := (by decide +kernel : decode prog_1_method_15_code 66 = .ok (.aload_n 0, 1))
theorem d_C_years_67 : m_D k_C_years 67 (.bipush 10) 2 := (by decide +kernel : decode prog_1_method_15_code 67 = .ok (.bipush 10, 2))
theorem d_C_years_69 : m_D k_C_years 69 (.putfield 9) 3 := (by decide +kernel : decode prog_1_method_15_code 69 = .ok (.putfield 9, 3))
theorem d_C_years_72 : m_D k_C_years 72 (.iconst (-1)) 1 := (by decide +kernel : decode prog_1_method_15_code 72 = .ok (.iconst (-1), 1))
theorem d_C_years_73 : m_D k_C_years 73 (.ireturn) 1 := (by decide +kernel : decode prog_1_method_15_code 73 = .ok (.ireturn, 1))
theorem d_C_years_74 : m_D k_C_years 74 (.aload_n 0) 1 := (by decide +kernel : decode prog_1_method_15_code 74 = .ok (.aload_n 0, 1))
theorem d_C_years_75 : m_D k_C_years 75 (.getfield 37) 3 := (by decide +kernel : decode prog_1_method_15_code 75 = .ok (.getfield 37, 3))
theorem d_C_years_78 : m_D k_C_years 78 (.getfield 163) 3 := (by decide +kernel : decode prog_1_method_15_code 78 = .ok (.getfield 163, 3))
theorem d_C_years_81 : m_D k_C_years 81 (.astore_n 2) 1 := (by decide +kernel : decode prog_1_method_15_code 81 = .ok (.astore_n 2, 1))
theorem d_C_years_82 : m_D k_C_years 82 (.aload_n 0) 1 := (by decide +kernel : decode prog_1_method_15_code 82 = .ok (.aload_n 0, 1))
theorem d_C_years_83 : m_D k_C_years 83 (.getfield 37) 3 := (by decide +kernel : decode prog_1_method_15_code 83 = .ok (.getfield 37, 3))
theorem d_C_years_86 : m_D k_C_years 86 (.aload_n 0) 1 := (by decide +kernel : decode prog_1_method_15_code 86 = .ok (.aload_n 0, 1))
theorem d_C_years_87 : m_D k_C_years 87 (.getfield 47) 3 := (by decide +kernel : decode prog_1_method_15_code 87 = .ok (.getfield 47, 3))
theorem d_C_years_90 : m_D k_C_years 90 (.putfield 163) 3 := (by decide +kernel : decode prog_1_method_15_code 90 = .ok (.putfield 163, 3))
theorem d_C_years_93 : m_D k_C_years 93 (.aload_n 0) 1 := (by decide +kernel : decode prog_1_method_15_code 93 = .ok (.aload_n 0, 1))
theorem d_C_years_94 : m_D k_C_years 94 (.aload_n 2) 1 := (by decide +kernel : decode prog_1_method_15_code 94 = .ok (.aload_n 2, 1))
theorem d_C_years_95 : m_D k_C_years 95 (.putfield 47) 3 := (by decide +kernel : decode prog_1_method_15_code 95 = .ok (.putfield 47, 3))
theorem d_C_years_98 : m_D k_C_years 98 (.aload_n 0) 1 := (by decide +kernel : decode prog_1_method_15_code 98 = .ok (.aload_n 0, 1))
theorem d_C_years_99 : m_D k_C_years 99 (.getfield 37) 3 := (by decide +kernel : decode prog_1_method_15_code 99 = .ok (.getfield 37, 3))
theorem d_C_years_102 : m_D k_C_years 102 (.getfield 163) 3 := (by decide +kernel : decode prog_1_method_15_code 102 = .ok (.getfield 163, 3))
theorem d_C_years_105 : m_D k_C_years 105 (.getfield 166) 3 := (by decide +kernel : decode prog_1_method_15_code 105 = .ok (.getfield 166, 3))
theorem d_C_years_108 : m_D k_C_years 108 (.ireturn) 1 := (by decide +kernel : decode prog_1_method_15_code 108 = .ok (.ireturn, 1))
def fn_C_years (x0 : Option mA) (x1 : Int32) : mP Int32 :=
  m_th 0 x0 <|
  m_bd (α := Int32) (
    if x1 < 0 then
      m_rt 5
    else
      m_bd (m_gR 0 4 x0) fun v1 =>
      m_bd (m_gI 2 1 v1) fun v2 =>
      if v2 < x1 then
        m_rt 5
      else
        if x1 ≤ 300 then
          m_rt 0
        else
          m_rt 5
    ) fun (t3 : Int32) =>
  m_bd (m_pI 0 0 x0 t3) fun _ =>
  m_bd (m_gI 0 0 x0) fun v4 =>
  if v4 = 0 then
    m_bd (m_gR 0 4 x0) fun v5 =>
    m_bd (fn_Tx_open v5 x1) fun _ =>
    m_bd (m_gR 0 4 x0) fun v6 =>
    m_bd (m_gR 0 5 x0) fun v7 =>
    m_bd (m_gR 0 7 x0) fun v8 =>
    m_bd (fn_Re_takePlan v6 v7 v8) fun v9 =>
    if v9 = 0 then
      m_bd (m_pI 0 0 x0 10) fun _ =>
      m_rt (-1)
    else
      m_bd (m_gR 0 5 x0) fun v10 =>
      m_bd (m_gR 3 9 v10) fun v11 =>
      m_bd (m_gR 0 5 x0) fun v12 =>
      m_bd (m_gR 0 7 x0) fun v13 =>
      m_bd (m_pR 3 9 v12 v13) fun _ =>
      m_bd (m_pR 0 7 x0 v11) fun _ =>
      m_bd (m_gR 0 5 x0) fun v14 =>
      m_bd (m_gR 3 9 v14) fun v15 =>
      m_bd (m_gI 6 1 v15) fun v16 =>
      m_rt v16
  else
    m_rt (-1)
set_option maxHeartbeats 4000000 in
set_option maxRecDepth 100000 in
theorem sd_C_years (x0 : Option mA) (x1 : Int32) : m_Sm k_C_years 12 0 0 [.inr (.inr x0), .inl x1] (fn_C_years x0 x1) (fun b => some (.inl b)) := by
  refine ⟨Nat.le_of_ble_eq_true rfl, ?_⟩
  refine sm_th ?_
  refine sm_aload_n (i := 0) (j := 0) (pc' := 1) d_C_years_0 rfl rfl rfl (sm_iload_n (i := 1) (j := 1) (pc' := 2) d_C_years_1 rfl rfl rfl ?_)
  refine sm_bd (mid := fun (t3 : Int32) => .inl (28, [(0, .inr (.inr x0)), (1, .inl x1)], [.inl t3, .inr (.inr x0)])) ?_ (fun t3 => ?_)
  · refine sm_if_lt (tgt := 23) (pc' := 5) d_C_years_2 rfl rfl ?_ ?_
    · refine sm_iconst (pc' := 24) d_C_years_23 rfl ic_5 (sm_goto (tgt := 28) d_C_years_24 rfl (sm_sub [0, 1] rfl ?_))
      exact sm_rt rfl
    · refine sm_iload_n (i := 1) (j := 1) (pc' := 6) d_C_years_5 rfl rfl rfl (sm_aload_n (i := 0) (j := 0) (pc' := 7) d_C_years_6 rfl rfl rfl ?_)
      refine sm_getR (pc' := 10) d_C_years_7 rfl fl_C_30 rfl rfl (fun v1 => ?_)
      refine sm_getI (pc' := 13) d_C_years_10 rfl fl_C_141 rfl ⟨by decide, by decide⟩ (fun v2 => ?_)
      refine sm_icmp_gt (tgt := 23) (pc' := 16) d_C_years_13 rfl rfl ?_ ?_
      · refine sm_iconst (pc' := 24) d_C_years_23 rfl ic_5 (sm_goto (tgt := 28) d_C_years_24 rfl (sm_sub [0, 1] rfl ?_))
        exact sm_rt rfl
      · refine sm_iload_n (i := 1) (j := 1) (pc' := 17) d_C_years_16 rfl rfl rfl (sm_sipush (pc' := 20) d_C_years_17 rfl is_300 ?_)
        refine sm_icmp_le (tgt := 27) (pc' := 23) d_C_years_20 rfl rfl ?_ ?_
        · refine sm_iconst (pc' := 28) d_C_years_27 rfl ic_0 (sm_sub [0, 1] rfl ?_)
          exact sm_rt rfl
        · refine sm_iconst (pc' := 24) d_C_years_23 rfl ic_5 (sm_goto (tgt := 28) d_C_years_24 rfl (sm_sub [0, 1] rfl ?_))
          exact sm_rt rfl
  · refine sm_putI (pc' := 31) d_C_years_28 rfl fl_C_9 (Or.inl rfl) rfl (sm_aload_n (i := 0) (j := 0) (pc' := 32) d_C_years_31 rfl rfl rfl ?_)
    refine sm_getI (pc' := 35) d_C_years_32 rfl fl_C_9 rfl ⟨by decide, by decide⟩ (fun v4 => ?_)
    refine sm_if_eq (tgt := 40) (pc' := 38) d_C_years_35 rfl rfl ?_ ?_
    · refine sm_aload_n (i := 0) (j := 0) (pc' := 41) d_C_years_40 rfl rfl rfl ?_
      refine sm_getR (pc' := 44) d_C_years_41 rfl fl_C_30 rfl rfl (fun v5 => ?_)
      refine sm_iload_n (i := 1) (j := 1) (pc' := 45) d_C_years_44 rfl rfl rfl ?_
      refine sm_callVv (ci := 2) (x := v5) (av := [.inl x1]) (st := []) (mc := 0) (ms := 0) (pc' := 48) d_C_years_45 rfl (sd_Tx_open v5 x1) m_lv rfl cv_Tx_open w_ml_C_147 rfl rfl (by decide) (Nat.le_of_ble_eq_true rfl) rfl rfl ?_
      refine sm_aload_n (i := 0) (j := 0) (pc' := 49) d_C_years_48 rfl rfl rfl ?_
      refine sm_getR (pc' := 52) d_C_years_49 rfl fl_C_30 rfl rfl (fun v6 => ?_)
      refine sm_aload_n (i := 0) (j := 0) (pc' := 53) d_C_years_52 rfl rfl rfl ?_
      refine sm_getR (pc' := 56) d_C_years_53 rfl fl_C_37 rfl rfl (fun v7 => ?_)
      refine sm_aload_n (i := 0) (j := 0) (pc' := 57) d_C_years_56 rfl rfl rfl ?_
      refine sm_getR (pc' := 60) d_C_years_57 rfl fl_C_47 rfl rfl (fun v8 => ?_)
      refine sm_callSi (av := [.inr (.inr v6), .inr (.inr v7), .inr (.inr v8)]) (st := []) (mc := 0) (ms := 0) (pc' := 63) d_C_years_60 rfl (sd_Re_takePlan v6 v7 v8) cs_Re_takePlan w_ml_C_159 rfl rfl (by decide) (Nat.le_of_ble_eq_true rfl) rfl rfl (fun v9 => ?_)
      refine sm_if_ne (tgt := 74) (pc' := 66) d_C_years_63 rfl rfl ?_ ?_
      · refine sm_aload_n (i := 0) (j := 0) (pc' := 75) d_C_years_74 rfl rfl rfl ?_
        refine sm_getR (pc' := 78) d_C_years_75 rfl fl_C_37 rfl rfl (fun v10 => ?_)
        refine sm_getR (pc' := 81) d_C_years_78 rfl fl_C_163 rfl rfl (fun v11 => ?_)
        refine sm_astore_n (i := 2) (L' := [(2, .inr (.inr v11)), (0, .inr (.inr x0)), (1, .inl x1)]) (pc' := 82) d_C_years_81 rfl rfl (Nat.le_of_ble_eq_true rfl) rfl (sm_aload_n (i := 0) (j := 1) (pc' := 83) d_C_years_82 rfl rfl rfl ?_)
        refine sm_getR (pc' := 86) d_C_years_83 rfl fl_C_37 rfl rfl (fun v12 => ?_)
        refine sm_aload_n (i := 0) (j := 1) (pc' := 87) d_C_years_86 rfl rfl rfl ?_
        refine sm_getR (pc' := 90) d_C_years_87 rfl fl_C_47 rfl rfl (fun v13 => ?_)
        refine sm_putR (pc' := 93) d_C_years_90 rfl fl_C_163 rfl (Or.inl rfl) rfl (sm_aload_n (i := 0) (j := 1) (pc' := 94) d_C_years_93 rfl rfl rfl (sm_aload_n (i := 2) (j := 0) (pc' := 95) d_C_years_94 rfl rfl rfl (sm_putR (pc' := 98) d_C_years_95 rfl fl_C_47 rfl (Or.inl rfl) rfl (sm_aload_n (i := 0) (j := 1) (pc' := 99) d_C_years_98 rfl rfl rfl ?_))))
        refine sm_getR (pc' := 102) d_C_years_99 rfl fl_C_37 rfl rfl (fun v14 => ?_)
        refine sm_getR (pc' := 105) d_C_years_102 rfl fl_C_163 rfl rfl (fun v15 => ?_)
        refine sm_getI (pc' := 108) d_C_years_105 rfl fl_C_166 rfl ⟨by decide, by decide⟩ (fun v16 => ?_)
        exact sm_ireturn d_C_years_108 rfl rfl
      · refine sm_aload_n (i := 0) (j := 0) (pc' := 67) d_C_years_66 rfl rfl rfl (sm_bipush (pc' := 69) d_C_years_67 rfl ib_10 (sm_putI (pc' := 72) d_C_years_69 rfl fl_C_9 (Or.inl rfl) rfl (sm_iconst (pc' := 73) d_C_years_72 rfl ic_m1 ?_)))
        exact sm_ireturn d_C_years_73 rfl rfl
    · refine sm_iconst (pc' := 39) d_C_years_38 rfl ic_m1 ?_
      exact sm_ireturn d_C_years_39 rfl rfl
