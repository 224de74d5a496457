/-! 10.ref2, laid by wip/whole/gen.py -/
theorem d_M_readThing_0 : m_D k_M_readThing 0 (.aload_n 0) 1 := (by decide +kernel : decode prog_14_method_62_code 0 = .ok (.aload_n 0, 1))
theorem d_M_readThing_1 : m_D k_M_readThing 1 (.iconst 1) 1 := (by decide +kernel : decode prog_14_method_62_code 1 = .ok (.iconst 1, 1))
theorem d_M_readThing_2 : m_D k_M_readThing 2 (.bipush 8) 2 := (by decide +kernel : decode prog_14_method_62_code 2 = .ok (.bipush 8, 2))
theorem d_M_readThing_4 : m_D k_M_readThing 4 (.invokevirtual 259) 3 := (by decide +kernel : decode prog_14_method_62_code 4 = .ok (.invokevirtual 259, 3))
theorem d_M_readThing_7 : m_D k_M_readThing 7 (.istore_n 1) 1 := (by decide +kernel : decode prog_14_method_62_code 7 = .ok (.istore_n 1, 1))
theorem d_M_readThing_8 : m_D k_M_readThing 8 (.aload_n 0) 1 := (by decide +kernel : decode prog_14_method_62_code 8 = .ok (.aload_n 0, 1))
theorem d_M_readThing_9 : m_D k_M_readThing 9 (.aload_n 0) 1 := (by decide +kernel : decode prog_14_method_62_code 9 = .ok (.aload_n 0, 1))
theorem d_M_readThing_10 : m_D k_M_readThing 10 (.invokevirtual 202) 3 := (by decide +kernel : decode prog_14_method_62_code 10 = .ok (.invokevirtual 202, 3))
theorem d_M_readThing_13 : m_D k_M_readThing 13 (.iconst 1) 1 := (by decide +kernel : decode prog_14_method_62_code 13 = .ok (.iconst 1, 1))
theorem d_M_readThing_14 : m_D k_M_readThing 14 (.sipush 999) 3 := (by decide +kernel : decode prog_14_method_62_code 14 = .ok (.sipush 999, 3))
theorem d_M_readThing_17 : m_D k_M_readThing 17 (.invokevirtual 262) 3 := (by decide +kernel : decode prog_14_method_62_code 17 = .ok (.invokevirtual 262, 3))
theorem d_M_readThing_20 : m_D k_M_readThing 20 (.istore_n 2) 1 := (by decide +kernel : decode prog_14_method_62_code 20 = .ok (.istore_n 2, 1))
theorem d_M_readThing_21 : m_D k_M_readThing 21 (.aload_n 0) 1 := (by decide +kernel : decode prog_14_method_62_code 21 = .ok (.aload_n 0, 1))
theorem d_M_readThing_22 : m_D k_M_readThing 22 (.aload_n 0) 1 := (by decide +kernel : decode prog_14_method_62_code 22 = .ok (.aload_n 0, 1))
theorem d_M_readThing_23 : m_D k_M_readThing 23 (.invokevirtual 176) 3 := (by decide +kernel : decode prog_14_method_62_code 23 = .ok (.invokevirtual 176, 3))
theorem d_M_readThing_26 : m_D k_M_readThing 26 (.invokevirtual 266) 3 := (by decide +kernel : decode prog_14_method_62_code 26 = .ok (.invokevirtual 266, 3))
theorem d_M_readThing_29 : m_D k_M_readThing 29 (.ifCond .eq 14) 3 := (by decide +kernel : decode prog_14_method_62_code 29 = .ok (.ifCond .eq 14, 3))
theorem d_M_readThing_32 : m_D k_M_readThing 32 (.aload_n 0) 1 := (by decide +kernel : decode prog_14_method_62_code 32 = .ok (.aload_n 0, 1))
theorem d_M_readThing_33 : m_D k_M_readThing 33 (.iconst 0) 1 := (by decide +kernel : decode prog_14_method_62_code 33 = .ok (.iconst 0, 1))
theorem d_M_readThing_34 : m_D k_M_readThing 34 (.sipush 999) 3 := (by decide +kernel : decode prog_14_method_62_code 34 = .ok (.sipush 999, 3))
theorem d_M_readThing_37 : m_D k_M_readThing 37 (.invokevirtual 238) 3 := (by decide +kernel : decode prog_14_method_62_code 37 = .ok (.invokevirtual 238, 3))
theorem d_M_readThing_40 : m_D k_M_readThing 40 (.goto 4) 3 := (by decide +kernel : decode prog_14_method_62_code 40 = .ok (.goto 4, 3))
theorem d_M_readThing_43 : m_D k_M_readThing 43 (.iconst 0) 1 := (by decide +kernel : decode prog_14_method_62_code 43 = .ok (.iconst 0, 1))
theorem d_M_readThing_44 : m_D k_M_readThing 44 (.istore_n 3) 1 := (by decide +kernel : decode prog_14_method_62_code 44 = .ok (.istore_n 3, 1))
theorem d_M_readThing_45 : m_D k_M_readThing 45 (.aload_n 0) 1 := (by decide +kernel : decode prog_14_method_62_code 45 = .ok (.aload_n 0, 1))
theorem d_M_readThing_46 : m_D k_M_readThing 46 (.getfield 218) 3 := (by decide +kernel : decode prog_14_method_62_code 46 = .ok (.getfield 218, 3))
theorem d_M_readThing_49 : m_D k_M_readThing 49 (.ifCond .le 4) 3 := (by decide +kernel : decode prog_14_method_62_code 49 = .ok (.ifCond .le 4, 3))
theorem d_M_readThing_52 : m_D k_M_readThing 52 (.return_) 1 := (by decide +kernel : decode prog_14_method_62_code 52 = .ok (.return_, 1))
theorem d_M_readThing_53 : m_D k_M_readThing 53 (.aload_n 0) 1 := (by decide +kernel : decode prog_14_method_62_code 53 = .ok (.aload_n 0, 1))
theorem d_M_readThing_54 : m_D k_M_readThing 54 (.getfield 35) 3 := (by decide +kernel : decode prog_14_method_62_code 54 = .ok (.getfield 35, 3))
theorem d_M_readThing_57 : m_D k_M_readThing 57 (.sipush 1533) 3 := (by decide +kernel : decode prog_14_method_62_code 57 = .ok (.sipush 1533, 3))
theorem d_M_readThing_60 : m_D k_M_readThing 60 (.iload_n 1) 1 := (by decide +kernel : decode prog_14_method_62_code 60 = .ok (.iload_n 1, 1))
theorem d_M_readThing_61 : m_D k_M_readThing 61 (.iadd) 1 := (by decide +kernel : decode prog_14_method_62_code 61 = .ok (.iadd, 1))
theorem d_M_readThing_62 : m_D k_M_readThing 62 (.iload_n 2) 1 := (by decide +kernel : decode prog_14_method_62_code 62 = .ok (.iload_n 2, 1))
theorem d_M_readThing_63 : m_D k_M_readThing 63 (.iastore) 1 := (by decide +kernel : decode prog_14_method_62_code 63 = .ok (.iastore, 1))
theorem d_M_readThing_64 : m_D k_M_readThing 64 (.aload_n 0) 1 := (by decide +kernel : decode prog_14_method_62_code 64 = .ok (.aload_n 0, 1))
theorem d_M_readThing_65 : m_D k_M_readThing 65 (.getfield 35) 3 := (by decide +kernel : decode prog_14_method_62_code 65 = .ok (.getfield 35, 3))
theorem d_M_readThing_68 : m_D k_M_readThing 68 (.sipush 1541) 3 := (by decide +kernel : decode prog_14_method_62_code 68 = .ok (.sipush 1541, 3))
theorem d_M_readThing_71 : m_D k_M_readThing 71 (.iload_n 1) 1 := (by decide +kernel : decode prog_14_method_62_code 71 = .ok (.iload_n 1, 1))
theorem d_M_readThing_72 : m_D k_M_readThing 72 (.iadd) 1 := (by decide +kernel : decode prog_14_method_62_code 72 = .ok (.iadd, 1))
theorem d_M_readThing_73 : m_D k_M_readThing 73 (.iload_n 3) 1 := (by decide +kernel : decode prog_14_method_62_code 73 = .ok (.iload_n 3, 1))
theorem d_M_readThing_74 : m_D k_M_readThing 74 (.iastore) 1 := (by decide +kernel : decode prog_14_method_62_code 74 = .ok (.iastore, 1))
theorem d_M_readThing_75 : m_D k_M_readThing 75 (.aload_n 0) 1 := (by decide +kernel : decode prog_14_method_62_code 75 = .ok (.aload_n 0, 1))
theorem d_M_readThing_76 : m_D k_M_readThing 76 (.getfield 35) 3 := (by decide +kernel : decode prog_14_method_62_code 76 = .ok (.getfield 35, 3))
theorem d_M_readThing_79 : m_D k_M_readThing 79 (.sipush 1509) 3 := (by decide +kernel : decode prog_14_method_62_code 79 = .ok (.sipush 1509, 3))
theorem d_M_readThing_82 : m_D k_M_readThing 82 (.dup2) 1 := (by decide +kernel : decode prog_14_method_62_code 82 = .ok (.dup2, 1))
theorem d_M_readThing_83 : m_D k_M_readThing 83 (.iaload) 1 := (by decide +kernel : decode prog_14_method_62_code 83 = .ok (.iaload, 1))
theorem d_M_readThing_84 : m_D k_M_readThing 84 (.iconst 1) 1 := (by decide +kernel : decode prog_14_method_62_code 84 = .ok (.iconst 1, 1))
theorem d_M_readThing_85 : m_D k_M_readThing 85 (.iadd) 1 := (by decide +kernel : decode prog_14_method_62_code 85 = .ok (.iadd, 1))
theorem d_M_readThing_86 : m_D k_M_readThing 86 (.iastore) 1 := (by decide +kernel : decode prog_14_method_62_code 86 = .ok (.iastore, 1))
theorem d_M_readThing_87 : m_D k_M_readThing 87 (.return_) 1 := (by decide +kernel : decode prog_14_method_62_code 87 = .ok (.return_, 1))
def fn_M_readThing (x0 : Option mA) : mP Unit :=
  m_th 11 x0 <|
  m_bd (fn_M_readNew x0 1 8) fun v1 =>
  m_bd (fn_M_isThick x0) fun v2 =>
  m_bd (fn_M_behindWord x0 v2 1 999) fun v3 =>
  m_bd (fn_M_isCoat x0) fun v4 =>
  m_bd (fn_M_perhaps x0 v4) fun v5 =>
  m_bd (α := Int32) (
    if v5 = 0 then
      m_rt 0
    else
      m_bd (fn_M_count x0 0 999) fun v6 =>
      m_rt v6
    ) fun (t7 : Int32) =>
  m_bd (m_gI 11 12 x0) fun v8 =>
  if v8 ≤ 0 then
    m_bd (m_gR 11 20 x0) fun v9 =>
    m_bd (m_tI 0 v9 (1533 + v1) v3) fun _ =>
    m_bd (m_gR 11 20 x0) fun v10 =>
    m_bd (m_tI 0 v10 (1541 + v1) t7) fun _ =>
    m_bd (m_gR 11 20 x0) fun v11 =>
    m_bd (m_aI 0 v11 1509) fun v12 =>
    m_bd (m_tI 0 v11 1509 (v12 + 1)) fun _ =>
    m_rt ()
  else
    m_rt ()
set_option maxHeartbeats 4000000 in
set_option maxRecDepth 100000 in
theorem sd_M_readThing (x0 : Option mA) : m_Sm k_M_readThing 7 0 0 [.inr (.inr x0)] (fn_M_readThing x0) (fun _ => none) := by
  refine ⟨Nat.le_of_ble_eq_true rfl, ?_⟩
  refine sm_th ?_
  refine sm_aload_n (i := 0) (j := 0) (pc' := 1) d_M_readThing_0 rfl rfl rfl (sm_iconst (pc' := 2) d_M_readThing_1 rfl ic_1 (sm_bipush (pc' := 4) d_M_readThing_2 rfl ib_8 ?_))
  refine sm_callVi (ci := 11) (x := x0) (av := [.inl 1, .inl 8]) (st := []) (mc := 0) (ms := 0) (pc' := 7) d_M_readThing_4 rfl (sd_M_readNew x0 1 8) m_lv rfl cv_M_readNew w_ml_M_259 rfl rfl (by decide) (Nat.le_of_ble_eq_true rfl) rfl rfl (fun v1 => ?_)
  refine sm_istore_n (i := 1) (L' := [(1, .inl v1), (0, .inr (.inr x0))]) (pc' := 8) d_M_readThing_7 rfl rfl (Nat.le_of_ble_eq_true rfl) rfl (sm_aload_n (i := 0) (j := 1) (pc' := 9) d_M_readThing_8 rfl rfl rfl (sm_aload_n (i := 0) (j := 1) (pc' := 10) d_M_readThing_9 rfl rfl rfl ?_))
  refine sm_callVi (ci := 11) (x := x0) (av := []) (st := [.inr (.inr x0)]) (mc := 0) (ms := 0) (pc' := 13) d_M_readThing_10 rfl (sd_M_isThick x0) m_lv rfl cv_M_isThick w_ml_M_202 rfl rfl (by decide) (Nat.le_of_ble_eq_true rfl) rfl rfl (fun v2 => ?_)
  refine sm_iconst (pc' := 14) d_M_readThing_13 rfl ic_1 (sm_sipush (pc' := 17) d_M_readThing_14 rfl is_999 ?_)
  refine sm_callVi (ci := 11) (x := x0) (av := [.inl v2, .inl 1, .inl 999]) (st := []) (mc := 0) (ms := 0) (pc' := 20) d_M_readThing_17 rfl (sd_M_behindWord x0 v2 1 999) m_lv rfl cv_M_behindWord w_ml_M_262 rfl rfl (by decide) (Nat.le_of_ble_eq_true rfl) rfl rfl (fun v3 => ?_)
  refine sm_istore_n (i := 2) (L' := [(2, .inl v3), (1, .inl v1), (0, .inr (.inr x0))]) (pc' := 21) d_M_readThing_20 rfl rfl (Nat.le_of_ble_eq_true rfl) rfl (sm_aload_n (i := 0) (j := 2) (pc' := 22) d_M_readThing_21 rfl rfl rfl (sm_aload_n (i := 0) (j := 2) (pc' := 23) d_M_readThing_22 rfl rfl rfl ?_))
  refine sm_callVi (ci := 11) (x := x0) (av := []) (st := [.inr (.inr x0)]) (mc := 0) (ms := 0) (pc' := 26) d_M_readThing_23 rfl (sd_M_isCoat x0) m_lv rfl cv_M_isCoat w_ml_M_176 rfl rfl (by decide) (Nat.le_of_ble_eq_true rfl) rfl rfl (fun v4 => ?_)
  refine sm_callVi (ci := 11) (x := x0) (av := [.inl v4]) (st := []) (mc := 0) (ms := 0) (pc' := 29) d_M_readThing_26 rfl (sd_M_perhaps x0 v4) m_lv rfl cv_M_perhaps w_ml_M_266 rfl rfl (by decide) (Nat.le_of_ble_eq_true rfl) rfl rfl (fun v5 => ?_)
  refine sm_bd (mid := fun (t7 : Int32) => .inl (44, [(0, .inr (.inr x0)), (1, .inl v1), (2, .inl v3)], [.inl t7])) ?_ (fun t7 => ?_)
  · refine sm_if_eq (tgt := 43) (pc' := 32) d_M_readThing_29 rfl rfl ?_ ?_
    · refine sm_iconst (pc' := 44) d_M_readThing_43 rfl ic_0 (sm_sub [2, 1, 0] rfl ?_)
      exact sm_rt rfl
    · refine sm_aload_n (i := 0) (j := 2) (pc' := 33) d_M_readThing_32 rfl rfl rfl (sm_iconst (pc' := 34) d_M_readThing_33 rfl ic_0 (sm_sipush (pc' := 37) d_M_readThing_34 rfl is_999 ?_))
      refine sm_callVi (ci := 11) (x := x0) (av := [.inl 0, .inl 999]) (st := []) (mc := 0) (ms := 0) (pc' := 40) d_M_readThing_37 rfl (sd_M_count x0 0 999) m_lv rfl cv_M_count w_ml_M_238 rfl rfl (by decide) (Nat.le_of_ble_eq_true rfl) rfl rfl (fun v6 => ?_)
      refine sm_goto (tgt := 44) d_M_readThing_40 rfl (sm_sub [2, 1, 0] rfl ?_)
      exact sm_rt rfl
  · refine sm_istore_n (i := 3) (L' := [(3, .inl t7), (0, .inr (.inr x0)), (1, .inl v1), (2, .inl v3)]) (pc' := 45) d_M_readThing_44 rfl rfl (Nat.le_of_ble_eq_true rfl) rfl (sm_aload_n (i := 0) (j := 1) (pc' := 46) d_M_readThing_45 rfl rfl rfl ?_)
    refine sm_getI (pc' := 49) d_M_readThing_46 rfl fl_M_218 rfl ⟨by decide, by decide⟩ (fun v8 => ?_)
    refine sm_if_le (tgt := 53) (pc' := 52) d_M_readThing_49 rfl rfl ?_ ?_
    · refine sm_aload_n (i := 0) (j := 1) (pc' := 54) d_M_readThing_53 rfl rfl rfl ?_
      refine sm_getR (pc' := 57) d_M_readThing_54 rfl fl_M_35 rfl rfl (fun v9 => ?_)
      refine sm_sipush (pc' := 60) d_M_readThing_57 rfl is_1533 (sm_iload_n (i := 1) (j := 2) (pc' := 61) d_M_readThing_60 rfl rfl rfl (sm_iadd (pc' := 62) d_M_readThing_61 rfl (sm_iload_n (i := 2) (j := 3) (pc' := 63) d_M_readThing_62 rfl rfl rfl (sm_iast (pc' := 64) d_M_readThing_63 rfl (sm_aload_n (i := 0) (j := 1) (pc' := 65) d_M_readThing_64 rfl rfl rfl ?_)))))
      refine sm_getR (pc' := 68) d_M_readThing_65 rfl fl_M_35 rfl rfl (fun v10 => ?_)
      refine sm_sipush (pc' := 71) d_M_readThing_68 rfl is_1541 (sm_iload_n (i := 1) (j := 2) (pc' := 72) d_M_readThing_71 rfl rfl rfl (sm_iadd (pc' := 73) d_M_readThing_72 rfl (sm_iload_n (i := 3) (j := 0) (pc' := 74) d_M_readThing_73 rfl rfl rfl (sm_iast (pc' := 75) d_M_readThing_74 rfl (sm_aload_n (i := 0) (j := 1) (pc' := 76) d_M_readThing_75 rfl rfl rfl ?_)))))
      refine sm_getR (pc' := 79) d_M_readThing_76 rfl fl_M_35 rfl rfl (fun v11 => ?_)
      refine sm_sipush (pc' := 82) d_M_readThing_79 rfl is_1509 (sm_dup2 (pc' := 83) d_M_readThing_82 rfl rfl rfl ?_)
      refine sm_iald (pc' := 84) d_M_readThing_83 rfl (fun v12 => ?_)
      refine sm_iconst (pc' := 85) d_M_readThing_84 rfl ic_1 (sm_iadd (pc' := 86) d_M_readThing_85 rfl (sm_iast (pc' := 87) d_M_readThing_86 rfl ?_))
      exact sm_return d_M_readThing_87 rfl rfl
    · exact sm_return d_M_readThing_52 rfl rfl
theorem d_M_readPart_0 : m_D k_M_readPart 0 (.aload_n 0) 1 := (by decide +kernel : decode prog_14_method_64_code 0 = .ok (.aload_n 0, 1))
theorem d_M_readPart_1 : m_D k_M_readPart 1 (.invokevirtual 181) 3 := (by decide +kernel : decode prog_14_method_64_code 1 = .ok (.invokevirtual 181, 3))
theorem d_M_readPart_4 : m_D k_M_readPart 4 (.ifCond .eq 14) 3 := (by decide +kernel : decode prog_14_method_64_code 4 = .ok (.ifCond .eq 14, 3))
theorem d_M_readPart_7 : m_D k_M_readPart 7 (.aload_n 0) 1 := (by decide +kernel : decode prog_14_method_64_code 7 = .ok (.aload_n 0, 1))
theorem d_M_readPart_8 : m_D k_M_readPart 8 (.iconst 2) 1 := (by decide +kernel : decode prog_14_method_64_code 8 = .ok (.iconst 2, 1))
theorem d_M_readPart_9 : m_D k_M_readPart 9 (.iconst 0) 1 := (by decide +kernel : decode prog_14_method_64_code 9 = .ok (.iconst 0, 1))
theorem d_M_readPart_10 : m_D k_M_readPart 10 (.bipush 99) 2 := (by decide +kernel : decode prog_14_method_64_code 10 = .ok (.bipush 99, 2))
theorem d_M_readPart_12 : m_D k_M_readPart 12 (.invokevirtual 273) 3 := (by decide +kernel : decode prog_14_method_64_code 12 = .ok (.invokevirtual 273, 3))
theorem d_M_readPart_15 : m_D k_M_readPart 15 (.goto 103) 3 := (by decide +kernel : decode prog_14_method_64_code 15 = .ok (.goto 103, 3))
theorem d_M_readPart_18 : m_D k_M_readPart 18 (.aload_n 0) 1 := (by decide +kernel : decode prog_14_method_64_code 18 = .ok (.aload_n 0, 1))
theorem d_M_readPart_19 : m_D k_M_readPart 19 (.invokevirtual 184) 3 := (by decide +kernel : decode prog_14_method_64_code 19 = .ok (.invokevirtual 184, 3))
theorem d_M_readPart_22 : m_D k_M_readPart 22 (.ifCond .eq 14) 3 := (by decide +kernel : decode prog_14_method_64_code 22 = .ok (.ifCond .eq 14, 3))
theorem d_M_readPart_25 : m_D k_M_readPart 25 (.aload_n 0) 1 := (by decide +kernel : decode prog_14_method_64_code 25 = .ok (.aload_n 0, 1))
theorem d_M_readPart_26 : m_D k_M_readPart 26 (.iconst 3) 1 := (by decide +kernel : decode prog_14_method_64_code 26 = .ok (.iconst 3, 1))
theorem d_M_readPart_27 : m_D k_M_readPart 27 (.iconst 1) 1 := (by decide +kernel : decode prog_14_method_64_code 27 = .ok (.iconst 1, 1))
theorem d_M_readPart_28 : m_D k_M_readPart 28 (.bipush 120) 2 := (by decide +kernel : decode prog_14_method_64_code 28 = .ok (.bipush 120, 2))
theorem d_M_readPart_30 : m_D k_M_readPart 30 (.invokevirtual 273) 3 := (by decide +kernel : decode prog_14_method_64_code 30 = .ok (.invokevirtual 273, 3))
theorem d_M_readPart_33 : m_D k_M_readPart 33 (.goto 85) 3 := (by decide +kernel : decode prog_14_method_64_code 33 = .ok (.goto 85, 3))
theorem d_M_readPart_36 : m_D k_M_readPart 36 (.aload_n 0) 1 := (by decide +kernel : decode prog_14_method_64_code 36 = .ok (.aload_n 0, 1))
theorem d_M_readPart_37 : m_D k_M_readPart 37 (.invokevirtual 173) 3 := (by decide +kernel : decode prog_14_method_64_code 37 = .ok (.invokevirtual 173, 3))
theorem d_M_readPart_40 : m_D k_M_readPart 40 (.ifCond .eq 14) 3 := (by decide +kernel : decode prog_14_method_64_code 40 = .ok (.ifCond .eq 14, 3))
theorem d_M_readPart_43 : m_D k_M_readPart 43 (.aload_n 0) 1 := (by decide +kernel : decode prog_14_method_64_code 43 = .ok (.aload_n 0, 1))
theorem d_M_readPart_44 : m_D k_M_readPart 44 (.iconst 4) 1 := (by decide +kernel : decode prog_14_method_64_code 44 = .ok (.iconst 4, 1))
theorem d_M_readPart_45 : m_D k_M_readPart 45 (.iconst 0) 1 := (by decide +kernel : decode prog_14_method_64_code 45 = .ok (.iconst 0, 1))
theorem d_M_readPart_46 : m_D k_M_readPart 46 (.bipush 9) 2 := (by decide +kernel : decode prog_14_method_64_code 46 = .ok (.bipush 9, 2))
theorem d_M_readPart_48 : m_D k_M_readPart 48 (.invokevirtual 273) 3 := (by decide +kernel : decode prog_14_method_64_code 48 = .ok (.invokevirtual 273, 3))
theorem d_M_readPart_51 : m_D k_M_readPart 51 (.goto 67) 3 := (by decide +kernel : decode prog_14_method_64_code 51 = .ok (.goto 67, 3))
theorem d_M_readPart_54 : m_D k_M_readPart 54 (.aload_n 0) 1 := (by decide +kernel : decode prog_14_method_64_code 54 = .ok (.aload_n 0, 1))
theorem d_M_readPart_55 : m_D k_M_readPart 55 (.invokevirtual 187) 3 := (by decide +kernel : decode prog_14_method_64_code 55 = .ok (.invokevirtual 187, 3))
theorem d_M_readPart_58 : m_D k_M_readPart 58 (.ifCond .eq 14) 3 := (by decide +kernel : decode prog_14_method_64_code 58 = .ok (.ifCond .eq 14, 3))
theorem d_M_readPart_61 : m_D k_M_readPart 61 (.aload_n 0) 1 := (by decide +kernel : decode prog_14_method_64_code 61 = .ok (.aload_n 0, 1))
theorem d_M_readPart_62 : m_D k_M_readPart 62 (.iconst 5) 1 := (by decide +kernel : decode prog_14_method_64_code 62 = .ok (.iconst 5, 1))
theorem d_M_readPart_63 : m_D k_M_readPart 63 (.iconst 0) 1 := (by decide +kernel : decode prog_14_method_64_code 63 = .ok (.iconst 0, 1))
theorem d_M_readPart_64 : m_D k_M_readPart 64 (.bipush 99) 2 := (by decide +kernel : decode prog_14_method_64_code 64 = .ok (.bipush 99, 2))
theorem d_M_readPart_66 : m_D k_M_readPart 66 (.invokevirtual 273) 3 := (by decide +kernel : decode prog_14_method_64_code 66 = .ok (.invokevirtual 273, 3))
theorem d_M_readPart_69 : m_D k_M_readPart 69 (.goto 49) 3 := (by decide +kernel : decode prog_14_method_64_code 69 = .ok (.goto 49, 3))
theorem d_M_readPart_72 : m_D k_M_readPart 72 (.aload_n 0) 1 := (by decide +kernel : decode prog_14_method_64_code 72 = .ok (.aload_n 0, 1))
theorem d_M_readPart_73 : m_D k_M_readPart 73 (.invokevirtual 190) 3 := (by decide +kernel : decode prog_14_method_64_code 73 = .ok (.invokevirtual 190, 3))
theorem d_M_readPart_76 : m_D k_M_readPart 76 (.ifCond .eq 10) 3 := (by decide +kernel : decode prog_14_method_64_code 76 = .ok (.ifCond .eq 10, 3))
theorem d_M_readPart_79 : m_D k_M_readPart 79 (.aload_n 0) 1 := (by decide +kernel : decode prog_14_method_64_code 79 = .ok (.aload_n 0, 1))
theorem d_M_readPart_80 : m_D k_M_readPart 80 (.invokevirtual 277) 3 := (by decide +kernel : decode prog_14_method_64_code 80 = .ok (.invokevirtual 277, 3))
theorem d_M_readPart_83 : m_D k_M_readPart 83 (.goto 35) 3 := (by decide +kernel : decode prog_14_method_64_code 83 = .ok (.goto 35, 3))
theorem d_M_readPart_86 : m_D k_M_readPart 86 (.aload_n 0) 1 := (by decide +kernel : decode prog_14_method_64_code 86 = .ok (.aload_n 0, 1))
theorem d_M_readPart_87 : m_D k_M_readPart 87 (.invokevirtual 199) 3 := (by decide +kernel : decode prog_14_method_64_code 87 = .ok (.invokevirtual 199, 3))
theorem d_M_readPart_90 : m_D k_M_readPart 90 (.ifCond .eq 10) 3 := (by decide +kernel : decode prog_14_method_64_code 90 = .ok (.ifCond .eq 10, 3))
theorem d_M_readPart_93 : m_D k_M_readPart 93 (.aload_n 0) 1 := (by decide +kernel : decode prog_14_method_64_code 93 = .ok (.aload_n 0, 1))
theorem d_M_readPart_94 : m_D k_M_readPart 94 (.invokevirtual 280) 3 := (by decide +kernel : decode prog_14_method_64_code 94 = .ok (.invokevirtual 280, 3))
theorem d_M_readPart_97 : m_D k_M_readPart 97 (.goto 21) 3 := (by decide +kernel : decode prog_14_method_64_code 97 = .ok (.goto 21, 3))
theorem d_M_readPart_100 : m_D k_M_readPart 100 (.aload_n 0) 1 := (by decide +kernel : decode prog_14_method_64_code 100 = .ok (.aload_n 0, 1))
theorem d_M_readPart_101 : m_D k_M_readPart 101 (.invokevirtual 169) 3 := (by decide +kernel : decode prog_14_method_64_code 101 = .ok (.invokevirtual 169, 3))
theorem d_M_readPart_104 : m_D k_M_readPart 104 (.ifCond .eq 10) 3 := (by decide +kernel : decode prog_14_method_64_code 104 = .ok (.ifCond .eq 10, 3))
theorem d_M_readPart_107 : m_D k_M_readPart 107 (.aload_n 0) 1 := (by decide +kernel : decode prog_14_method_64_code 107 = .ok (.aload_n 0, 1))
theorem d_M_readPart_108 : m_D k_M_readPart 108 (.invokevirtual 283) 3 := (by decide +kernel : decode prog_14_method_64_code 108 = .ok (.invokevirtual 283, 3))
theorem d_M_readPart_111 : m_D k_M_readPart 111 (.goto 7) 3 := (by decide +kernel : decode prog_14_method_64_code 111 = .ok (.goto 7, 3))
theorem d_M_readPart_114 : m_D k_M_readPart 114 (.aload_n 0) 1 := (by decide +kernel : decode prog_14_method_64_code 114 = .ok (.aload_n 0, 1))
theorem d_M_readPart_115 : m_D k_M_readPart 115 (.invokevirtual 231) 3 := (by decide +kernel : decode prog_14_method_64_code 115 = .ok (.invokevirtual 231, 3))
theorem d_M_readPart_118 : m_D k_M_readPart 118 (.return_) 1 := (by decide +kernel : decode prog_14_method_64_code 118 = .ok (.return_, 1))
def fn_M_readPart (x0 : Option mA) : mP Unit :=
  m_th 11 x0 <|
  m_bd (fn_M_isShows x0) fun v1 =>
  if v1 = 0 then
    m_bd (fn_M_isLife x0) fun v2 =>
    if v2 = 0 then
      m_bd (fn_M_isDamp x0) fun v3 =>
      if v3 = 0 then
        m_bd (fn_M_isBreath x0) fun v4 =>
        if v4 = 0 then
          m_bd (fn_M_isPerson x0) fun v5 =>
          if v5 = 0 then
            m_bd (fn_M_isThing x0) fun v6 =>
            if v6 = 0 then
              m_bd (fn_M_isLoves x0) fun v7 =>
              if v7 = 0 then
                m_bd (fn_M_amiss x0) fun _ =>
                m_rt ()
              else
                m_bd (fn_M_readLoves x0) fun _ =>
                m_rt ()
            else
              m_bd (fn_M_readThing x0) fun _ =>
              m_rt ()
          else
            m_bd (fn_M_readPerson x0) fun _ =>
            m_rt ()
        else
          m_bd (fn_M_readOnce x0 5 0 99) fun _ =>
          m_rt ()
      else
        m_bd (fn_M_readOnce x0 4 0 9) fun _ =>
        m_rt ()
    else
      m_bd (fn_M_readOnce x0 3 1 120) fun _ =>
      m_rt ()
  else
    m_bd (fn_M_readOnce x0 2 0 99) fun _ =>
    m_rt ()
set_option maxHeartbeats 4000000 in
set_option maxRecDepth 100000 in
theorem sd_M_readPart (x0 : Option mA) : m_Sm k_M_readPart 8 0 0 [.inr (.inr x0)] (fn_M_readPart x0) (fun _ => none) := by
  refine ⟨Nat.le_of_ble_eq_true rfl, ?_⟩
  refine sm_th ?_
  refine sm_aload_n (i := 0) (j := 0) (pc' := 1) d_M_readPart_0 rfl rfl rfl ?_
  refine sm_callVi (ci := 11) (x := x0) (av := []) (st := []) (mc := 0) (ms := 0) (pc' := 4) d_M_readPart_1 rfl (sd_M_isShows x0) m_lv rfl cv_M_isShows w_ml_M_181 rfl rfl (by decide) (Nat.le_of_ble_eq_true rfl) rfl rfl (fun v1 => ?_)
  refine sm_if_eq (tgt := 18) (pc' := 7) d_M_readPart_4 rfl rfl ?_ ?_
  · refine sm_aload_n (i := 0) (j := 0) (pc' := 19) d_M_readPart_18 rfl rfl rfl ?_
    refine sm_callVi (ci := 11) (x := x0) (av := []) (st := []) (mc := 0) (ms := 0) (pc' := 22) d_M_readPart_19 rfl (sd_M_isLife x0) m_lv rfl cv_M_isLife w_ml_M_184 rfl rfl (by decide) (Nat.le_of_ble_eq_true rfl) rfl rfl (fun v2 => ?_)
    refine sm_if_eq (tgt := 36) (pc' := 25) d_M_readPart_22 rfl rfl ?_ ?_
    · refine sm_aload_n (i := 0) (j := 0) (pc' := 37) d_M_readPart_36 rfl rfl rfl ?_
      refine sm_callVi (ci := 11) (x := x0) (av := []) (st := []) (mc := 0) (ms := 0) (pc' := 40) d_M_readPart_37 rfl (sd_M_isDamp x0) m_lv rfl cv_M_isDamp w_ml_M_173 rfl rfl (by decide) (Nat.le_of_ble_eq_true rfl) rfl rfl (fun v3 => ?_)
      refine sm_if_eq (tgt := 54) (pc' := 43) d_M_readPart_40 rfl rfl ?_ ?_
      · refine sm_aload_n (i := 0) (j := 0) (pc' := 55) d_M_readPart_54 rfl rfl rfl ?_
        refine sm_callVi (ci := 11) (x := x0) (av := []) (st := []) (mc := 0) (ms := 0) (pc' := 58) d_M_readPart_55 rfl (sd_M_isBreath x0) m_lv rfl cv_M_isBreath w_ml_M_187 rfl rfl (by decide) (Nat.le_of_ble_eq_true rfl) rfl rfl (fun v4 => ?_)
        refine sm_if_eq (tgt := 72) (pc' := 61) d_M_readPart_58 rfl rfl ?_ ?_
        · refine sm_aload_n (i := 0) (j := 0) (pc' := 73) d_M_readPart_72 rfl rfl rfl ?_
          refine sm_callVi (ci := 11) (x := x0) (av := []) (st := []) (mc := 0) (ms := 0) (pc' := 76) d_M_readPart_73 rfl (sd_M_isPerson x0) m_lv rfl cv_M_isPerson w_ml_M_190 rfl rfl (by decide) (Nat.le_of_ble_eq_true rfl) rfl rfl (fun v5 => ?_)
          refine sm_if_eq (tgt := 86) (pc' := 79) d_M_readPart_76 rfl rfl ?_ ?_
          · refine sm_aload_n (i := 0) (j := 0) (pc' := 87) d_M_readPart_86 rfl rfl rfl ?_
            refine sm_callVi (ci := 11) (x := x0) (av := []) (st := []) (mc := 0) (ms := 0) (pc' := 90) d_M_readPart_87 rfl (sd_M_isThing x0) m_lv rfl cv_M_isThing w_ml_M_199 rfl rfl (by decide) (Nat.le_of_ble_eq_true rfl) rfl rfl (fun v6 => ?_)
            refine sm_if_eq (tgt := 100) (pc' := 93) d_M_readPart_90 rfl rfl ?_ ?_
            · refine sm_aload_n (i := 0) (j := 0) (pc' := 101) d_M_readPart_100 rfl rfl rfl ?_
              refine sm_callVi (ci := 11) (x := x0) (av := []) (st := []) (mc := 0) (ms := 0) (pc' := 104) d_M_readPart_101 rfl (sd_M_isLoves x0) m_lv rfl cv_M_isLoves w_ml_M_169 rfl rfl (by decide) (Nat.le_of_ble_eq_true rfl) rfl rfl (fun v7 => ?_)
              refine sm_if_eq (tgt := 114) (pc' := 107) d_M_readPart_104 rfl rfl ?_ ?_
              · refine sm_aload_n (i := 0) (j := 0) (pc' := 115) d_M_readPart_114 rfl rfl rfl ?_
                refine sm_callVv (ci := 11) (x := x0) (av := []) (st := []) (mc := 0) (ms := 0) (pc' := 118) d_M_readPart_115 rfl (sd_M_amiss x0) m_lv rfl cv_M_amiss w_ml_M_231 rfl rfl (by decide) (Nat.le_of_ble_eq_true rfl) rfl rfl ?_
                exact sm_return d_M_readPart_118 rfl rfl
              · refine sm_aload_n (i := 0) (j := 0) (pc' := 108) d_M_readPart_107 rfl rfl rfl ?_
                refine sm_callVv (ci := 11) (x := x0) (av := []) (st := []) (mc := 0) (ms := 0) (pc' := 111) d_M_readPart_108 rfl (sd_M_readLoves x0) m_lv rfl cv_M_readLoves w_ml_M_283 rfl rfl (by decide) (Nat.le_of_ble_eq_true rfl) rfl rfl ?_
                refine sm_goto (tgt := 118) d_M_readPart_111 rfl ?_
                exact sm_return d_M_readPart_118 rfl rfl
            · refine sm_aload_n (i := 0) (j := 0) (pc' := 94) d_M_readPart_93 rfl rfl rfl ?_
              refine sm_callVv (ci := 11) (x := x0) (av := []) (st := []) (mc := 0) (ms := 0) (pc' := 97) d_M_readPart_94 rfl (sd_M_readThing x0) m_lv rfl cv_M_readThing w_ml_M_280 rfl rfl (by decide) (Nat.le_of_ble_eq_true rfl) rfl rfl ?_
              refine sm_goto (tgt := 118) d_M_readPart_97 rfl ?_
              exact sm_return d_M_readPart_118 rfl rfl
          · refine sm_aload_n (i := 0) (j := 0) (pc' := 80) d_M_readPart_79 rfl rfl rfl ?_
            refine sm_callVv (ci := 11) (x := x0) (av := []) (st := []) (mc := 0) (ms := 0) (pc' := 83) d_M_readPart_80 rfl (sd_M_readPerson x0) m_lv rfl cv_M_readPerson w_ml_M_277 rfl rfl (by decide) (Nat.le_of_ble_eq_true rfl) rfl rfl ?_
            refine sm_goto (tgt := 118) d_M_readPart_83 rfl ?_
            exact sm_return d_M_readPart_118 rfl rfl
        · refine sm_aload_n (i := 0) (j := 0) (pc' := 62) d_M_readPart_61 rfl rfl rfl (sm_iconst (pc' := 63) d_M_readPart_62 rfl ic_5 (sm_iconst (pc' := 64) d_M_readPart_63 rfl ic_0 (sm_bipush (pc' := 66) d_M_readPart_64 rfl ib_99 ?_)))
          refine sm_callVv (ci := 11) (x := x0) (av := [.inl 5, .inl 0, .inl 99]) (st := []) (mc := 0) (ms := 0) (pc' := 69) d_M_readPart_66 rfl (sd_M_readOnce x0 5 0 99) m_lv rfl cv_M_readOnce w_ml_M_273 rfl rfl (by decide) (Nat.le_of_ble_eq_true rfl) rfl rfl ?_
          refine sm_goto (tgt := 118) d_M_readPart_69 rfl ?_
          exact sm_return d_M_readPart_118 rfl rfl
      · refine sm_aload_n (i := 0) (j := 0) (pc' := 44) d_M_readPart_43 rfl rfl rfl (sm_iconst (pc' := 45) d_M_readPart_44 rfl ic_4 (sm_iconst (pc' := 46) d_M_readPart_45 rfl ic_0 (sm_bipush (pc' := 48) d_M_readPart_46 rfl ib_9 ?_)))
        refine sm_callVv (ci := 11) (x := x0) (av := [.inl 4, .inl 0, .inl 9]) (st := []) (mc := 0) (ms := 0) (pc' := 51) d_M_readPart_48 rfl (sd_M_readOnce x0 4 0 9) m_lv rfl cv_M_readOnce w_ml_M_273 rfl rfl (by decide) (Nat.le_of_ble_eq_true rfl) rfl rfl ?_
        refine sm_goto (tgt := 118) d_M_readPart_51 rfl ?_
        exact sm_return d_M_readPart_118 rfl rfl
    · refine sm_aload_n (i := 0) (j := 0) (pc' := 26) d_M_readPart_25 rfl rfl rfl (sm_iconst (pc' := 27) d_M_readPart_26 rfl ic_3 (sm_iconst (pc' := 28) d_M_readPart_27 rfl ic_1 (sm_bipush (pc' := 30) d_M_readPart_28 rfl ib_120 ?_)))
      refine sm_callVv (ci := 11) (x := x0) (av := [.inl 3, .inl 1, .inl 120]) (st := []) (mc := 0) (ms := 0) (pc' := 33) d_M_readPart_30 rfl (sd_M_readOnce x0 3 1 120) m_lv rfl cv_M_readOnce w_ml_M_273 rfl rfl (by decide) (Nat.le_of_ble_eq_true rfl) rfl rfl ?_
      refine sm_goto (tgt := 118) d_M_readPart_33 rfl ?_
      exact sm_return d_M_readPart_118 rfl rfl
  · refine sm_aload_n (i := 0) (j := 0) (pc' := 8) d_M_readPart_7 rfl rfl rfl (sm_iconst (pc' := 9) d_M_readPart_8 rfl ic_2 (sm_iconst (pc' := 10) d_M_readPart_9 rfl ic_0 (sm_bipush (pc' := 12) d_M_readPart_10 rfl ib_99 ?_)))
    refine sm_callVv (ci := 11) (x := x0) (av := [.inl 2, .inl 0, .inl 99]) (st := []) (mc := 0) (ms := 0) (pc' := 15) d_M_readPart_12 rfl (sd_M_readOnce x0 2 0 99) m_lv rfl cv_M_readOnce w_ml_M_273 rfl rfl (by decide) (Nat.le_of_ble_eq_true rfl) rfl rfl ?_
    refine sm_goto (tgt := 118) d_M_readPart_15 rfl ?_
    exact sm_return d_M_readPart_118 rfl rfl
theorem d_M_starts_0 : m_D k_M_starts 0 (.iload_n 1) 1 := (by decide +kernel : decode prog_14_method_53_code 0 = .ok (.iload_n 1, 1))
theorem d_M_starts_1 : m_D k_M_starts 1 (.ifCond .lt 16) 3 := (by decide +kernel : decode prog_14_method_53_code 1 = .ok (.ifCond .lt 16, 3))
theorem d_M_starts_4 : m_D k_M_starts 4 (.iload_n 1) 1 := (by decide +kernel : decode prog_14_method_53_code 4 = .ok (.iload_n 1, 1))
theorem d_M_starts_5 : m_D k_M_starts 5 (.aload_n 0) 1 := (by decide +kernel : decode prog_14_method_53_code 5 = .ok (.aload_n 0, 1))
theorem d_M_starts_6 : m_D k_M_starts 6 (.getfield 241) 3 := (by decide +kernel : decode prog_14_method_53_code 6 = .ok (.getfield 241, 3))
theorem d_M_starts_9 : m_D k_M_starts 9 (.if_icmp .gt 8) 3 := (by decide +kernel : decode prog_14_method_53_code 9 = .ok (.if_icmp .gt 8, 3))
theorem d_M_starts_12 : m_D k_M_starts 12 (.iload_n 1) 1 := (by decide +kernel : decode prog_14_method_53_code 12 = .ok (.iload_n 1, 1))
theorem d_M_starts_13 : m_D k_M_starts 13 (.iload_n 2) 1 := (by decide +kernel : decode prog_14_method_53_code 13 = .ok (.iload_n 2, 1))
theorem d_M_starts_14 : m_D k_M_starts 14 (.if_icmp .le 9) 3 := (by decide +kernel : decode prog_14_method_53_code 14 = .ok (.if_icmp .le 9, 3))
theorem d_M_starts_17 : m_D k_M_starts 17 (.aload_n 0) 1 := (by decide +kernel : decode prog_14_method_53_code 17 = .ok (.aload_n 0, 1))
theorem d_M_starts_18 : m_D k_M_starts 18 (.iconst 5) 1 := (by decide +kernel : decode prog_14_method_53_code 18 = .ok (.iconst 5, 1))
theorem d_M_starts_19 : m_D k_M_starts 19 (.invokevirtual 96) 3 := (by decide +kernel : decode prog_14_method_53_code 19 = .ok (.invokevirtual 96, 3))
theorem d_M_starts_22 : m_D k_M_starts 22 (.ireturn) 1 := (by decide +kernel : decode prog_14_method_53_code 22 = .ok (.ireturn, 1))
theorem d_M_starts_23 : m_D k_M_starts 23 (.aload_n 0) 1 := (by decide +kernel : decode prog_14_method_53_code 23 = .ok (.aload_n 0, 1))
theorem d_M_starts_24 : m_D k_M_starts 24 (.iload_n 1) 1 := (by decide +kernel : decode prog_14_method_53_code 24 = .ok (.iload_n 1, 1))
theorem d_M_starts_25 : m_D k_M_starts 25 (.putfield 124) 3 := (by decide +kernel : decode prog_14_method_53_code 25 = .ok (.putfield 124, 3))
theorem d_M_starts_28 : m_D k_M_starts 28 (.aload_n 0) 1 := (by decide +kernel : decode prog_14_method_53_code 28 = .ok (.aload_n 0, 1))
theorem d_M_starts_29 : m_D k_M_starts 29 (.iconst 0) 1 := (by decide +kernel : decode prog_14_method_53_code 29 = .ok (.iconst 0, 1))
theorem d_M_starts_30 : m_D k_M_starts 30 (.putfield 241) 3 := (by decide +kernel : decode prog_14_method_53_code 30 = .ok (.putfield 241, 3))
theorem d_M_starts_33 : m_D k_M_starts 33 (.aload_n 0) 1 := (by decide +kernel : decode prog_14_method_53_code 33 = .ok (.aload_n 0, 1))
theorem d_M_starts_34 : m_D k_M_starts 34 (.iconst 0) 1 := (by decide +kernel : decode prog_14_method_53_code 34 = .ok (.iconst 0, 1))
theorem d_M_starts_35 : m_D k_M_starts 35 (.putfield 127) 3 := (by decide +kernel : decode prog_14_method_53_code 35 = .ok (.putfield 127, 3))
theorem d_M_starts_38 : m_D k_M_starts 38 (.aload_n 0) 1 := (by decide +kernel : decode prog_14_method_53_code 38 = .ok (.aload_n 0, 1))
theorem d_M_starts_39 : m_D k_M_starts 39 (.iconst 0) 1 := (by decide +kernel : decode prog_14_method_53_code 39 = .ok (.iconst 0, 1))
theorem d_M_starts_40 : m_D k_M_starts 40 (.putfield 218) 3 := (by decide +kernel : decode prog_14_method_53_code 40 = .ok (.putfield 218, 3))
theorem d_M_starts_43 : m_D k_M_starts 43 (.aload_n 0) 1 := (by decide +kernel : decode prog_14_method_53_code 43 = .ok (.aload_n 0, 1))
theorem d_M_starts_44 : m_D k_M_starts 44 (.invokevirtual 228) 3 := (by decide +kernel : decode prog_14_method_53_code 44 = .ok (.invokevirtual 228, 3))
theorem d_M_starts_47 : m_D k_M_starts 47 (.iconst 1) 1 := (by decide +kernel : decode prog_14_method_53_code 47 = .ok (.iconst 1, 1))
theorem d_M_starts_48 : m_D k_M_starts 48 (.ireturn) 1 := (by decide +kernel : decode prog_14_method_53_code 48 = .ok (.ireturn, 1))
def fn_M_starts (x0 : Option mA) (x1 : Int32) (x2 : Int32) : mP Int32 :=
  m_th 11 x0 <|
  if x1 < 0 then
    m_bd (fn_M_no x0 5) fun v1 =>
    m_bd (m_cz v1) fun _ => m_rt v1
  else
    m_bd (m_gI 11 8 x0) fun v2 =>
    if v2 < x1 then
      m_bd (fn_M_no x0 5) fun v3 =>
      m_bd (m_cz v3) fun _ => m_rt v3
    else
      if x1 ≤ x2 then
        m_bd (m_pI 11 9 x0 x1) fun _ =>
        m_bd (m_pI 11 8 x0 0) fun _ =>
        m_bd (m_pI 11 16 x0 0) fun _ =>
        m_bd (m_pI 11 12 x0 0) fun _ =>
        m_bd (fn_M_advance x0) fun _ =>
        m_rt 1
      else
        m_bd (fn_M_no x0 5) fun v4 =>
        m_bd (m_cz v4) fun _ => m_rt v4
set_option maxHeartbeats 4000000 in
set_option maxRecDepth 100000 in
theorem sd_M_starts (x0 : Option mA) (x1 : Int32) (x2 : Int32) : m_Sm k_M_starts 3 0 0 [.inr (.inr x0), .inl x1, .inl x2] (fn_M_starts x0 x1 x2) (fun b => some (.inl b)) := by
  refine ⟨Nat.le_of_ble_eq_true rfl, ?_⟩
  refine sm_th ?_
  refine sm_iload_n (i := 1) (j := 1) (pc' := 1) d_M_starts_0 rfl rfl rfl ?_
  refine sm_if_lt (tgt := 17) (pc' := 4) d_M_starts_1 rfl rfl ?_ ?_
  · refine sm_aload_n (i := 0) (j := 0) (pc' := 18) d_M_starts_17 rfl rfl rfl (sm_iconst (pc' := 19) d_M_starts_18 rfl ic_5 ?_)
    refine sm_callVi (ci := 11) (x := x0) (av := [.inl 5]) (st := []) (mc := 0) (ms := 0) (pc' := 22) d_M_starts_19 rfl (sd_M_no x0 5) m_lv rfl cv_M_no w_ml_M_96 rfl rfl (by decide) (Nat.le_of_ble_eq_true rfl) rfl rfl (fun v1 => ?_)
    exact sm_zretC d_M_starts_22 rfl rfl
  · refine sm_iload_n (i := 1) (j := 1) (pc' := 5) d_M_starts_4 rfl rfl rfl (sm_aload_n (i := 0) (j := 0) (pc' := 6) d_M_starts_5 rfl rfl rfl ?_)
    refine sm_getI (pc' := 9) d_M_starts_6 rfl fl_M_241 rfl ⟨by decide, by decide⟩ (fun v2 => ?_)
    refine sm_icmp_gt (tgt := 17) (pc' := 12) d_M_starts_9 rfl rfl ?_ ?_
    · refine sm_aload_n (i := 0) (j := 0) (pc' := 18) d_M_starts_17 rfl rfl rfl (sm_iconst (pc' := 19) d_M_starts_18 rfl ic_5 ?_)
      refine sm_callVi (ci := 11) (x := x0) (av := [.inl 5]) (st := []) (mc := 0) (ms := 0) (pc' := 22) d_M_starts_19 rfl (sd_M_no x0 5) m_lv rfl cv_M_no w_ml_M_96 rfl rfl (by decide) (Nat.le_of_ble_eq_true rfl) rfl rfl (fun v3 => ?_)
      exact sm_zretC d_M_starts_22 rfl rfl
    · refine sm_iload_n (i := 1) (j := 1) (pc' := 13) d_M_starts_12 rfl rfl rfl (sm_iload_n (i := 2) (j := 2) (pc' := 14) d_M_starts_13 rfl rfl rfl ?_)
      refine sm_icmp_le (tgt := 23) (pc' := 17) d_M_starts_14 rfl rfl ?_ ?_
      · refine sm_aload_n (i := 0) (j := 0) (pc' := 24) d_M_starts_23 rfl rfl rfl (sm_iload_n (i := 1) (j := 1) (pc' := 25) d_M_starts_24 rfl rfl rfl (sm_putI (pc' := 28) d_M_starts_25 rfl fl_M_124 (Or.inl rfl) rfl (sm_aload_n (i := 0) (j := 0) (pc' := 29) d_M_starts_28 rfl rfl rfl (sm_iconst (pc' := 30) d_M_starts_29 rfl ic_0 (sm_putI (pc' := 33) d_M_starts_30 rfl fl_M_241 (Or.inl rfl) rfl (sm_aload_n (i := 0) (j := 0) (pc' := 34) d_M_starts_33 rfl rfl rfl (sm_iconst (pc' := 35) d_M_starts_34 rfl ic_0 (sm_putI (pc' := 38) d_M_starts_35 rfl fl_M_127 (Or.inl rfl) rfl (sm_aload_n (i := 0) (j := 0) (pc' := 39) d_M_starts_38 rfl rfl rfl ?_)))))))))
        refine sm_iconst (pc' := 40) d_M_starts_39 rfl ic_0 (sm_putI (pc' := 43) d_M_starts_40 rfl fl_M_218 (Or.inl rfl) rfl (sm_aload_n (i := 0) (j := 0) (pc' := 44) d_M_starts_43 rfl rfl rfl ?_))
        refine sm_callVv (ci := 11) (x := x0) (av := []) (st := []) (mc := 0) (ms := 0) (pc' := 47) d_M_starts_44 rfl (sd_M_advance x0) m_lv rfl cv_M_advance w_ml_M_228 rfl rfl (by decide) (Nat.le_of_ble_eq_true rfl) rfl rfl ?_
        refine sm_iconst (pc' := 48) d_M_starts_47 rfl ic_1 ?_
        exact sm_zreturn d_M_starts_48 rfl (by decide) rfl
      · refine sm_aload_n (i := 0) (j := 0) (pc' := 18) d_M_starts_17 rfl rfl rfl (sm_iconst (pc' := 19) d_M_starts_18 rfl ic_5 ?_)
        refine sm_callVi (ci := 11) (x := x0) (av := [.inl 5]) (st := []) (mc := 0) (ms := 0) (pc' := 22) d_M_starts_19 rfl (sd_M_no x0 5) m_lv rfl cv_M_no w_ml_M_96 rfl rfl (by decide) (Nat.le_of_ble_eq_true rfl) rfl rfl (fun v4 => ?_)
        exact sm_zretC d_M_starts_22 rfl rfl
theorem d_M_family_0 : m_D k_M_family 0 (.aload_n 0) 1 := (by decide +kernel : decode prog_14_method_65_code 0 = .ok (.aload_n 0, 1))
theorem d_M_family_1 : m_D k_M_family 1 (.iconst 0) 1 := (by decide +kernel : decode prog_14_method_65_code 1 = .ok (.iconst 0, 1))
theorem d_M_family_2 : m_D k_M_family 2 (.putfield 81) 3 := (by decide +kernel : decode prog_14_method_65_code 2 = .ok (.putfield 81, 3))
theorem d_M_family_5 : m_D k_M_family 5 (.aload_n 0) 1 := (by decide +kernel : decode prog_14_method_65_code 5 = .ok (.aload_n 0, 1))
theorem d_M_family_6 : m_D k_M_family 6 (.iconst 0) 1 := (by decide +kernel : decode prog_14_method_65_code 6 = .ok (.iconst 0, 1))
theorem d_M_family_7 : m_D k_M_family 7 (.putfield 84) 3 := (by decide +kernel : decode prog_14_method_65_code 7 = .ok (.putfield 84, 3))
theorem d_M_family_10 : m_D k_M_family 10 (.aload_n 0) 1 := (by decide +kernel : decode prog_14_method_65_code 10 = .ok (.aload_n 0, 1))
theorem d_M_family_11 : m_D k_M_family 11 (.iload_n 1) 1 := (by decide +kernel : decode prog_14_method_65_code 11 = .ok (.iload_n 1, 1))
theorem d_M_family_12 : m_D k_M_family 12 (.sipush 900) 3 := (by decide +kernel : decode prog_14_method_65_code 12 = .ok (.sipush 900, 3))
theorem d_M_family_15 : m_D k_M_family 15 (.invokevirtual 286) 3 := (by decide +kernel : decode prog_14_method_65_code 15 = .ok (.invokevirtual 286, 3))
theorem d_M_family_18 : m_D k_M_family 18 (.ifCond .ne 5) 3 := (by decide +kernel : decode prog_14_method_65_code 18 = .ok (.ifCond .ne 5, 3))
theorem d_M_family_21 : m_D k_M_family 21 (.iconst (-1)) 1 := (by decide +kernel : decode prog_14_method_65_code 21 = .ok (.iconst (-1), 1))
theorem d_M_family_22 : m_D k_M_family 22 (.ireturn) 1 := (by decide +kernel : decode prog_14_method_65_code 22 = .ok (.ireturn, 1))
theorem d_M_family_23 : m_D k_M_family 23 (.aload_n 0) 1 := (by decide +kernel : decode prog_14_method_65_code 23 = .ok (.aload_n 0, 1))
theorem d_M_family_24 : m_D k_M_family 24 (.iconst 4) 1 := (by decide +kernel : decode prog_14_method_65_code 24 = .ok (.iconst 4, 1))
theorem d_M_family_25 : m_D k_M_family 25 (.invokevirtual 77) 3 := (by decide +kernel : decode prog_14_method_65_code 25 = .ok (.invokevirtual 77, 3))
theorem d_M_family_28 : m_D k_M_family 28 (.aload_n 0) 1 := (by decide +kernel : decode prog_14_method_65_code 28 = .ok (.aload_n 0, 1))
theorem d_M_family_29 : m_D k_M_family 29 (.iconst 0) 1 := (by decide +kernel : decode prog_14_method_65_code 29 = .ok (.iconst 0, 1))
theorem d_M_family_30 : m_D k_M_family 30 (.putfield 256) 3 := (by decide +kernel : decode prog_14_method_65_code 30 = .ok (.putfield 256, 3))
theorem d_M_family_33 : m_D k_M_family 33 (.aload_n 0) 1 := (by decide +kernel : decode prog_14_method_65_code 33 = .ok (.aload_n 0, 1))
theorem d_M_family_34 : m_D k_M_family 34 (.getfield 218) 3 := (by decide +kernel : decode prog_14_method_65_code 34 = .ok (.getfield 218, 3))
theorem d_M_family_37 : m_D k_M_family 37 (.ifCond .ne 27) 3 := (by decide +kernel : decode prog_14_method_65_code 37 = .ok (.ifCond .ne 27, 3))
theorem d_M_family_40 : m_D k_M_family 40 (.aload_n 0) 1 := (by decide +kernel : decode prog_14_method_65_code 40 = .ok (.aload_n 0, 1))
theorem d_M_family_41 : m_D k_M_family 41 (.getfield 136) 3 := (by decide +kernel : decode prog_14_method_65_code 41 = .ok (.getfield 136, 3))
theorem d_M_family_44 : m_D k_M_family 44 (.ifCond .eq 20) 3 := (by decide +kernel : decode prog_14_method_65_code 44 = .ok (.ifCond .eq 20, 3))
theorem d_M_family_47 : m_D k_M_family 47 (.aload_n 0) 1 := (by decide +kernel : decode prog_14_method_65_code 47 = .ok (.aload_n 0, 1))
theorem d_M_family_48 : m_D k_M_family 48 (.invokevirtual 289) 3 := (by decide +kernel : decode prog_14_method_65_code 48 = .ok (.invokevirtual 289, 3))
theorem d_M_family_51 : m_D k_M_family 51 (.aload_n 0) 1 := (by decide +kernel : decode prog_14_method_65_code 51 = .ok (.aload_n 0, 1))
theorem d_M_family_52 : m_D k_M_family 52 (.aload_n 0) 1 := (by decide +kernel : decode prog_14_method_65_code 52 = .ok (.aload_n 0, 1))
theorem d_M_family_53 : m_D k_M_family 53 (.bipush 59) 2 := (by decide +kernel : decode prog_14_method_65_code 53 = .ok (.bipush 59, 2))
theorem d_M_family_55 : m_D k_M_family 55 (.invokevirtual 292) 3 := (by decide +kernel : decode prog_14_method_65_code 55 = .ok (.invokevirtual 292, 3))
theorem d_M_family_58 : m_D k_M_family 58 (.invokevirtual 234) 3 := (by decide +kernel : decode prog_14_method_65_code 58 = .ok (.invokevirtual 234, 3))
theorem d_M_family_61 : m_D k_M_family 61 (.goto (-28)) 3 := (by decide +kernel : decode prog_14_method_65_code 61 = .ok (.goto (-28), 3))
theorem d_M_family_64 : m_D k_M_family 64 (.aload_n 0) 1 := (by decide +kernel : decode prog_14_method_65_code 64 = .ok (.aload_n 0, 1))
theorem d_M_family_65 : m_D k_M_family 65 (.invokevirtual 295) 3 := (by decide +kernel : decode prog_14_method_65_code 65 = .ok (.invokevirtual 295, 3))
theorem d_M_family_68 : m_D k_M_family 68 (.ifCond .ne 5) 3 := (by decide +kernel : decode prog_14_method_65_code 68 = .ok (.ifCond .ne 5, 3))
theorem d_M_family_71 : m_D k_M_family 71 (.iconst (-1)) 1 := (by decide +kernel : decode prog_14_method_65_code 71 = .ok (.iconst (-1), 1))
theorem d_M_family_72 : m_D k_M_family 72 (.ireturn) 1 := (by decide +kernel : decode prog_14_method_65_code 72 = .ok (.ireturn, 1))
theorem d_M_family_73 : m_D k_M_family 73 (.aload_n 0) 1 := (by decide +kernel : decode prog_14_method_65_code 73 = .ok (.aload_n 0, 1))
theorem d_M_family_74 : m_D k_M_family 74 (.iconst 4) 1 := (by decide +kernel : decode prog_14_method_65_code 74 = .ok (.iconst 4, 1))
theorem d_M_family_75 : m_D k_M_family 75 (.iconst 0) 1 := (by decide +kernel : decode prog_14_method_65_code 75 = .ok (.iconst 0, 1))
theorem d_M_family_76 : m_D k_M_family 76 (.invokevirtual 298) 3 := (by decide +kernel : decode prog_14_method_65_code 76 = .ok (.invokevirtual 298, 3))
theorem d_M_family_79 : m_D k_M_family 79 (.aload_n 0) 1 := (by decide +kernel : decode prog_14_method_65_code 79 = .ok (.aload_n 0, 1))
theorem d_M_family_80 : m_D k_M_family 80 (.getfield 35) 3 := (by decide +kernel : decode prog_14_method_65_code 80 = .ok (.getfield 35, 3))
theorem d_M_family_83 : m_D k_M_family 83 (.iconst 1) 1 := (by decide +kernel : decode prog_14_method_65_code 83 = .ok (.iconst 1, 1))
theorem d_M_family_84 : m_D k_M_family 84 (.iaload) 1 := (by decide +kernel : decode prog_14_method_65_code 84 = .ok (.iaload, 1))
theorem d_M_family_85 : m_D k_M_family 85 (.ireturn) 1 := (by decide +kernel : decode prog_14_method_65_code 85 = .ok (.ireturn, 1))
def fn_M_family_l33 (x0 : Option mA) (t2 : Unit) : mP ((Unit) ⊕ (Unit)) :=
  m_bd (m_gI 11 12 x0) fun v3 =>
  if v3 = 0 then
    m_bd (m_gI 11 14 x0) fun v4 =>
    if v4 = 0 then
      m_rt (.inr ())
    else
      m_bd (fn_M_readPart x0) fun _ =>
      m_bd (fn_M_isSign x0 59) fun v5 =>
      m_bd (fn_M_must x0 v5) fun _ =>
      m_rt (.inl ())
  else
    m_rt (.inr ())
def fn_M_family (x0 : Option mA) (x1 : Int32) : mP Int32 :=
  m_th 11 x0 <|
  m_bd (m_pI 11 1 x0 0) fun _ =>
  m_bd (m_pI 11 0 x0 0) fun _ =>
  m_bd (fn_M_starts x0 x1 900) fun v1 =>
  if v1 = 0 then
    m_rt (-1)
  else
    m_bd (fn_M_empties x0 4) fun _ =>
    m_bd (m_pI 11 25 x0 0) fun _ =>
    m_bd (m_lp (fn_M_family_l33 x0) m_F ()) fun (t6 : Unit) =>
    m_bd (fn_M_isWell x0) fun v7 =>
    if v7 = 0 then
      m_rt (-1)
    else
      m_bd (fn_M_copy x0 4 0) fun _ =>
      m_bd (m_gR 11 20 x0) fun v8 =>
      m_bd (m_aI 0 v8 1) fun v9 =>
      m_rt v9
set_option maxHeartbeats 4000000 in
set_option maxRecDepth 100000 in
theorem sd_M_family (x0 : Option mA) (x1 : Int32) : m_Sm k_M_family 9 0 0 [.inr (.inr x0), .inl x1] (fn_M_family x0 x1) (fun b => some (.inl b)) := by
  refine ⟨Nat.le_of_ble_eq_true rfl, ?_⟩
  refine sm_th ?_
  refine sm_aload_n (i := 0) (j := 0) (pc' := 1) d_M_family_0 rfl rfl rfl (sm_iconst (pc' := 2) d_M_family_1 rfl ic_0 (sm_putI (pc' := 5) d_M_family_2 rfl fl_M_81 (Or.inl rfl) rfl (sm_aload_n (i := 0) (j := 0) (pc' := 6) d_M_family_5 rfl rfl rfl (sm_iconst (pc' := 7) d_M_family_6 rfl ic_0 (sm_putI (pc' := 10) d_M_family_7 rfl fl_M_84 (Or.inl rfl) rfl (sm_aload_n (i := 0) (j := 0) (pc' := 11) d_M_family_10 rfl rfl rfl (sm_iload_n (i := 1) (j := 1) (pc' := 12) d_M_family_11 rfl rfl rfl (sm_sipush (pc' := 15) d_M_family_12 rfl is_900 ?_))))))))
  refine sm_callVi (ci := 11) (x := x0) (av := [.inl x1, .inl 900]) (st := []) (mc := 0) (ms := 0) (pc' := 18) d_M_family_15 rfl (sd_M_starts x0 x1 900) m_lv rfl cv_M_starts w_ml_M_286 rfl rfl (by decide) (Nat.le_of_ble_eq_true rfl) rfl rfl (fun v1 => ?_)
  refine sm_if_ne (tgt := 23) (pc' := 21) d_M_family_18 rfl rfl ?_ ?_
  · refine sm_aload_n (i := 0) (j := 0) (pc' := 24) d_M_family_23 rfl rfl rfl (sm_iconst (pc' := 25) d_M_family_24 rfl ic_4 ?_)
    refine sm_callVv (ci := 11) (x := x0) (av := [.inl 4]) (st := []) (mc := 0) (ms := 0) (pc' := 28) d_M_family_25 rfl (sd_M_empties x0 4) m_lv rfl cv_M_empties w_ml_M_77 rfl rfl (by decide) (Nat.le_of_ble_eq_true rfl) rfl rfl ?_
    refine sm_aload_n (i := 0) (j := 0) (pc' := 29) d_M_family_28 rfl rfl rfl (sm_iconst (pc' := 30) d_M_family_29 rfl ic_0 (sm_putI (pc' := 33) d_M_family_30 rfl fl_M_256 (Or.inl rfl) rfl ?_))
    refine sm_sub [0] rfl ?_
    refine sm_bd (mid := fun (t6 : Unit) => .inl (64, [(0, .inr (.inr x0))], [])) (sm_lp (hd := fun (t2 : Unit) => (.inl (33, [(0, .inr (.inr x0))], []) : mC)) (fun t2 => ?_) m_F ()) (fun t6 => ?_)
    · refine sm_aload_n (i := 0) (j := 0) (pc' := 34) d_M_family_33 rfl rfl rfl ?_
      refine sm_getI (pc' := 37) d_M_family_34 rfl fl_M_218 rfl ⟨by decide, by decide⟩ (fun v3 => ?_)
      refine sm_if_ne (tgt := 64) (pc' := 40) d_M_family_37 rfl rfl ?_ ?_
      · refine sm_sub [0] rfl ?_
        exact sm_rt rfl
      · refine sm_aload_n (i := 0) (j := 0) (pc' := 41) d_M_family_40 rfl rfl rfl ?_
        refine sm_getI (pc' := 44) d_M_family_41 rfl fl_M_136 rfl ⟨by decide, by decide⟩ (fun v4 => ?_)
        refine sm_if_eq (tgt := 64) (pc' := 47) d_M_family_44 rfl rfl ?_ ?_
        · refine sm_sub [0] rfl ?_
          exact sm_rt rfl
        · refine sm_aload_n (i := 0) (j := 0) (pc' := 48) d_M_family_47 rfl rfl rfl ?_
          refine sm_callVv (ci := 11) (x := x0) (av := []) (st := []) (mc := 0) (ms := 0) (pc' := 51) d_M_family_48 rfl (sd_M_readPart x0) m_lv rfl cv_M_readPart w_ml_M_289 rfl rfl (by decide) (Nat.le_of_ble_eq_true rfl) rfl rfl ?_
          refine sm_aload_n (i := 0) (j := 0) (pc' := 52) d_M_family_51 rfl rfl rfl (sm_aload_n (i := 0) (j := 0) (pc' := 53) d_M_family_52 rfl rfl rfl (sm_bipush (pc' := 55) d_M_family_53 rfl ib_59 ?_))
          refine sm_callVi (ci := 11) (x := x0) (av := [.inl 59]) (st := [.inr (.inr x0)]) (mc := 0) (ms := 0) (pc' := 58) d_M_family_55 rfl (sd_M_isSign x0 59) m_lv rfl cv_M_isSign w_ml_M_292 rfl rfl (by decide) (Nat.le_of_ble_eq_true rfl) rfl rfl (fun v5 => ?_)
          refine sm_callVv (ci := 11) (x := x0) (av := [.inl v5]) (st := []) (mc := 0) (ms := 0) (pc' := 61) d_M_family_58 rfl (sd_M_must x0 v5) m_lv rfl cv_M_must w_ml_M_234 rfl rfl (by decide) (Nat.le_of_ble_eq_true rfl) rfl rfl ?_
          refine sm_goto (tgt := 33) d_M_family_61 rfl (sm_sub [0] rfl ?_)
          exact sm_rt rfl
    · refine sm_aload_n (i := 0) (j := 0) (pc' := 65) d_M_family_64 rfl rfl rfl ?_
      refine sm_callVi (ci := 11) (x := x0) (av := []) (st := []) (mc := 0) (ms := 0) (pc' := 68) d_M_family_65 rfl (sd_M_isWell x0) m_lv rfl cv_M_isWell w_ml_M_295 rfl rfl (by decide) (Nat.le_of_ble_eq_true rfl) rfl rfl (fun v7 => ?_)
      refine sm_if_ne (tgt := 73) (pc' := 71) d_M_family_68 rfl rfl ?_ ?_
      · refine sm_aload_n (i := 0) (j := 0) (pc' := 74) d_M_family_73 rfl rfl rfl (sm_iconst (pc' := 75) d_M_family_74 rfl ic_4 (sm_iconst (pc' := 76) d_M_family_75 rfl ic_0 ?_))
        refine sm_callVv (ci := 11) (x := x0) (av := [.inl 4, .inl 0]) (st := []) (mc := 0) (ms := 0) (pc' := 79) d_M_family_76 rfl (sd_M_copy x0 4 0) m_lv rfl cv_M_copy w_ml_M_298 rfl rfl (by decide) (Nat.le_of_ble_eq_true rfl) rfl rfl ?_
        refine sm_aload_n (i := 0) (j := 0) (pc' := 80) d_M_family_79 rfl rfl rfl ?_
        refine sm_getR (pc' := 83) d_M_family_80 rfl fl_M_35 rfl rfl (fun v8 => ?_)
        refine sm_iconst (pc' := 84) d_M_family_83 rfl ic_1 ?_
        refine sm_iald (pc' := 85) d_M_family_84 rfl (fun v9 => ?_)
        exact sm_ireturn d_M_family_85 rfl rfl
      · refine sm_iconst (pc' := 72) d_M_family_71 rfl ic_m1 ?_
        exact sm_ireturn d_M_family_72 rfl rfl
  · refine sm_iconst (pc' := 22) d_M_family_21 rfl ic_m1 ?_
    exact sm_ireturn d_M_family_22 rfl rfl
theorem d_M_readTest_0 : m_D k_M_readTest 0 (.aload_n 0) 1 := (by decide +kernel : decode prog_14_method_66_code 0 = .ok (.aload_n 0, 1))
theorem d_M_readTest_1 : m_D k_M_readTest 1 (.invokevirtual 209) 3 := (by decide +kernel : decode prog_14_method_66_code 1 = .ok (.invokevirtual 209, 3))
theorem d_M_readTest_4 : m_D k_M_readTest 4 (.istore_n 2) 1 := (by decide +kernel : decode prog_14_method_66_code 4 = .ok (.istore_n 2, 1))
theorem d_M_readTest_5 : m_D k_M_readTest 5 (.aload_n 0) 1 := (by decide +kernel : decode prog_14_method_66_code 5 = .ok (.aload_n 0, 1))
theorem d_M_readTest_6 : m_D k_M_readTest 6 (.iload_n 2) 1 := (by decide +kernel : decode prog_14_method_66_code 6 = .ok (.iload_n 2, 1))
theorem d_M_readTest_7 : m_D k_M_readTest 7 (.ifCond .lt 7) 3 := (by decide +kernel : decode prog_14_method_66_code 7 = .ok (.ifCond .lt 7, 3))
theorem d_M_readTest_10 : m_D k_M_readTest 10 (.iconst 1) 1 := (by decide +kernel : decode prog_14_method_66_code 10 = .ok (.iconst 1, 1))
theorem d_M_readTest_11 : m_D k_M_readTest 11 (.goto 4) 3 := (by decide +kernel : decode prog_14_method_66_code 11 = .ok (.goto 4, 3))
theorem d_M_readTest_14 : m_D k_M_readTest 14 (.iconst 0) 1 := (by decide +kernel : decode prog_14_method_66_code 14 = .ok (.iconst 0, 1))
theorem d_M_readTest_15 : m_D k_M_readTest 15 (.invokevirtual 234) 3 := (by decide +kernel : decode prog_14_method_66_code 15 = .ok (.invokevirtual 234, 3))
theorem d_M_readTest_18 : m_D k_M_readTest 18 (.aload_n 0) 1 := (by decide +kernel : decode prog_14_method_66_code 18 = .ok (.aload_n 0, 1))
theorem d_M_readTest_19 : m_D k_M_readTest 19 (.getfield 35) 3 := (by decide +kernel : decode prog_14_method_66_code 19 = .ok (.getfield 35, 3))
theorem d_M_readTest_22 : m_D k_M_readTest 22 (.iload_n 1) 1 := (by decide +kernel : decode prog_14_method_66_code 22 = .ok (.iload_n 1, 1))
theorem d_M_readTest_23 : m_D k_M_readTest 23 (.bipush 6) 2 := (by decide +kernel : decode prog_14_method_66_code 23 = .ok (.bipush 6, 2))
theorem d_M_readTest_25 : m_D k_M_readTest 25 (.iadd) 1 := (by decide +kernel : decode prog_14_method_66_code 25 = .ok (.iadd, 1))
theorem d_M_readTest_26 : m_D k_M_readTest 26 (.iload_n 2) 1 := (by decide +kernel : decode prog_14_method_66_code 26 = .ok (.iload_n 2, 1))
theorem d_M_readTest_27 : m_D k_M_readTest 27 (.iastore) 1 := (by decide +kernel : decode prog_14_method_66_code 27 = .ok (.iastore, 1))
theorem d_M_readTest_28 : m_D k_M_readTest 28 (.aload_n 0) 1 := (by decide +kernel : decode prog_14_method_66_code 28 = .ok (.aload_n 0, 1))
theorem d_M_readTest_29 : m_D k_M_readTest 29 (.getfield 218) 3 := (by decide +kernel : decode prog_14_method_66_code 29 = .ok (.getfield 218, 3))
theorem d_M_readTest_32 : m_D k_M_readTest 32 (.ifCond .le 4) 3 := (by decide +kernel : decode prog_14_method_66_code 32 = .ok (.ifCond .le 4, 3))
theorem d_M_readTest_35 : m_D k_M_readTest 35 (.return_) 1 := (by decide +kernel : decode prog_14_method_66_code 35 = .ok (.return_, 1))
theorem d_M_readTest_36 : m_D k_M_readTest 36 (.aload_n 0) 1 := (by decide +kernel : decode prog_14_method_66_code 36 = .ok (.aload_n 0, 1))
theorem d_M_readTest_37 : m_D k_M_readTest 37 (.getfield 35) 3 := (by decide +kernel : decode prog_14_method_66_code 37 = .ok (.getfield 35, 3))
theorem d_M_readTest_40 : m_D k_M_readTest 40 (.iload_n 1) 1 := (by decide +kernel : decode prog_14_method_66_code 40 = .ok (.iload_n 1, 1))
theorem d_M_readTest_41 : m_D k_M_readTest 41 (.iconst 1) 1 := (by decide +kernel : decode prog_14_method_66_code 41 = .ok (.iconst 1, 1))
theorem d_M_readTest_42 : m_D k_M_readTest 42 (.iadd) 1 := (by decide +kernel : decode prog_14_method_66_code 42 = .ok (.iadd, 1))
theorem d_M_readTest_43 : m_D k_M_readTest 43 (.aload_n 0) 1 := (by decide +kernel : decode prog_14_method_66_code 43 = .ok (.aload_n 0, 1))
theorem d_M_readTest_44 : m_D k_M_readTest 44 (.iconst 0) 1 := (by decide +kernel : decode prog_14_method_66_code 44 = .ok (.iconst 0, 1))
theorem d_M_readTest_45 : m_D k_M_readTest 45 (.iload_n 2) 1 := (by decide +kernel : decode prog_14_method_66_code 45 = .ok (.iload_n 2, 1))
theorem d_M_readTest_46 : m_D k_M_readTest 46 (.iconst 2) 1 := (by decide +kernel : decode prog_14_method_66_code 46 = .ok (.iconst 2, 1))
theorem d_M_readTest_47 : m_D k_M_readTest 47 (.if_icmp .ne 7) 3 := (by decide +kernel : decode prog_14_method_66_code 47 = .ok (.if_icmp .ne 7, 3))
theorem d_M_readTest_50 : m_D k_M_readTest 50 (.iconst 0) 1 := (by decide +kernel : decode prog_14_method_66_code 50 = .ok (.iconst 0, 1))
theorem d_M_readTest_51 : m_D k_M_readTest 51 (.goto 4) 3 := (by decide +kernel : decode prog_14_method_66_code 51 = .ok (.goto 4, 3))
theorem d_M_readTest_54 : m_D k_M_readTest 54 (.iconst 1) 1 := (by decide +kernel : decode prog_14_method_66_code 54 = .ok (.iconst 1, 1))
theorem d_M_readTest_55 : m_D k_M_readTest 55 (.invokevirtual 270) 3 := (by decide +kernel : decode prog_14_method_66_code 55 = .ok (.invokevirtual 270, 3))
theorem d_M_readTest_58 : m_D k_M_readTest 58 (.iastore) 1 := (by decide +kernel : decode prog_14_method_66_code 58 = .ok (.iastore, 1))
theorem d_M_readTest_59 : m_D k_M_readTest 59 (.aload_n 0) 1 := (by decide +kernel : decode prog_14_method_66_code 59 = .ok (.aload_n 0, 1))
theorem d_M_readTest_60 : m_D k_M_readTest 60 (.getfield 218) 3 := (by decide +kernel : decode prog_14_method_66_code 60 = .ok (.getfield 218, 3))
theorem d_M_readTest_63 : m_D k_M_readTest 63 (.ifCond .gt 8) 3 := (by decide +kernel : decode prog_14_method_66_code 63 = .ok (.ifCond .gt 8, 3))
theorem d_M_readTest_66 : m_D k_M_readTest 66 (.iload_n 2) 1 := (by decide +kernel : decode prog_14_method_66_code 66 = .ok (.iload_n 2, 1))
theorem d_M_readTest_67 : m_D k_M_readTest 67 (.iconst 1) 1 := (by decide +kernel : decode prog_14_method_66_code 67 = .ok (.iconst 1, 1))
theorem d_M_readTest_68 : m_D k_M_readTest 68 (.if_icmp .eq 4) 3 := (by decide +kernel : decode prog_14_method_66_code 68 = .ok (.if_icmp .eq 4, 3))
theorem d_M_readTest_71 : m_D k_M_readTest 71 (.return_) 1 := (by decide +kernel : decode prog_14_method_66_code 71 = .ok (.return_, 1))
theorem d_M_readTest_72 : m_D k_M_readTest 72 (.aload_n 0) 1 := (by decide +kernel : decode prog_14_method_66_code 72 = .ok (.aload_n 0, 1))
theorem d_M_readTest_73 : m_D k_M_readTest 73 (.getfield 35) 3 := (by decide +kernel : decode prog_14_method_66_code 73 = .ok (.getfield 35, 3))
theorem d_M_readTest_76 : m_D k_M_readTest 76 (.iload_n 1) 1 := (by decide +kernel : decode prog_14_method_66_code 76 = .ok (.iload_n 1, 1))
theorem d_M_readTest_77 : m_D k_M_readTest 77 (.bipush 7) 2 := (by decide +kernel : decode prog_14_method_66_code 77 = .ok (.bipush 7, 2))
theorem d_M_readTest_79 : m_D k_M_readTest 79 (.iadd) 1 := (by decide +kernel : decode prog_14_method_66_code 79 = .ok (.iadd, 1))
theorem d_M_readTest_80 : m_D k_M_readTest 80 (.aload_n 0) 1 := (by decide +kernel : decode prog_14_method_66_code 80 = .ok (.aload_n 0, 1))
theorem d_M_readTest_81 : m_D k_M_readTest 81 (.getfield 136) 3 := (by decide +kernel : decode prog_14_method_66_code 81 = .ok (.getfield 136, 3))
theorem d_M_readTest_84 : m_D k_M_readTest 84 (.iconst 3) 1 := (by decide +kernel : decode prog_14_method_66_code 84 = .ok (.iconst 3, 1))
theorem d_M_readTest_85 : m_D k_M_readTest 85 (.if_icmp .ne 10) 3 := (by decide +kernel : decode prog_14_method_66_code 85 = .ok (.if_icmp .ne 10, 3))
theorem d_M_readTest_88 : m_D k_M_readTest 88 (.aload_n 0) 1 := (by decide +kernel : decode prog_14_method_66_code 88 = .ok (.aload_n 0, 1))
theorem d_M_readTest_89 : m_D k_M_readTest 89 (.getfield 155) 3 := (by decide +kernel : decode prog_14_method_66_code 89 = .ok (.getfield 155, 3))
theorem d_M_readTest_92 : m_D k_M_readTest 92 (.goto 4) 3 := (by decide +kernel : decode prog_14_method_66_code 92 = .ok (.goto 4, 3))
theorem d_M_readTest_95 : m_D k_M_readTest 95 (.iconst 0) 1 := (by decide +kernel : decode prog_14_method_66_code 95 = .ok (.iconst 0, 1))
theorem d_M_readTest_96 : m_D k_M_readTest 96 (.iastore) 1 := (by decide +kernel : decode prog_14_method_66_code 96 = .ok (.iastore, 1))
theorem d_M_readTest_97 : m_D k_M_readTest 97 (.aload_n 0) 1 := (by decide +kernel : decode prog_14_method_66_code 97 = .ok (.aload_n 0, 1))
theorem d_M_readTest_98 : m_D k_M_readTest 98 (.aload_n 0) 1 := (by decide +kernel : decode prog_14_method_66_code 98 = .ok (.aload_n 0, 1))
theorem d_M_readTest_99 : m_D k_M_readTest 99 (.bipush 60) 2 := (by decide +kernel : decode prog_14_method_66_code 99 = .ok (.bipush 60, 2))
theorem d_M_readTest_101 : m_D k_M_readTest 101 (.invokevirtual 292) 3 := (by decide +kernel : decode prog_14_method_66_code 101 = .ok (.invokevirtual 292, 3))
theorem d_M_readTest_104 : m_D k_M_readTest 104 (.ifCond .ne 21) 3 := (by decide +kernel : decode prog_14_method_66_code 104 = .ok (.ifCond .ne 21, 3))
theorem d_M_readTest_107 : m_D k_M_readTest 107 (.aload_n 0) 1 := (by decide +kernel : decode prog_14_method_66_code 107 = .ok (.aload_n 0, 1))
theorem d_M_readTest_108 : m_D k_M_readTest 108 (.bipush 62) 2 := (by decide +kernel : decode prog_14_method_66_code 108 = .ok (.bipush 62, 2))
theorem d_M_readTest_110 : m_D k_M_readTest 110 (.invokevirtual 292) 3 := (by decide +kernel : decode prog_14_method_66_code 110 = .ok (.invokevirtual 292, 3))
theorem d_M_readTest_113 : m_D k_M_readTest 113 (.ifCond .ne 12) 3 := (by decide +kernel : decode prog_14_method_66_code 113 = .ok (.ifCond .ne 12, 3))
theorem d_M_readTest_116 : m_D k_M_readTest 116 (.aload_n 0) 1 := (by decide +kernel : decode prog_14_method_66_code 116 = .ok (.aload_n 0, 1))
theorem d_M_readTest_117 : m_D k_M_readTest 117 (.bipush 61) 2 := (by decide +kernel : decode prog_14_method_66_code 117 = .ok (.bipush 61, 2))
theorem d_M_readTest_119 : m_D k_M_readTest 119 (.invokevirtual 292) 3 := (by decide +kernel : decode prog_14_method_66_code 119 = .ok (.invokevirtual 292, 3))
theorem d_M_readTest_122 : m_D k_M_readTest 122 (.ifCond .eq 7) 3 := (by decide +kernel : decode prog_14_method_66_code 122 = .ok (.ifCond .eq 7, 3))
theorem d_M_readTest_125 : m_D k_M_readTest 125 (.iconst 1) 1 := (by decide +kernel : decode prog_14_method_66_code 125 = .ok (.iconst 1, 1))
theorem d_M_readTest_126 : m_D k_M_readTest 126 (.goto 4) 3 := (by decide +kernel : decode prog_14_method_66_code 126 = .ok (.goto 4, 3))
theorem d_M_readTest_129 : m_D k_M_readTest 129 (.iconst 0) 1 := (by decide +kernel : decode prog_14_method_66_code 129 = .ok (.iconst 0, 1))
theorem d_M_readTest_130 : m_D k_M_readTest 130 (.invokevirtual 234) 3 := (by decide +kernel : decode prog_14_method_66_code 130 = .ok (.invokevirtual 234, 3))
theorem d_M_readTest_133 : m_D k_M_readTest 133 (.aload_n 0) 1 := (by decide +kernel : decode prog_14_method_66_code 133 = .ok (.aload_n 0, 1))
theorem d_M_readTest_134 : m_D k_M_readTest 134 (.getfield 35) 3 := (by decide +kernel : decode prog_14_method_66_code 134 = .ok (.getfield 35, 3))
theorem d_M_readTest_137 : m_D k_M_readTest 137 (.iload_n 1) 1 := (by decide +kernel : decode prog_14_method_66_code 137 = .ok (.iload_n 1, 1))
theorem d_M_readTest_138 : m_D k_M_readTest 138 (.iconst 2) 1 := (by decide +kernel : decode prog_14_method_66_code 138 = .ok (.iconst 2, 1))
theorem d_M_readTest_139 : m_D k_M_readTest 139 (.iadd) 1 := (by decide +kernel : decode prog_14_method_66_code 139 = .ok (.iadd, 1))
theorem d_M_readTest_140 : m_D k_M_readTest 140 (.aload_n 0) 1 := (by decide +kernel : decode prog_14_method_66_code 140 = .ok (.aload_n 0, 1))
theorem d_M_readTest_141 : m_D k_M_readTest 141 (.iconst 0) 1 := (by decide +kernel : decode prog_14_method_66_code 141 = .ok (.iconst 0, 1))
theorem d_M_readTest_142 : m_D k_M_readTest 142 (.sipush 999) 3 := (by decide +kernel : decode prog_14_method_66_code 142 = .ok (.sipush 999, 3))
theorem d_M_readTest_145 : m_D k_M_readTest 145 (.invokevirtual 238) 3 := (by decide +kernel : decode prog_14_method_66_code 145 = .ok (.invokevirtual 238, 3))
theorem d_M_readTest_148 : m_D k_M_readTest 148 (.iastore) 1 := (by decide +kernel : decode prog_14_method_66_code 148 = .ok (.iastore, 1))
theorem d_M_readTest_149 : m_D k_M_readTest 149 (.return_) 1 := (by decide +kernel : decode prog_14_method_66_code 149 = .ok (.return_, 1))
def fn_M_readTest (x0 : Option mA) (x1 : Int32) : mP Unit :=
  m_th 11 x0 <|
  m_bd (fn_M_testWord x0) fun v1 =>
  m_bd (α := Int32) (
    if v1 < 0 then
      m_rt 0
    else
      m_rt 1
    ) fun (t2 : Int32) =>
  m_bd (fn_M_must x0 t2) fun _ =>
  m_bd (m_gR 11 20 x0) fun v3 =>
  m_bd (m_tI 0 v3 (x1 + 6) v1) fun _ =>
  m_bd (m_gI 11 12 x0) fun v4 =>
  if v4 ≤ 0 then
    m_bd (m_gR 11 20 x0) fun v5 =>
    m_bd (α := Int32) (
      if v1 = 2 then
        m_rt 0
      else
        m_rt 1
      ) fun (t6 : Int32) =>
    m_bd (fn_M_readTold x0 0 t6) fun v7 =>
    m_bd (m_tI 0 v5 (x1 + 1) v7) fun _ =>
    m_bd (m_gI 11 12 x0) fun v8 =>
    if 0 < v8 then
      m_rt ()
    else
      if v1 = 1 then
        m_bd (m_gR 11 20 x0) fun v9 =>
        m_bd (m_gI 11 14 x0) fun v10 =>
        m_bd (α := Int32) (
          if v10 = 3 then
            m_bd (m_gI 11 17 x0) fun v11 =>
            m_rt v11
          else
            m_rt 0
          ) fun (t12 : Int32) =>
        m_bd (m_tI 0 v9 (x1 + 7) t12) fun _ =>
        m_bd (fn_M_isSign x0 60) fun v13 =>
        m_bd (α := Int32) (
          if v13 = 0 then
            m_bd (fn_M_isSign x0 62) fun v14 =>
            if v14 = 0 then
              m_bd (fn_M_isSign x0 61) fun v15 =>
              if v15 = 0 then
                m_rt 0
              else
                m_rt 1
            else
              m_rt 1
          else
            m_rt 1
          ) fun (t16 : Int32) =>
        m_bd (fn_M_must x0 t16) fun _ =>
        m_bd (m_gR 11 20 x0) fun v17 =>
        m_bd (fn_M_count x0 0 999) fun v18 =>
        m_bd (m_tI 0 v17 (x1 + 2) v18) fun _ =>
        m_rt ()
      else
        m_rt ()
  else
    m_rt ()
set_option maxHeartbeats 4000000 in
set_option maxRecDepth 100000 in
theorem sd_M_readTest (x0 : Option mA) (x1 : Int32) : m_Sm k_M_readTest 7 0 0 [.inr (.inr x0), .inl x1] (fn_M_readTest x0 x1) (fun _ => none) := by
  refine ⟨Nat.le_of_ble_eq_true rfl, ?_⟩
  refine sm_th ?_
  refine sm_aload_n (i := 0) (j := 0) (pc' := 1) d_M_readTest_0 rfl rfl rfl ?_
  refine sm_callVi (ci := 11) (x := x0) (av := []) (st := []) (mc := 0) (ms := 0) (pc' := 4) d_M_readTest_1 rfl (sd_M_testWord x0) m_lv rfl cv_M_testWord w_ml_M_209 rfl rfl (by decide) (Nat.le_of_ble_eq_true rfl) rfl rfl (fun v1 => ?_)
  refine sm_istore_n (i := 2) (L' := [(2, .inl v1), (0, .inr (.inr x0)), (1, .inl x1)]) (pc' := 5) d_M_readTest_4 rfl rfl (Nat.le_of_ble_eq_true rfl) rfl (sm_aload_n (i := 0) (j := 1) (pc' := 6) d_M_readTest_5 rfl rfl rfl (sm_iload_n (i := 2) (j := 0) (pc' := 7) d_M_readTest_6 rfl rfl rfl ?_))
  refine sm_bd (mid := fun (t2 : Int32) => .inl (15, [(0, .inr (.inr x0)), (1, .inl x1), (2, .inl v1)], [.inl t2, .inr (.inr x0)])) ?_ (fun t2 => ?_)
  · refine sm_if_lt (tgt := 14) (pc' := 10) d_M_readTest_7 rfl rfl ?_ ?_
    · refine sm_iconst (pc' := 15) d_M_readTest_14 rfl ic_0 (sm_sub [1, 2, 0] rfl ?_)
      exact sm_rt rfl
    · refine sm_iconst (pc' := 11) d_M_readTest_10 rfl ic_1 (sm_goto (tgt := 15) d_M_readTest_11 rfl (sm_sub [1, 2, 0] rfl ?_))
      exact sm_rt rfl
  · refine sm_callVv (ci := 11) (x := x0) (av := [.inl t2]) (st := []) (mc := 0) (ms := 0) (pc' := 18) d_M_readTest_15 rfl (sd_M_must x0 t2) m_lv rfl cv_M_must w_ml_M_234 rfl rfl (by decide) (Nat.le_of_ble_eq_true rfl) rfl rfl ?_
    refine sm_aload_n (i := 0) (j := 0) (pc' := 19) d_M_readTest_18 rfl rfl rfl ?_
    refine sm_getR (pc' := 22) d_M_readTest_19 rfl fl_M_35 rfl rfl (fun v3 => ?_)
    refine sm_iload_n (i := 1) (j := 1) (pc' := 23) d_M_readTest_22 rfl rfl rfl (sm_bipush (pc' := 25) d_M_readTest_23 rfl ib_6 (sm_iadd (pc' := 26) d_M_readTest_25 rfl (sm_iload_n (i := 2) (j := 2) (pc' := 27) d_M_readTest_26 rfl rfl rfl (sm_iast (pc' := 28) d_M_readTest_27 rfl (sm_aload_n (i := 0) (j := 0) (pc' := 29) d_M_readTest_28 rfl rfl rfl ?_)))))
    refine sm_getI (pc' := 32) d_M_readTest_29 rfl fl_M_218 rfl ⟨by decide, by decide⟩ (fun v4 => ?_)
    refine sm_if_le (tgt := 36) (pc' := 35) d_M_readTest_32 rfl rfl ?_ ?_
    · refine sm_aload_n (i := 0) (j := 0) (pc' := 37) d_M_readTest_36 rfl rfl rfl ?_
      refine sm_getR (pc' := 40) d_M_readTest_37 rfl fl_M_35 rfl rfl (fun v5 => ?_)
      refine sm_iload_n (i := 1) (j := 1) (pc' := 41) d_M_readTest_40 rfl rfl rfl (sm_iconst (pc' := 42) d_M_readTest_41 rfl ic_1 (sm_iadd (pc' := 43) d_M_readTest_42 rfl (sm_aload_n (i := 0) (j := 0) (pc' := 44) d_M_readTest_43 rfl rfl rfl (sm_iconst (pc' := 45) d_M_readTest_44 rfl ic_0 (sm_iload_n (i := 2) (j := 2) (pc' := 46) d_M_readTest_45 rfl rfl rfl (sm_iconst (pc' := 47) d_M_readTest_46 rfl ic_2 ?_))))))
      refine sm_bd (mid := fun (t6 : Int32) => .inl (55, [(0, .inr (.inr x0)), (1, .inl x1), (2, .inl v1)], [.inl t6, .inl 0, .inr (.inr x0), .inl (x1 + 1), .inr (.inr v5)])) ?_ (fun t6 => ?_)
      · refine sm_icmp_ne (tgt := 54) (pc' := 50) d_M_readTest_47 rfl rfl ?_ ?_
        · refine sm_iconst (pc' := 55) d_M_readTest_54 rfl ic_1 (sm_sub [0, 1, 2] rfl ?_)
          exact sm_rt rfl
        · refine sm_iconst (pc' := 51) d_M_readTest_50 rfl ic_0 (sm_goto (tgt := 55) d_M_readTest_51 rfl (sm_sub [0, 1, 2] rfl ?_))
          exact sm_rt rfl
      · refine sm_callVi (ci := 11) (x := x0) (av := [.inl 0, .inl t6]) (st := [.inl (x1 + 1), .inr (.inr v5)]) (mc := 0) (ms := 0) (pc' := 58) d_M_readTest_55 rfl (sd_M_readTold x0 0 t6) m_lv rfl cv_M_readTold w_ml_M_270 rfl rfl (by decide) (Nat.le_of_ble_eq_true rfl) rfl rfl (fun v7 => ?_)
        refine sm_iast (pc' := 59) d_M_readTest_58 rfl (sm_aload_n (i := 0) (j := 0) (pc' := 60) d_M_readTest_59 rfl rfl rfl ?_)
        refine sm_getI (pc' := 63) d_M_readTest_60 rfl fl_M_218 rfl ⟨by decide, by decide⟩ (fun v8 => ?_)
        refine sm_if_gt (tgt := 71) (pc' := 66) d_M_readTest_63 rfl rfl ?_ ?_
        · exact sm_return d_M_readTest_71 rfl rfl
        · refine sm_iload_n (i := 2) (j := 2) (pc' := 67) d_M_readTest_66 rfl rfl rfl (sm_iconst (pc' := 68) d_M_readTest_67 rfl ic_1 ?_)
          refine sm_icmp_eq (tgt := 72) (pc' := 71) d_M_readTest_68 rfl rfl ?_ ?_
          · refine sm_aload_n (i := 0) (j := 0) (pc' := 73) d_M_readTest_72 rfl rfl rfl ?_
            refine sm_getR (pc' := 76) d_M_readTest_73 rfl fl_M_35 rfl rfl (fun v9 => ?_)
            refine sm_iload_n (i := 1) (j := 1) (pc' := 77) d_M_readTest_76 rfl rfl rfl (sm_bipush (pc' := 79) d_M_readTest_77 rfl ib_7 (sm_iadd (pc' := 80) d_M_readTest_79 rfl (sm_aload_n (i := 0) (j := 0) (pc' := 81) d_M_readTest_80 rfl rfl rfl ?_)))
            refine sm_getI (pc' := 84) d_M_readTest_81 rfl fl_M_136 rfl ⟨by decide, by decide⟩ (fun v10 => ?_)
            refine sm_iconst (pc' := 85) d_M_readTest_84 rfl ic_3 ?_
            refine sm_bd (mid := fun (t12 : Int32) => .inl (96, [(0, .inr (.inr x0)), (1, .inl x1)], [.inl t12, .inl (x1 + 7), .inr (.inr v9)])) ?_ (fun t12 => ?_)
            · refine sm_icmp_ne (tgt := 95) (pc' := 88) d_M_readTest_85 rfl rfl ?_ ?_
              · refine sm_iconst (pc' := 96) d_M_readTest_95 rfl ic_0 (sm_sub [0, 1] rfl ?_)
                exact sm_rt rfl
              · refine sm_aload_n (i := 0) (j := 0) (pc' := 89) d_M_readTest_88 rfl rfl rfl ?_
                refine sm_getI (pc' := 92) d_M_readTest_89 rfl fl_M_155 rfl ⟨by decide, by decide⟩ (fun v11 => ?_)
                refine sm_goto (tgt := 96) d_M_readTest_92 rfl (sm_sub [0, 1] rfl ?_)
                exact sm_rt rfl
            · refine sm_iast (pc' := 97) d_M_readTest_96 rfl (sm_aload_n (i := 0) (j := 0) (pc' := 98) d_M_readTest_97 rfl rfl rfl (sm_aload_n (i := 0) (j := 0) (pc' := 99) d_M_readTest_98 rfl rfl rfl (sm_bipush (pc' := 101) d_M_readTest_99 rfl ib_60 ?_)))
              refine sm_callVi (ci := 11) (x := x0) (av := [.inl 60]) (st := [.inr (.inr x0)]) (mc := 0) (ms := 0) (pc' := 104) d_M_readTest_101 rfl (sd_M_isSign x0 60) m_lv rfl cv_M_isSign w_ml_M_292 rfl rfl (by decide) (Nat.le_of_ble_eq_true rfl) rfl rfl (fun v13 => ?_)
              refine sm_bd (mid := fun (t16 : Int32) => .inl (130, [(0, .inr (.inr x0)), (1, .inl x1)], [.inl t16, .inr (.inr x0)])) ?_ (fun t16 => ?_)
              · refine sm_if_ne (tgt := 125) (pc' := 107) d_M_readTest_104 rfl rfl ?_ ?_
                · refine sm_iconst (pc' := 126) d_M_readTest_125 rfl ic_1 (sm_goto (tgt := 130) d_M_readTest_126 rfl (sm_sub [0, 1] rfl ?_))
                  exact sm_rt rfl
                · refine sm_aload_n (i := 0) (j := 0) (pc' := 108) d_M_readTest_107 rfl rfl rfl (sm_bipush (pc' := 110) d_M_readTest_108 rfl ib_62 ?_)
                  refine sm_callVi (ci := 11) (x := x0) (av := [.inl 62]) (st := [.inr (.inr x0)]) (mc := 0) (ms := 0) (pc' := 113) d_M_readTest_110 rfl (sd_M_isSign x0 62) m_lv rfl cv_M_isSign w_ml_M_292 rfl rfl (by decide) (Nat.le_of_ble_eq_true rfl) rfl rfl (fun v14 => ?_)
                  refine sm_if_ne (tgt := 125) (pc' := 116) d_M_readTest_113 rfl rfl ?_ ?_
                  · refine sm_iconst (pc' := 126) d_M_readTest_125 rfl ic_1 (sm_goto (tgt := 130) d_M_readTest_126 rfl (sm_sub [0, 1] rfl ?_))
                    exact sm_rt rfl
                  · refine sm_aload_n (i := 0) (j := 0) (pc' := 117) d_M_readTest_116 rfl rfl rfl (sm_bipush (pc' := 119) d_M_readTest_117 rfl ib_61 ?_)
                    refine sm_callVi (ci := 11) (x := x0) (av := [.inl 61]) (st := [.inr (.inr x0)]) (mc := 0) (ms := 0) (pc' := 122) d_M_readTest_119 rfl (sd_M_isSign x0 61) m_lv rfl cv_M_isSign w_ml_M_292 rfl rfl (by decide) (Nat.le_of_ble_eq_true rfl) rfl rfl (fun v15 => ?_)
                    refine sm_if_eq (tgt := 129) (pc' := 125) d_M_readTest_122 rfl rfl ?_ ?_
                    · refine sm_iconst (pc' := 130) d_M_readTest_129 rfl ic_0 (sm_sub [0, 1] rfl ?_)
                      exact sm_rt rfl
                    · refine sm_iconst (pc' := 126) d_M_readTest_125 rfl ic_1 (sm_goto (tgt := 130) d_M_readTest_126 rfl (sm_sub [0, 1] rfl ?_))
                      exact sm_rt rfl
              · refine sm_callVv (ci := 11) (x := x0) (av := [.inl t16]) (st := []) (mc := 0) (ms := 0) (pc' := 133) d_M_readTest_130 rfl (sd_M_must x0 t16) m_lv rfl cv_M_must w_ml_M_234 rfl rfl (by decide) (Nat.le_of_ble_eq_true rfl) rfl rfl ?_
                refine sm_aload_n (i := 0) (j := 0) (pc' := 134) d_M_readTest_133 rfl rfl rfl ?_
                refine sm_getR (pc' := 137) d_M_readTest_134 rfl fl_M_35 rfl rfl (fun v17 => ?_)
                refine sm_iload_n (i := 1) (j := 1) (pc' := 138) d_M_readTest_137 rfl rfl rfl (sm_iconst (pc' := 139) d_M_readTest_138 rfl ic_2 (sm_iadd (pc' := 140) d_M_readTest_139 rfl (sm_aload_n (i := 0) (j := 0) (pc' := 141) d_M_readTest_140 rfl rfl rfl (sm_iconst (pc' := 142) d_M_readTest_141 rfl ic_0 (sm_sipush (pc' := 145) d_M_readTest_142 rfl is_999 ?_)))))
                refine sm_callVi (ci := 11) (x := x0) (av := [.inl 0, .inl 999]) (st := [.inl (x1 + 2), .inr (.inr v17)]) (mc := 0) (ms := 0) (pc' := 148) d_M_readTest_145 rfl (sd_M_count x0 0 999) m_lv rfl cv_M_count w_ml_M_238 rfl rfl (by decide) (Nat.le_of_ble_eq_true rfl) rfl rfl (fun v18 => ?_)
                refine sm_iast (pc' := 149) d_M_readTest_148 rfl ?_
                exact sm_return d_M_readTest_149 rfl rfl
          · exact sm_return d_M_readTest_71 rfl rfl
    · exact sm_return d_M_readTest_35 rfl rfl
theorem d_M_readRest_0 : m_D k_M_readRest 0 (.aload_n 0) 1 := (by decide +kernel : decode prog_14_method_67_code 0 = .ok (.aload_n 0, 1))
theorem d_M_readRest_1 : m_D k_M_readRest 1 (.getfield 35) 3 := (by decide +kernel : decode prog_14_method_67_code 1 = .ok (.getfield 35, 3))
theorem d_M_readRest_4 : m_D k_M_readRest 4 (.iload_n 1) 1 := (by decide +kernel : decode prog_14_method_67_code 4 = .ok (.iload_n 1, 1))
theorem d_M_readRest_5 : m_D k_M_readRest 5 (.iaload) 1 := (by decide +kernel : decode prog_14_method_67_code 5 = .ok (.iaload, 1))
theorem d_M_readRest_6 : m_D k_M_readRest 6 (.istore_n 2) 1 := (by decide +kernel : decode prog_14_method_67_code 6 = .ok (.istore_n 2, 1))
theorem d_M_readRest_7 : m_D k_M_readRest 7 (.iload_n 2) 1 := (by decide +kernel : decode prog_14_method_67_code 7 = .ok (.iload_n 2, 1))
theorem d_M_readRest_8 : m_D k_M_readRest 8 (.ifCond .ne 21) 3 := (by decide +kernel : decode prog_14_method_67_code 8 = .ok (.ifCond .ne 21, 3))
theorem d_M_readRest_11 : m_D k_M_readRest 11 (.aload_n 0) 1 := (by decide +kernel : decode prog_14_method_67_code 11 = .ok (.aload_n 0, 1))
theorem d_M_readRest_12 : m_D k_M_readRest 12 (.getfield 35) 3 := (by decide +kernel : decode prog_14_method_67_code 12 = .ok (.getfield 35, 3))
theorem d_M_readRest_15 : m_D k_M_readRest 15 (.iload_n 1) 1 := (by decide +kernel : decode prog_14_method_67_code 15 = .ok (.iload_n 1, 1))
theorem d_M_readRest_16 : m_D k_M_readRest 16 (.iconst 1) 1 := (by decide +kernel : decode prog_14_method_67_code 16 = .ok (.iconst 1, 1))
theorem d_M_readRest_17 : m_D k_M_readRest 17 (.iadd) 1 := (by decide +kernel : decode prog_14_method_67_code 17 = .ok (.iadd, 1))
theorem d_M_readRest_18 : m_D k_M_readRest 18 (.aload_n 0) 1 := (by decide +kernel : decode prog_14_method_67_code 18 = .ok (.aload_n 0, 1))
theorem d_M_readRest_19 : m_D k_M_readRest 19 (.iconst 1) 1 := (by decide +kernel : decode prog_14_method_67_code 19 = .ok (.iconst 1, 1))
theorem d_M_readRest_20 : m_D k_M_readRest 20 (.bipush 20) 2 := (by decide +kernel : decode prog_14_method_67_code 20 = .ok (.bipush 20, 2))
theorem d_M_readRest_22 : m_D k_M_readRest 22 (.invokevirtual 238) 3 := (by decide +kernel : decode prog_14_method_67_code 22 = .ok (.invokevirtual 238, 3))
theorem d_M_readRest_25 : m_D k_M_readRest 25 (.iastore) 1 := (by decide +kernel : decode prog_14_method_67_code 25 = .ok (.iastore, 1))
theorem d_M_readRest_26 : m_D k_M_readRest 26 (.goto 155) 3 := (by decide +kernel : decode prog_14_method_67_code 26 = .ok (.goto 155, 3))
theorem d_M_readRest_29 : m_D k_M_readRest 29 (.iload_n 2) 1 := (by decide +kernel : decode prog_14_method_67_code 29 = .ok (.iload_n 2, 1))
theorem d_M_readRest_30 : m_D k_M_readRest 30 (.iconst 3) 1 := (by decide +kernel : decode prog_14_method_67_code 30 = .ok (.iconst 3, 1))
theorem d_M_readRest_31 : m_D k_M_readRest 31 (.if_icmp .ne 21) 3 := (by decide +kernel : decode prog_14_method_67_code 31 = .ok (.if_icmp .ne 21, 3))
theorem d_M_readRest_34 : m_D k_M_readRest 34 (.aload_n 0) 1 := (by decide +kernel : decode prog_14_method_67_code 34 = .ok (.aload_n 0, 1))
theorem d_M_readRest_35 : m_D k_M_readRest 35 (.getfield 35) 3 := (by decide +kernel : decode prog_14_method_67_code 35 = .ok (.getfield 35, 3))
theorem d_M_readRest_38 : m_D k_M_readRest 38 (.iload_n 1) 1 := (by decide +kernel : decode prog_14_method_67_code 38 = .ok (.iload_n 1, 1))
theorem d_M_readRest_39 : m_D k_M_readRest 39 (.iconst 1) 1 := (by decide +kernel : decode prog_14_method_67_code 39 = .ok (.iconst 1, 1))
theorem d_M_readRest_40 : m_D k_M_readRest 40 (.iadd) 1 := (by decide +kernel : decode prog_14_method_67_code 40 = .ok (.iadd, 1))
theorem d_M_readRest_41 : m_D k_M_readRest 41 (.aload_n 0) 1 := (by decide +kernel : decode prog_14_method_67_code 41 = .ok (.aload_n 0, 1))
theorem d_M_readRest_42 : m_D k_M_readRest 42 (.iconst 0) 1 := (by decide +kernel : decode prog_14_method_67_code 42 = .ok (.iconst 0, 1))
theorem d_M_readRest_43 : m_D k_M_readRest 43 (.bipush 9) 2 := (by decide +kernel : decode prog_14_method_67_code 43 = .ok (.bipush 9, 2))
theorem d_M_readRest_45 : m_D k_M_readRest 45 (.invokevirtual 238) 3 := (by decide +kernel : decode prog_14_method_67_code 45 = .ok (.invokevirtual 238, 3))
theorem d_M_readRest_48 : m_D k_M_readRest 48 (.iastore) 1 := (by decide +kernel : decode prog_14_method_67_code 48 = .ok (.iastore, 1))
theorem d_M_readRest_49 : m_D k_M_readRest 49 (.goto 132) 3 := (by decide +kernel : decode prog_14_method_67_code 49 = .ok (.goto 132, 3))
theorem d_M_readRest_52 : m_D k_M_readRest 52 (.iload_n 2) 1 := (by decide +kernel : decode prog_14_method_67_code 52 = .ok (.iload_n 2, 1))
theorem d_M_readRest_53 : m_D k_M_readRest 53 (.bipush 8) 2 := (by decide +kernel : decode prog_14_method_67_code 53 = .ok (.bipush 8, 2))
theorem d_M_readRest_55 : m_D k_M_readRest 55 (.if_icmp .ne 21) 3 := (by decide +kernel : decode prog_14_method_67_code 55 = .ok (.if_icmp .ne 21, 3))
theorem d_M_readRest_58 : m_D k_M_readRest 58 (.aload_n 0) 1 := (by decide +kernel : decode prog_14_method_67_code 58 = .ok (.aload_n 0, 1))
theorem d_M_readRest_59 : m_D k_M_readRest 59 (.getfield 35) 3 := (by decide +kernel : decode prog_14_method_67_code 59 = .ok (.getfield 35, 3))
theorem d_M_readRest_62 : m_D k_M_readRest 62 (.iload_n 1) 1 := (by decide +kernel : decode prog_14_method_67_code 62 = .ok (.iload_n 1, 1))
theorem d_M_readRest_63 : m_D k_M_readRest 63 (.iconst 1) 1 := (by decide +kernel : decode prog_14_method_67_code 63 = .ok (.iconst 1, 1))
theorem d_M_readRest_64 : m_D k_M_readRest 64 (.iadd) 1 := (by decide +kernel : decode prog_14_method_67_code 64 = .ok (.iadd, 1))
theorem d_M_readRest_65 : m_D k_M_readRest 65 (.aload_n 0) 1 := (by decide +kernel : decode prog_14_method_67_code 65 = .ok (.aload_n 0, 1))
theorem d_M_readRest_66 : m_D k_M_readRest 66 (.iconst 1) 1 := (by decide +kernel : decode prog_14_method_67_code 66 = .ok (.iconst 1, 1))
theorem d_M_readRest_67 : m_D k_M_readRest 67 (.bipush 99) 2 := (by decide +kernel : decode prog_14_method_67_code 67 = .ok (.bipush 99, 2))
theorem d_M_readRest_69 : m_D k_M_readRest 69 (.invokevirtual 238) 3 := (by decide +kernel : decode prog_14_method_67_code 69 = .ok (.invokevirtual 238, 3))
theorem d_M_readRest_72 : m_D k_M_readRest 72 (.iastore) 1 := (by decide +kernel : decode prog_14_method_67_code 72 = .ok (.iastore, 1))
theorem d_M_readRest_73 : m_D k_M_readRest 73 (.goto 108) 3 := (by decide +kernel : decode prog_14_method_67_code 73 = .ok (.goto 108, 3))
theorem d_M_readRest_76 : m_D k_M_readRest 76 (.iload_n 2) 1 := (by decide +kernel : decode prog_14_method_67_code 76 = .ok (.iload_n 2, 1))
theorem d_M_readRest_77 : m_D k_M_readRest 77 (.bipush 7) 2 := (by decide +kernel : decode prog_14_method_67_code 77 = .ok (.bipush 7, 2))
theorem d_M_readRest_79 : m_D k_M_readRest 79 (.if_icmp .ne 11) 3 := (by decide +kernel : decode prog_14_method_67_code 79 = .ok (.if_icmp .ne 11, 3))
theorem d_M_readRest_82 : m_D k_M_readRest 82 (.aload_n 0) 1 := (by decide +kernel : decode prog_14_method_67_code 82 = .ok (.aload_n 0, 1))
theorem d_M_readRest_83 : m_D k_M_readRest 83 (.iload_n 1) 1 := (by decide +kernel : decode prog_14_method_67_code 83 = .ok (.iload_n 1, 1))
theorem d_M_readRest_84 : m_D k_M_readRest 84 (.invokevirtual 301) 3 := (by decide +kernel : decode prog_14_method_67_code 84 = .ok (.invokevirtual 301, 3))
theorem d_M_readRest_87 : m_D k_M_readRest 87 (.goto 94) 3 := (by decide +kernel : decode prog_14_method_67_code 87 = .ok (.goto 94, 3))
theorem d_M_readRest_90 : m_D k_M_readRest 90 (.iload_n 2) 1 := (by decide +kernel : decode prog_14_method_67_code 90 = .ok (.iload_n 2, 1))
theorem d_M_readRest_91 : m_D k_M_readRest 91 (.iconst 2) 1 := (by decide +kernel : decode prog_14_method_67_code 91 = .ok (.iconst 2, 1))
theorem d_M_readRest_92 : m_D k_M_readRest 92 (.if_icmp .ne 49) 3 := (by decide +kernel : decode prog_14_method_67_code 92 = .ok (.if_icmp .ne 49, 3))
theorem d_M_readRest_95 : m_D k_M_readRest 95 (.aload_n 0) 1 := (by decide +kernel : decode prog_14_method_67_code 95 = .ok (.aload_n 0, 1))
theorem d_M_readRest_96 : m_D k_M_readRest 96 (.getfield 35) 3 := (by decide +kernel : decode prog_14_method_67_code 96 = .ok (.getfield 35, 3))
theorem d_M_readRest_99 : m_D k_M_readRest 99 (.iload_n 1) 1 := (by decide +kernel : decode prog_14_method_67_code 99 = .ok (.iload_n 1, 1))
theorem d_M_readRest_100 : m_D k_M_readRest 100 (.iconst 1) 1 := (by decide +kernel : decode prog_14_method_67_code 100 = .ok (.iconst 1, 1))
theorem d_M_readRest_101 : m_D k_M_readRest 101 (.iadd) 1 := (by decide +kernel : decode prog_14_method_67_code 101 = .ok (.iadd, 1))
theorem d_M_readRest_102 : m_D k_M_readRest 102 (.aload_n 0) 1 := (by decide +kernel : decode prog_14_method_67_code 102 = .ok (.aload_n 0, 1))
theorem d_M_readRest_103 : m_D k_M_readRest 103 (.iconst 0) 1 := (by decide +kernel : decode prog_14_method_67_code 103 = .ok (.iconst 0, 1))
theorem d_M_readRest_104 : m_D k_M_readRest 104 (.iconst 0) 1 := (by decide +kernel : decode prog_14_method_67_code 104 = .ok (.iconst 0, 1))
theorem d_M_readRest_105 : m_D k_M_readRest 105 (.invokevirtual 270) 3 := (by decide +kernel : decode prog_14_method_67_code 105 = .ok (.invokevirtual 270, 3))
theorem d_M_readRest_108 : m_D k_M_readRest 108 (.iastore) 1 := (by decide +kernel : decode prog_14_method_67_code 108 = .ok (.iastore, 1))
theorem d_M_readRest_109 : m_D k_M_readRest 109 (.aload_n 0) 1 := (by decide +kernel : decode prog_14_method_67_code 109 = .ok (.aload_n 0, 1))
theorem d_M_readRest_110 : m_D k_M_readRest 110 (.getfield 35) 3 := (by decide +kernel : decode prog_14_method_67_code 110 = .ok (.getfield 35, 3))
theorem d_M_readRest_113 : m_D k_M_readRest 113 (.iload_n 1) 1 := (by decide +kernel : decode prog_14_method_67_code 113 = .ok (.iload_n 1, 1))
theorem d_M_readRest_114 : m_D k_M_readRest 114 (.iconst 2) 1 := (by decide +kernel : decode prog_14_method_67_code 114 = .ok (.iconst 2, 1))
theorem d_M_readRest_115 : m_D k_M_readRest 115 (.iadd) 1 := (by decide +kernel : decode prog_14_method_67_code 115 = .ok (.iadd, 1))
theorem d_M_readRest_116 : m_D k_M_readRest 116 (.aload_n 0) 1 := (by decide +kernel : decode prog_14_method_67_code 116 = .ok (.aload_n 0, 1))
theorem d_M_readRest_117 : m_D k_M_readRest 117 (.iconst 0) 1 := (by decide +kernel : decode prog_14_method_67_code 117 = .ok (.iconst 0, 1))
theorem d_M_readRest_118 : m_D k_M_readRest 118 (.iconst 1) 1 := (by decide +kernel : decode prog_14_method_67_code 118 = .ok (.iconst 1, 1))
theorem d_M_readRest_119 : m_D k_M_readRest 119 (.invokevirtual 270) 3 := (by decide +kernel : decode prog_14_method_67_code 119 = .ok (.invokevirtual 270, 3))
theorem d_M_readRest_122 : m_D k_M_readRest 122 (.iastore) 1 := (by decide +kernel : decode prog_14_method_67_code 122 = .ok (.iastore, 1))
theorem d_M_readRest_123 : m_D k_M_readRest 123 (.aload_n 0) 1 := (by decide +kernel : decode prog_14_method_67_code 123 = .ok (.aload_n 0, 1))
theorem d_M_readRest_124 : m_D k_M_readRest 124 (.getfield 35) 3 := (by decide +kernel : decode prog_14_method_67_code 124 = .ok (.getfield 35, 3))
theorem d_M_readRest_127 : m_D k_M_readRest 127 (.iload_n 1) 1 := (by decide +kernel : decode prog_14_method_67_code 127 = .ok (.iload_n 1, 1))
theorem d_M_readRest_128 : m_D k_M_readRest 128 (.iconst 3) 1 := (by decide +kernel : decode prog_14_method_67_code 128 = .ok (.iconst 3, 1))
theorem d_M_readRest_129 : m_D k_M_readRest 129 (.iadd) 1 := (by decide +kernel : decode prog_14_method_67_code 129 = .ok (.iadd, 1))
theorem d_M_readRest_130 : m_D k_M_readRest 130 (.aload_n 0) 1 := (by decide +kernel : decode prog_14_method_67_code 130 = .ok (.aload_n 0, 1))
theorem d_M_readRest_131 : m_D k_M_readRest 131 (.iconst 0) 1 := (by decide +kernel : decode prog_14_method_67_code 131 = .ok (.iconst 0, 1))
theorem d_M_readRest_132 : m_D k_M_readRest 132 (.bipush 9) 2 := (by decide +kernel : decode prog_14_method_67_code 132 = .ok (.bipush 9, 2))
theorem d_M_readRest_134 : m_D k_M_readRest 134 (.invokevirtual 238) 3 := (by decide +kernel : decode prog_14_method_67_code 134 = .ok (.invokevirtual 238, 3))
theorem d_M_readRest_137 : m_D k_M_readRest 137 (.iastore) 1 := (by decide +kernel : decode prog_14_method_67_code 137 = .ok (.iastore, 1))
theorem d_M_readRest_138 : m_D k_M_readRest 138 (.goto 43) 3 := (by decide +kernel : decode prog_14_method_67_code 138 = .ok (.goto 43, 3))
theorem d_M_readRest_141 : m_D k_M_readRest 141 (.iload_n 2) 1 := (by decide +kernel : decode prog_14_method_67_code 141 = .ok (.iload_n 2, 1))
theorem d_M_readRest_142 : m_D k_M_readRest 142 (.bipush 6) 2 := (by decide +kernel : decode prog_14_method_67_code 142 = .ok (.bipush 6, 2))
theorem d_M_readRest_144 : m_D k_M_readRest 144 (.if_icmp .ge 37) 3 := (by decide +kernel : decode prog_14_method_67_code 144 = .ok (.if_icmp .ge 37, 3))
theorem d_M_readRest_147 : m_D k_M_readRest 147 (.aload_n 0) 1 := (by decide +kernel : decode prog_14_method_67_code 147 = .ok (.aload_n 0, 1))
theorem d_M_readRest_148 : m_D k_M_readRest 148 (.getfield 35) 3 := (by decide +kernel : decode prog_14_method_67_code 148 = .ok (.getfield 35, 3))
theorem d_M_readRest_151 : m_D k_M_readRest 151 (.iload_n 1) 1 := (by decide +kernel : decode prog_14_method_67_code 151 = .ok (.iload_n 1, 1))
theorem d_M_readRest_152 : m_D k_M_readRest 152 (.iconst 1) 1 := (by decide +kernel : decode prog_14_method_67_code 152 = .ok (.iconst 1, 1))
theorem d_M_readRest_153 : m_D k_M_readRest 153 (.iadd) 1 := (by decide +kernel : decode prog_14_method_67_code 153 = .ok (.iadd, 1))
theorem d_M_readRest_154 : m_D k_M_readRest 154 (.aload_n 0) 1 := (by decide +kernel : decode prog_14_method_67_code 154 = .ok (.aload_n 0, 1))
theorem d_M_readRest_155 : m_D k_M_readRest 155 (.iconst 0) 1 := (by decide +kernel : decode prog_14_method_67_code 155 = .ok (.iconst 0, 1))
theorem d_M_readRest_156 : m_D k_M_readRest 156 (.iconst 1) 1 := (by decide +kernel : decode prog_14_method_67_code 156 = .ok (.iconst 1, 1))
theorem d_M_readRest_157 : m_D k_M_readRest 157 (.invokevirtual 270) 3 := (by decide +kernel : decode prog_14_method_67_code 157 = .ok (.invokevirtual 270, 3))
theorem d_M_readRest_160 : m_D k_M_readRest 160 (.iastore) 1 := (by decide +kernel : decode prog_14_method_67_code 160 = .ok (.iastore, 1))
theorem d_M_readRest_161 : m_D k_M_readRest 161 (.iload_n 2) 1 := (by decide +kernel : decode prog_14_method_67_code 161 = .ok (.iload_n 2, 1))
theorem d_M_readRest_162 : m_D k_M_readRest 162 (.iconst 4) 1 := (by decide +kernel : decode prog_14_method_67_code 162 = .ok (.iconst 4, 1))
theorem d_M_readRest_163 : m_D k_M_readRest 163 (.if_icmp .ne 18) 3 := (by decide +kernel : decode prog_14_method_67_code 163 = .ok (.if_icmp .ne 18, 3))
theorem d_M_readRest_166 : m_D k_M_readRest 166 (.aload_n 0) 1 := (by decide +kernel : decode prog_14_method_67_code 166 = .ok (.aload_n 0, 1))
theorem d_M_readRest_167 : m_D k_M_readRest 167 (.getfield 35) 3 := (by decide +kernel : decode prog_14_method_67_code 167 = .ok (.getfield 35, 3))
theorem d_M_readRest_170 : m_D k_M_readRest 170 (.iload_n 1) 1 := (by decide +kernel : decode prog_14_method_67_code 170 = .ok (.iload_n 1, 1))
theorem d_M_readRest_171 : m_D k_M_readRest 171 (.iconst 2) 1 := (by decide +kernel : decode prog_14_method_67_code 171 = .ok (.iconst 2, 1))
theorem d_M_readRest_172 : m_D k_M_readRest 172 (.iadd) 1 := (by decide +kernel : decode prog_14_method_67_code 172 = .ok (.iadd, 1))
theorem d_M_readRest_173 : m_D k_M_readRest 173 (.aload_n 0) 1 := (by decide +kernel : decode prog_14_method_67_code 173 = .ok (.aload_n 0, 1))
theorem d_M_readRest_174 : m_D k_M_readRest 174 (.iconst 1) 1 := (by decide +kernel : decode prog_14_method_67_code 174 = .ok (.iconst 1, 1))
theorem d_M_readRest_175 : m_D k_M_readRest 175 (.bipush 99) 2 := (by decide +kernel : decode prog_14_method_67_code 175 = .ok (.bipush 99, 2))
theorem d_M_readRest_177 : m_D k_M_readRest 177 (.invokevirtual 238) 3 := (by decide +kernel : decode prog_14_method_67_code 177 = .ok (.invokevirtual 238, 3))
theorem d_M_readRest_180 : m_D k_M_readRest 180 (.iastore) 1 := (by decide +kernel : decode prog_14_method_67_code 180 = .ok (.iastore, 1))
theorem d_M_readRest_181 : m_D k_M_readRest 181 (.return_) 1 := (by decide +kernel : decode prog_14_method_67_code 181 = .ok (.return_, 1))
def fn_M_readRest (x0 : Option mA) (x1 : Int32) : mP Unit :=
  m_th 11 x0 <|
  m_bd (m_gR 11 20 x0) fun v1 =>
  m_bd (m_aI 0 v1 x1) fun v2 =>
  if v2 = 0 then
    m_bd (m_gR 11 20 x0) fun v17 =>
    m_bd (fn_M_count x0 1 20) fun v18 =>
    m_bd (m_tI 0 v17 (x1 + 1) v18) fun _ =>
    m_rt ()
  else
    if v2 = 3 then
      m_bd (m_gR 11 20 x0) fun v15 =>
      m_bd (fn_M_count x0 0 9) fun v16 =>
      m_bd (m_tI 0 v15 (x1 + 1) v16) fun _ =>
      m_rt ()
    else
      if v2 = 8 then
        m_bd (m_gR 11 20 x0) fun v13 =>
        m_bd (fn_M_count x0 1 99) fun v14 =>
        m_bd (m_tI 0 v13 (x1 + 1) v14) fun _ =>
        m_rt ()
      else
        if v2 = 7 then
          m_bd (fn_M_readTest x0 x1) fun _ =>
          m_rt ()
        else
          if v2 = 2 then
            m_bd (m_gR 11 20 x0) fun v7 =>
            m_bd (fn_M_readTold x0 0 0) fun v8 =>
            m_bd (m_tI 0 v7 (x1 + 1) v8) fun _ =>
            m_bd (m_gR 11 20 x0) fun v9 =>
            m_bd (fn_M_readTold x0 0 1) fun v10 =>
            m_bd (m_tI 0 v9 (x1 + 2) v10) fun _ =>
            m_bd (m_gR 11 20 x0) fun v11 =>
            m_bd (fn_M_count x0 0 9) fun v12 =>
            m_bd (m_tI 0 v11 (x1 + 3) v12) fun _ =>
            m_rt ()
          else
            if 6 ≤ v2 then
              m_rt ()
            else
              m_bd (m_gR 11 20 x0) fun v3 =>
              m_bd (fn_M_readTold x0 0 1) fun v4 =>
              m_bd (m_tI 0 v3 (x1 + 1) v4) fun _ =>
              if v2 = 4 then
                m_bd (m_gR 11 20 x0) fun v5 =>
                m_bd (fn_M_count x0 1 99) fun v6 =>
                m_bd (m_tI 0 v5 (x1 + 2) v6) fun _ =>
                m_rt ()
              else
                m_rt ()
set_option maxHeartbeats 4000000 in
set_option maxRecDepth 100000 in
theorem sd_M_readRest (x0 : Option mA) (x1 : Int32) : m_Sm k_M_readRest 8 0 0 [.inr (.inr x0), .inl x1] (fn_M_readRest x0 x1) (fun _ => none) := by
  refine ⟨Nat.le_of_ble_eq_true rfl, ?_⟩
  refine sm_th ?_
  refine sm_aload_n (i := 0) (j := 0) (pc' := 1) d_M_readRest_0 rfl rfl rfl ?_
  refine sm_getR (pc' := 4) d_M_readRest_1 rfl fl_M_35 rfl rfl (fun v1 => ?_)
  refine sm_iload_n (i := 1) (j := 1) (pc' := 5) d_M_readRest_4 rfl rfl rfl ?_
  refine sm_iald (pc' := 6) d_M_readRest_5 rfl (fun v2 => ?_)
  refine sm_istore_n (i := 2) (L' := [(2, .inl v2), (0, .inr (.inr x0)), (1, .inl x1)]) (pc' := 7) d_M_readRest_6 rfl rfl (Nat.le_of_ble_eq_true rfl) rfl (sm_iload_n (i := 2) (j := 0) (pc' := 8) d_M_readRest_7 rfl rfl rfl ?_)
  refine sm_if_ne (tgt := 29) (pc' := 11) d_M_readRest_8 rfl rfl ?_ ?_
  · refine sm_iload_n (i := 2) (j := 0) (pc' := 30) d_M_readRest_29 rfl rfl rfl (sm_iconst (pc' := 31) d_M_readRest_30 rfl ic_3 ?_)
    refine sm_icmp_ne (tgt := 52) (pc' := 34) d_M_readRest_31 rfl rfl ?_ ?_
    · refine sm_iload_n (i := 2) (j := 0) (pc' := 53) d_M_readRest_52 rfl rfl rfl (sm_bipush (pc' := 55) d_M_readRest_53 rfl ib_8 ?_)
      refine sm_icmp_ne (tgt := 76) (pc' := 58) d_M_readRest_55 rfl rfl ?_ ?_
      · refine sm_iload_n (i := 2) (j := 0) (pc' := 77) d_M_readRest_76 rfl rfl rfl (sm_bipush (pc' := 79) d_M_readRest_77 rfl ib_7 ?_)
        refine sm_icmp_ne (tgt := 90) (pc' := 82) d_M_readRest_79 rfl rfl ?_ ?_
        · refine sm_iload_n (i := 2) (j := 0) (pc' := 91) d_M_readRest_90 rfl rfl rfl (sm_iconst (pc' := 92) d_M_readRest_91 rfl ic_2 ?_)
          refine sm_icmp_ne (tgt := 141) (pc' := 95) d_M_readRest_92 rfl rfl ?_ ?_
          · refine sm_iload_n (i := 2) (j := 0) (pc' := 142) d_M_readRest_141 rfl rfl rfl (sm_bipush (pc' := 144) d_M_readRest_142 rfl ib_6 ?_)
            refine sm_icmp_ge (tgt := 181) (pc' := 147) d_M_readRest_144 rfl rfl ?_ ?_
            · exact sm_return d_M_readRest_181 rfl rfl
            · refine sm_aload_n (i := 0) (j := 1) (pc' := 148) d_M_readRest_147 rfl rfl rfl ?_
              refine sm_getR (pc' := 151) d_M_readRest_148 rfl fl_M_35 rfl rfl (fun v3 => ?_)
              refine sm_iload_n (i := 1) (j := 2) (pc' := 152) d_M_readRest_151 rfl rfl rfl (sm_iconst (pc' := 153) d_M_readRest_152 rfl ic_1 (sm_iadd (pc' := 154) d_M_readRest_153 rfl (sm_aload_n (i := 0) (j := 1) (pc' := 155) d_M_readRest_154 rfl rfl rfl (sm_iconst (pc' := 156) d_M_readRest_155 rfl ic_0 (sm_iconst (pc' := 157) d_M_readRest_156 rfl ic_1 ?_)))))
              refine sm_callVi (ci := 11) (x := x0) (av := [.inl 0, .inl 1]) (st := [.inl (x1 + 1), .inr (.inr v3)]) (mc := 0) (ms := 0) (pc' := 160) d_M_readRest_157 rfl (sd_M_readTold x0 0 1) m_lv rfl cv_M_readTold w_ml_M_270 rfl rfl (by decide) (Nat.le_of_ble_eq_true rfl) rfl rfl (fun v4 => ?_)
              refine sm_iast (pc' := 161) d_M_readRest_160 rfl (sm_iload_n (i := 2) (j := 0) (pc' := 162) d_M_readRest_161 rfl rfl rfl (sm_iconst (pc' := 163) d_M_readRest_162 rfl ic_4 ?_))
              refine sm_icmp_ne (tgt := 181) (pc' := 166) d_M_readRest_163 rfl rfl ?_ ?_
              · exact sm_return d_M_readRest_181 rfl rfl
              · refine sm_aload_n (i := 0) (j := 1) (pc' := 167) d_M_readRest_166 rfl rfl rfl ?_
                refine sm_getR (pc' := 170) d_M_readRest_167 rfl fl_M_35 rfl rfl (fun v5 => ?_)
                refine sm_iload_n (i := 1) (j := 2) (pc' := 171) d_M_readRest_170 rfl rfl rfl (sm_iconst (pc' := 172) d_M_readRest_171 rfl ic_2 (sm_iadd (pc' := 173) d_M_readRest_172 rfl (sm_aload_n (i := 0) (j := 1) (pc' := 174) d_M_readRest_173 rfl rfl rfl (sm_iconst (pc' := 175) d_M_readRest_174 rfl ic_1 (sm_bipush (pc' := 177) d_M_readRest_175 rfl ib_99 ?_)))))
                refine sm_callVi (ci := 11) (x := x0) (av := [.inl 1, .inl 99]) (st := [.inl (x1 + 2), .inr (.inr v5)]) (mc := 0) (ms := 0) (pc' := 180) d_M_readRest_177 rfl (sd_M_count x0 1 99) m_lv rfl cv_M_count w_ml_M_238 rfl rfl (by decide) (Nat.le_of_ble_eq_true rfl) rfl rfl (fun v6 => ?_)
                refine sm_iast (pc' := 181) d_M_readRest_180 rfl ?_
                exact sm_return d_M_readRest_181 rfl rfl
          · refine sm_aload_n (i := 0) (j := 1) (pc' := 96) d_M_readRest_95 rfl rfl rfl ?_
            refine sm_getR (pc' := 99) d_M_readRest_96 rfl fl_M_35 rfl rfl (fun v7 => ?_)
            refine sm_iload_n (i := 1) (j := 2) (pc' := 100) d_M_readRest_99 rfl rfl rfl (sm_iconst (pc' := 101) d_M_readRest_100 rfl ic_1 (sm_iadd (pc' := 102) d_M_readRest_101 rfl (sm_aload_n (i := 0) (j := 1) (pc' := 103) d_M_readRest_102 rfl rfl rfl (sm_iconst (pc' := 104) d_M_readRest_103 rfl ic_0 (sm_iconst (pc' := 105) d_M_readRest_104 rfl ic_0 ?_)))))
            refine sm_callVi (ci := 11) (x := x0) (av := [.inl 0, .inl 0]) (st := [.inl (x1 + 1), .inr (.inr v7)]) (mc := 0) (ms := 0) (pc' := 108) d_M_readRest_105 rfl (sd_M_readTold x0 0 0) m_lv rfl cv_M_readTold w_ml_M_270 rfl rfl (by decide) (Nat.le_of_ble_eq_true rfl) rfl rfl (fun v8 => ?_)
            refine sm_iast (pc' := 109) d_M_readRest_108 rfl (sm_aload_n (i := 0) (j := 1) (pc' := 110) d_M_readRest_109 rfl rfl rfl ?_)
            refine sm_getR (pc' := 113) d_M_readRest_110 rfl fl_M_35 rfl rfl (fun v9 => ?_)
            refine sm_iload_n (i := 1) (j := 2) (pc' := 114) d_M_readRest_113 rfl rfl rfl (sm_iconst (pc' := 115) d_M_readRest_114 rfl ic_2 (sm_iadd (pc' := 116) d_M_readRest_115 rfl (sm_aload_n (i := 0) (j := 1) (pc' := 117) d_M_readRest_116 rfl rfl rfl (sm_iconst (pc' := 118) d_M_readRest_117 rfl ic_0 (sm_iconst (pc' := 119) d_M_readRest_118 rfl ic_1 ?_)))))
            refine sm_callVi (ci := 11) (x := x0) (av := [.inl 0, .inl 1]) (st := [.inl (x1 + 2), .inr (.inr v9)]) (mc := 0) (ms := 0) (pc' := 122) d_M_readRest_119 rfl (sd_M_readTold x0 0 1) m_lv rfl cv_M_readTold w_ml_M_270 rfl rfl (by decide) (Nat.le_of_ble_eq_true rfl) rfl rfl (fun v10 => ?_)
            refine sm_iast (pc' := 123) d_M_readRest_122 rfl (sm_aload_n (i := 0) (j := 1) (pc' := 124) d_M_readRest_123 rfl rfl rfl ?_)
            refine sm_getR (pc' := 127) d_M_readRest_124 rfl fl_M_35 rfl rfl (fun v11 => ?_)
            refine sm_iload_n (i := 1) (j := 2) (pc' := 128) d_M_readRest_127 rfl rfl rfl (sm_iconst (pc' := 129) d_M_readRest_128 rfl ic_3 (sm_iadd (pc' := 130) d_M_readRest_129 rfl (sm_aload_n (i := 0) (j := 1) (pc' := 131) d_M_readRest_130 rfl rfl rfl (sm_iconst (pc' := 132) d_M_readRest_131 rfl ic_0 (sm_bipush (pc' := 134) d_M_readRest_132 rfl ib_9 ?_)))))
            refine sm_callVi (ci := 11) (x := x0) (av := [.inl 0, .inl 9]) (st := [.inl (x1 + 3), .inr (.inr v11)]) (mc := 0) (ms := 0) (pc' := 137) d_M_readRest_134 rfl (sd_M_count x0 0 9) m_lv rfl cv_M_count w_ml_M_238 rfl rfl (by decide) (Nat.le_of_ble_eq_true rfl) rfl rfl (fun v12 => ?_)
            refine sm_iast (pc' := 138) d_M_readRest_137 rfl (sm_goto (tgt := 181) d_M_readRest_138 rfl ?_)
            exact sm_return d_M_readRest_181 rfl rfl
        · refine sm_aload_n (i := 0) (j := 1) (pc' := 83) d_M_readRest_82 rfl rfl rfl (sm_iload_n (i := 1) (j := 2) (pc' := 84) d_M_readRest_83 rfl rfl rfl ?_)
          refine sm_callVv (ci := 11) (x := x0) (av := [.inl x1]) (st := []) (mc := 0) (ms := 0) (pc' := 87) d_M_readRest_84 rfl (sd_M_readTest x0 x1) m_lv rfl cv_M_readTest w_ml_M_301 rfl rfl (by decide) (Nat.le_of_ble_eq_true rfl) rfl rfl ?_
          refine sm_goto (tgt := 181) d_M_readRest_87 rfl ?_
          exact sm_return d_M_readRest_181 rfl rfl
      · refine sm_aload_n (i := 0) (j := 1) (pc' := 59) d_M_readRest_58 rfl rfl rfl ?_
        refine sm_getR (pc' := 62) d_M_readRest_59 rfl fl_M_35 rfl rfl (fun v13 => ?_)
        refine sm_iload_n (i := 1) (j := 2) (pc' := 63) d_M_readRest_62 rfl rfl rfl (sm_iconst (pc' := 64) d_M_readRest_63 rfl ic_1 (sm_iadd (pc' := 65) d_M_readRest_64 rfl (sm_aload_n (i := 0) (j := 1) (pc' := 66) d_M_readRest_65 rfl rfl rfl (sm_iconst (pc' := 67) d_M_readRest_66 rfl ic_1 (sm_bipush (pc' := 69) d_M_readRest_67 rfl ib_99 ?_)))))
        refine sm_callVi (ci := 11) (x := x0) (av := [.inl 1, .inl 99]) (st := [.inl (x1 + 1), .inr (.inr v13)]) (mc := 0) (ms := 0) (pc' := 72) d_M_readRest_69 rfl (sd_M_count x0 1 99) m_lv rfl cv_M_count w_ml_M_238 rfl rfl (by decide) (Nat.le_of_ble_eq_true rfl) rfl rfl (fun v14 => ?_)
        refine sm_iast (pc' := 73) d_M_readRest_72 rfl (sm_goto (tgt := 181) d_M_readRest_73 rfl ?_)
        exact sm_return d_M_readRest_181 rfl rfl
    · refine sm_aload_n (i := 0) (j := 1) (pc' := 35) d_M_readRest_34 rfl rfl rfl ?_
      refine sm_getR (pc' := 38) d_M_readRest_35 rfl fl_M_35 rfl rfl (fun v15 => ?_)
      refine sm_iload_n (i := 1) (j := 2) (pc' := 39) d_M_readRest_38 rfl rfl rfl (sm_iconst (pc' := 40) d_M_readRest_39 rfl ic_1 (sm_iadd (pc' := 41) d_M_readRest_40 rfl (sm_aload_n (i := 0) (j := 1) (pc' := 42) d_M_readRest_41 rfl rfl rfl (sm_iconst (pc' := 43) d_M_readRest_42 rfl ic_0 (sm_bipush (pc' := 45) d_M_readRest_43 rfl ib_9 ?_)))))
      refine sm_callVi (ci := 11) (x := x0) (av := [.inl 0, .inl 9]) (st := [.inl (x1 + 1), .inr (.inr v15)]) (mc := 0) (ms := 0) (pc' := 48) d_M_readRest_45 rfl (sd_M_count x0 0 9) m_lv rfl cv_M_count w_ml_M_238 rfl rfl (by decide) (Nat.le_of_ble_eq_true rfl) rfl rfl (fun v16 => ?_)
      refine sm_iast (pc' := 49) d_M_readRest_48 rfl (sm_goto (tgt := 181) d_M_readRest_49 rfl ?_)
      exact sm_return d_M_readRest_181 rfl rfl
  · refine sm_aload_n (i := 0) (j := 1) (pc' := 12) d_M_readRest_11 rfl rfl rfl ?_
    refine sm_getR (pc' := 15) d_M_readRest_12 rfl fl_M_35 rfl rfl (fun v17 => ?_)
    refine sm_iload_n (i := 1) (j := 2) (pc' := 16) d_M_readRest_15 rfl rfl rfl (sm_iconst (pc' := 17) d_M_readRest_16 rfl ic_1 (sm_iadd (pc' := 18) d_M_readRest_17 rfl (sm_aload_n (i := 0) (j := 1) (pc' := 19) d_M_readRest_18 rfl rfl rfl (sm_iconst (pc' := 20) d_M_readRest_19 rfl ic_1 (sm_bipush (pc' := 22) d_M_readRest_20 rfl ib_20 ?_)))))
    refine sm_callVi (ci := 11) (x := x0) (av := [.inl 1, .inl 20]) (st := [.inl (x1 + 1), .inr (.inr v17)]) (mc := 0) (ms := 0) (pc' := 25) d_M_readRest_22 rfl (sd_M_count x0 1 20) m_lv rfl cv_M_count w_ml_M_238 rfl rfl (by decide) (Nat.le_of_ble_eq_true rfl) rfl rfl (fun v18 => ?_)
    refine sm_iast (pc' := 26) d_M_readRest_25 rfl (sm_goto (tgt := 181) d_M_readRest_26 rfl ?_)
    exact sm_return d_M_readRest_181 rfl rfl
theorem d_M_readStep_0 : m_D k_M_readStep 0 (.aload_n 0) 1 := (by decide +kernel : decode prog_14_method_68_code 0 = .ok (.aload_n 0, 1))
theorem d_M_readStep_1 : m_D k_M_readStep 1 (.invokevirtual 205) 3 := (by decide +kernel : decode prog_14_method_68_code 1 = .ok (.invokevirtual 205, 3))
theorem d_M_readStep_4 : m_D k_M_readStep 4 (.istore_n 2) 1 := (by decide +kernel : decode prog_14_method_68_code 4 = .ok (.istore_n 2, 1))
theorem d_M_readStep_5 : m_D k_M_readStep 5 (.iload_n 2) 1 := (by decide +kernel : decode prog_14_method_68_code 5 = .ok (.iload_n 2, 1))
theorem d_M_readStep_6 : m_D k_M_readStep 6 (.bipush 7) 2 := (by decide +kernel : decode prog_14_method_68_code 6 = .ok (.bipush 7, 2))
theorem d_M_readStep_8 : m_D k_M_readStep 8 (.if_icmp .eq 9) 3 := (by decide +kernel : decode prog_14_method_68_code 8 = .ok (.if_icmp .eq 9, 3))
theorem d_M_readStep_11 : m_D k_M_readStep 11 (.iload_n 2) 1 := (by decide +kernel : decode prog_14_method_68_code 11 = .ok (.iload_n 2, 1))
theorem d_M_readStep_12 : m_D k_M_readStep 12 (.bipush 8) 2 := (by decide +kernel : decode prog_14_method_68_code 12 = .ok (.bipush 8, 2))
theorem d_M_readStep_14 : m_D k_M_readStep 14 (.if_icmp .ne 7) 3 := (by decide +kernel : decode prog_14_method_68_code 14 = .ok (.if_icmp .ne 7, 3))
theorem d_M_readStep_17 : m_D k_M_readStep 17 (.iconst 1) 1 := (by decide +kernel : decode prog_14_method_68_code 17 = .ok (.iconst 1, 1))
theorem d_M_readStep_18 : m_D k_M_readStep 18 (.goto 4) 3 := (by decide +kernel : decode prog_14_method_68_code 18 = .ok (.goto 4, 3))
theorem d_M_readStep_21 : m_D k_M_readStep 21 (.iconst 0) 1 := (by decide +kernel : decode prog_14_method_68_code 21 = .ok (.iconst 0, 1))
theorem d_M_readStep_22 : m_D k_M_readStep 22 (.istore_n 3) 1 := (by decide +kernel : decode prog_14_method_68_code 22 = .ok (.istore_n 3, 1))
theorem d_M_readStep_23 : m_D k_M_readStep 23 (.iload_n 2) 1 := (by decide +kernel : decode prog_14_method_68_code 23 = .ok (.iload_n 2, 1))
theorem d_M_readStep_24 : m_D k_M_readStep 24 (.ifCond .ge 7) 3 := (by decide +kernel : decode prog_14_method_68_code 24 = .ok (.ifCond .ge 7, 3))
theorem d_M_readStep_27 : m_D k_M_readStep 27 (.aload_n 0) 1 := (by decide +kernel : decode prog_14_method_68_code 27 = .ok (.aload_n 0, 1))
theorem d_M_readStep_28 : m_D k_M_readStep 28 (.invokevirtual 231) 3 := (by decide +kernel : decode prog_14_method_68_code 28 = .ok (.invokevirtual 231, 3))
theorem d_M_readStep_31 : m_D k_M_readStep 31 (.aload_n 0) 1 := (by decide +kernel : decode prog_14_method_68_code 31 = .ok (.aload_n 0, 1))
theorem d_M_readStep_32 : m_D k_M_readStep 32 (.getfield 218) 3 := (by decide +kernel : decode prog_14_method_68_code 32 = .ok (.getfield 218, 3))
theorem d_M_readStep_35 : m_D k_M_readStep 35 (.ifCond .ne 22) 3 := (by decide +kernel : decode prog_14_method_68_code 35 = .ok (.ifCond .ne 22, 3))
theorem d_M_readStep_38 : m_D k_M_readStep 38 (.aload_n 0) 1 := (by decide +kernel : decode prog_14_method_68_code 38 = .ok (.aload_n 0, 1))
theorem d_M_readStep_39 : m_D k_M_readStep 39 (.getfield 304) 3 := (by decide +kernel : decode prog_14_method_68_code 39 = .ok (.getfield 304, 3))
theorem d_M_readStep_42 : m_D k_M_readStep 42 (.bipush 30) 2 := (by decide +kernel : decode prog_14_method_68_code 42 = .ok (.bipush 30, 2))
theorem d_M_readStep_44 : m_D k_M_readStep 44 (.if_icmp .ne 13) 3 := (by decide +kernel : decode prog_14_method_68_code 44 = .ok (.if_icmp .ne 13, 3))
theorem d_M_readStep_47 : m_D k_M_readStep 47 (.aload_n 0) 1 := (by decide +kernel : decode prog_14_method_68_code 47 = .ok (.aload_n 0, 1))
theorem d_M_readStep_48 : m_D k_M_readStep 48 (.bipush 6) 2 := (by decide +kernel : decode prog_14_method_68_code 48 = .ok (.bipush 6, 2))
theorem d_M_readStep_50 : m_D k_M_readStep 50 (.aload_n 0) 1 := (by decide +kernel : decode prog_14_method_68_code 50 = .ok (.aload_n 0, 1))
theorem d_M_readStep_51 : m_D k_M_readStep 51 (.getfield 130) 3 := (by decide +kernel : decode prog_14_method_68_code 51 = .ok (.getfield 130, 3))
theorem d_M_readStep_54 : m_D k_M_readStep 54 (.invokevirtual 224) 3 := (by decide +kernel : decode prog_14_method_68_code 54 = .ok (.invokevirtual 224, 3))
theorem d_M_readStep_57 : m_D k_M_readStep 57 (.aload_n 0) 1 := (by decide +kernel : decode prog_14_method_68_code 57 = .ok (.aload_n 0, 1))
theorem d_M_readStep_58 : m_D k_M_readStep 58 (.getfield 218) 3 := (by decide +kernel : decode prog_14_method_68_code 58 = .ok (.getfield 218, 3))
theorem d_M_readStep_61 : m_D k_M_readStep 61 (.ifCond .ne 22) 3 := (by decide +kernel : decode prog_14_method_68_code 61 = .ok (.ifCond .ne 22, 3))
theorem d_M_readStep_64 : m_D k_M_readStep 64 (.iload_n 3) 1 := (by decide +kernel : decode prog_14_method_68_code 64 = .ok (.iload_n 3, 1))
theorem d_M_readStep_65 : m_D k_M_readStep 65 (.ifCond .eq 18) 3 := (by decide +kernel : decode prog_14_method_68_code 65 = .ok (.ifCond .eq 18, 3))
theorem d_M_readStep_68 : m_D k_M_readStep 68 (.iload_n 1) 1 := (by decide +kernel : decode prog_14_method_68_code 68 = .ok (.iload_n 1, 1))
theorem d_M_readStep_69 : m_D k_M_readStep 69 (.iconst 3) 1 := (by decide +kernel : decode prog_14_method_68_code 69 = .ok (.iconst 3, 1))
theorem d_M_readStep_70 : m_D k_M_readStep 70 (.if_icmp .ne 13) 3 := (by decide +kernel : decode prog_14_method_68_code 70 = .ok (.if_icmp .ne 13, 3))
theorem d_M_readStep_73 : m_D k_M_readStep 73 (.aload_n 0) 1 := (by decide +kernel : decode prog_14_method_68_code 73 = .ok (.aload_n 0, 1))
theorem d_M_readStep_74 : m_D k_M_readStep 74 (.bipush 7) 2 := (by decide +kernel : decode prog_14_method_68_code 74 = .ok (.bipush 7, 2))
theorem d_M_readStep_76 : m_D k_M_readStep 76 (.aload_n 0) 1 := (by decide +kernel : decode prog_14_method_68_code 76 = .ok (.aload_n 0, 1))
theorem d_M_readStep_77 : m_D k_M_readStep 77 (.getfield 130) 3 := (by decide +kernel : decode prog_14_method_68_code 77 = .ok (.getfield 130, 3))
theorem d_M_readStep_80 : m_D k_M_readStep 80 (.invokevirtual 224) 3 := (by decide +kernel : decode prog_14_method_68_code 80 = .ok (.invokevirtual 224, 3))
theorem d_M_readStep_83 : m_D k_M_readStep 83 (.aload_n 0) 1 := (by decide +kernel : decode prog_14_method_68_code 83 = .ok (.aload_n 0, 1))
theorem d_M_readStep_84 : m_D k_M_readStep 84 (.getfield 218) 3 := (by decide +kernel : decode prog_14_method_68_code 84 = .ok (.getfield 218, 3))
theorem d_M_readStep_87 : m_D k_M_readStep 87 (.ifCond .le 4) 3 := (by decide +kernel : decode prog_14_method_68_code 87 = .ok (.ifCond .le 4, 3))
theorem d_M_readStep_90 : m_D k_M_readStep 90 (.return_) 1 := (by decide +kernel : decode prog_14_method_68_code 90 = .ok (.return_, 1))
theorem d_M_readStep_91 : m_D k_M_readStep 91 (.sipush 1615) 3 := (by decide +kernel : decode prog_14_method_68_code 91 = .ok (.sipush 1615, 3))
theorem d_M_readStep_94 : m_D k_M_readStep 94 (.bipush 9) 2 := (by decide +kernel : decode prog_14_method_68_code 94 = .ok (.bipush 9, 2))
theorem d_M_readStep_96 : m_D k_M_readStep 96 (.aload_n 0) 1 := (by decide +kernel : decode prog_14_method_68_code 96 = .ok (.aload_n 0, 1))
theorem d_M_readStep_97 : m_D k_M_readStep 97 (.getfield 304) 3 := (by decide +kernel : decode prog_14_method_68_code 97 = .ok (.getfield 304, 3))
theorem d_M_readStep_100 : m_D k_M_readStep 100 (.imul) 1 := (by decide +kernel : decode prog_14_method_68_code 100 = .ok (.imul, 1))
theorem d_M_readStep_101 : m_D k_M_readStep 101 (.iadd) 1 := (by decide +kernel : decode prog_14_method_68_code 101 = .ok (.iadd, 1))
theorem d_M_readStep_102 : m_D k_M_readStep 102 (.istore 4) 2 := (by decide +kernel : decode prog_14_method_68_code 102 = .ok (.istore 4, 2))
theorem d_M_readStep_104 : m_D k_M_readStep 104 (.aload_n 0) 1 := (by decide +kernel : decode prog_14_method_68_code 104 = .ok (.aload_n 0, 1))
theorem d_M_readStep_105 : m_D k_M_readStep 105 (.dup) 1 := (by decide +kernel : decode prog_14_method_68_code 105 = .ok (.dup, 1))
theorem d_M_readStep_106 : m_D k_M_readStep 106 (.getfield 304) 3 := (by decide +kernel : decode prog_14_method_68_code 106 = .ok (.getfield 304, 3))
theorem d_M_readStep_109 : m_D k_M_readStep 109 (.iconst 1) 1 := (by decide +kernel : decode prog_14_method_68_code 109 = .ok (.iconst 1, 1))
theorem d_M_readStep_110 : m_D k_M_readStep 110 (.iadd) 1 := (by decide +kernel : decode prog_14_method_68_code 110 = .ok (.iadd, 1))
theorem d_M_readStep_111 : m_D k_M_readStep 111 (.putfield 304) 3 := (by decide +kernel : decode prog_14_method_68_code 111 = .ok (.putfield 304, 3))
theorem d_M_readStep_114 : m_D k_M_readStep 114 (.aload_n 0) 1 := (by decide +kernel : decode prog_14_method_68_code 114 = .ok (.aload_n 0, 1))
theorem d_M_readStep_115 : m_D k_M_readStep 115 (.invokevirtual 228) 3 := (by decide +kernel : decode prog_14_method_68_code 115 = .ok (.invokevirtual 228, 3))
theorem d_M_readStep_118 : m_D k_M_readStep 118 (.aload_n 0) 1 := (by decide +kernel : decode prog_14_method_68_code 118 = .ok (.aload_n 0, 1))
theorem d_M_readStep_119 : m_D k_M_readStep 119 (.getfield 35) 3 := (by decide +kernel : decode prog_14_method_68_code 119 = .ok (.getfield 35, 3))
theorem d_M_readStep_122 : m_D k_M_readStep 122 (.iload 4) 2 := (by decide +kernel : decode prog_14_method_68_code 122 = .ok (.iload 4, 2))
theorem d_M_readStep_124 : m_D k_M_readStep 124 (.iload_n 2) 1 := (by decide +kernel : decode prog_14_method_68_code 124 = .ok (.iload_n 2, 1))
theorem d_M_readStep_125 : m_D k_M_readStep 125 (.iastore) 1 := (by decide +kernel : decode prog_14_method_68_code 125 = .ok (.iastore, 1))
theorem d_M_readStep_126 : m_D k_M_readStep 126 (.aload_n 0) 1 := (by decide +kernel : decode prog_14_method_68_code 126 = .ok (.aload_n 0, 1))
theorem d_M_readStep_127 : m_D k_M_readStep 127 (.iload 4) 2 := (by decide +kernel : decode prog_14_method_68_code 127 = .ok (.iload 4, 2))
theorem d_M_readStep_129 : m_D k_M_readStep 129 (.invokevirtual 307) 3 := (by decide +kernel : decode prog_14_method_68_code 129 = .ok (.invokevirtual 307, 3))
theorem d_M_readStep_132 : m_D k_M_readStep 132 (.aload_n 0) 1 := (by decide +kernel : decode prog_14_method_68_code 132 = .ok (.aload_n 0, 1))
theorem d_M_readStep_133 : m_D k_M_readStep 133 (.aload_n 0) 1 := (by decide +kernel : decode prog_14_method_68_code 133 = .ok (.aload_n 0, 1))
theorem d_M_readStep_134 : m_D k_M_readStep 134 (.bipush 59) 2 := (by decide +kernel : decode prog_14_method_68_code 134 = .ok (.bipush 59, 2))
theorem d_M_readStep_136 : m_D k_M_readStep 136 (.invokevirtual 292) 3 := (by decide +kernel : decode prog_14_method_68_code 136 = .ok (.invokevirtual 292, 3))
theorem d_M_readStep_139 : m_D k_M_readStep 139 (.invokevirtual 234) 3 := (by decide +kernel : decode prog_14_method_68_code 139 = .ok (.invokevirtual 234, 3))
theorem d_M_readStep_142 : m_D k_M_readStep 142 (.iload_n 3) 1 := (by decide +kernel : decode prog_14_method_68_code 142 = .ok (.iload_n 3, 1))
theorem d_M_readStep_143 : m_D k_M_readStep 143 (.ifCond .eq 27) 3 := (by decide +kernel : decode prog_14_method_68_code 143 = .ok (.ifCond .eq 27, 3))
theorem d_M_readStep_146 : m_D k_M_readStep 146 (.aload_n 0) 1 := (by decide +kernel : decode prog_14_method_68_code 146 = .ok (.aload_n 0, 1))
theorem d_M_readStep_147 : m_D k_M_readStep 147 (.getfield 218) 3 := (by decide +kernel : decode prog_14_method_68_code 147 = .ok (.getfield 218, 3))
theorem d_M_readStep_150 : m_D k_M_readStep 150 (.ifCond .ne 20) 3 := (by decide +kernel : decode prog_14_method_68_code 150 = .ok (.ifCond .ne 20, 3))
theorem d_M_readStep_153 : m_D k_M_readStep 153 (.aload_n 0) 1 := (by decide +kernel : decode prog_14_method_68_code 153 = .ok (.aload_n 0, 1))
theorem d_M_readStep_154 : m_D k_M_readStep 154 (.invokevirtual 212) 3 := (by decide +kernel : decode prog_14_method_68_code 154 = .ok (.invokevirtual 212, 3))
theorem d_M_readStep_157 : m_D k_M_readStep 157 (.ifCond .ne 13) 3 := (by decide +kernel : decode prog_14_method_68_code 157 = .ok (.ifCond .ne 13, 3))
theorem d_M_readStep_160 : m_D k_M_readStep 160 (.aload_n 0) 1 := (by decide +kernel : decode prog_14_method_68_code 160 = .ok (.aload_n 0, 1))
theorem d_M_readStep_161 : m_D k_M_readStep 161 (.iload_n 1) 1 := (by decide +kernel : decode prog_14_method_68_code 161 = .ok (.iload_n 1, 1))
theorem d_M_readStep_162 : m_D k_M_readStep 162 (.iconst 1) 1 := (by decide +kernel : decode prog_14_method_68_code 162 = .ok (.iconst 1, 1))
theorem d_M_readStep_163 : m_D k_M_readStep 163 (.iadd) 1 := (by decide +kernel : decode prog_14_method_68_code 163 = .ok (.iadd, 1))
theorem d_M_readStep_164 : m_D k_M_readStep 164 (.invokevirtual 310) 3 := (by decide +kernel : decode prog_14_method_68_code 164 = .ok (.invokevirtual 310, 3))
theorem d_M_readStep_167 : m_D k_M_readStep 167 (.goto (-25)) 3 := (by decide +kernel : decode prog_14_method_68_code 167 = .ok (.goto (-25), 3))
theorem d_M_readStep_170 : m_D k_M_readStep 170 (.iload_n 3) 1 := (by decide +kernel : decode prog_14_method_68_code 170 = .ok (.iload_n 3, 1))
theorem d_M_readStep_171 : m_D k_M_readStep 171 (.ifCond .eq 21) 3 := (by decide +kernel : decode prog_14_method_68_code 171 = .ok (.ifCond .eq 21, 3))
theorem d_M_readStep_174 : m_D k_M_readStep 174 (.aload_n 0) 1 := (by decide +kernel : decode prog_14_method_68_code 174 = .ok (.aload_n 0, 1))
theorem d_M_readStep_175 : m_D k_M_readStep 175 (.aload_n 0) 1 := (by decide +kernel : decode prog_14_method_68_code 175 = .ok (.aload_n 0, 1))
theorem d_M_readStep_176 : m_D k_M_readStep 176 (.invokevirtual 212) 3 := (by decide +kernel : decode prog_14_method_68_code 176 = .ok (.invokevirtual 212, 3))
theorem d_M_readStep_179 : m_D k_M_readStep 179 (.invokevirtual 234) 3 := (by decide +kernel : decode prog_14_method_68_code 179 = .ok (.invokevirtual 234, 3))
theorem d_M_readStep_182 : m_D k_M_readStep 182 (.aload_n 0) 1 := (by decide +kernel : decode prog_14_method_68_code 182 = .ok (.aload_n 0, 1))
theorem d_M_readStep_183 : m_D k_M_readStep 183 (.aload_n 0) 1 := (by decide +kernel : decode prog_14_method_68_code 183 = .ok (.aload_n 0, 1))
theorem d_M_readStep_184 : m_D k_M_readStep 184 (.bipush 59) 2 := (by decide +kernel : decode prog_14_method_68_code 184 = .ok (.bipush 59, 2))
theorem d_M_readStep_186 : m_D k_M_readStep 186 (.invokevirtual 292) 3 := (by decide +kernel : decode prog_14_method_68_code 186 = .ok (.invokevirtual 292, 3))
theorem d_M_readStep_189 : m_D k_M_readStep 189 (.invokevirtual 234) 3 := (by decide +kernel : decode prog_14_method_68_code 189 = .ok (.invokevirtual 234, 3))
theorem d_M_readStep_192 : m_D k_M_readStep 192 (.aload_n 0) 1 := (by decide +kernel : decode prog_14_method_68_code 192 = .ok (.aload_n 0, 1))
theorem d_M_readStep_193 : m_D k_M_readStep 193 (.getfield 35) 3 := (by decide +kernel : decode prog_14_method_68_code 193 = .ok (.getfield 35, 3))
theorem d_M_readStep_196 : m_D k_M_readStep 196 (.iload 4) 2 := (by decide +kernel : decode prog_14_method_68_code 196 = .ok (.iload 4, 2))
theorem d_M_readStep_198 : m_D k_M_readStep 198 (.bipush 8) 2 := (by decide +kernel : decode prog_14_method_68_code 198 = .ok (.bipush 8, 2))
theorem d_M_readStep_200 : m_D k_M_readStep 200 (.iadd) 1 := (by decide +kernel : decode prog_14_method_68_code 200 = .ok (.iadd, 1))
theorem d_M_readStep_201 : m_D k_M_readStep 201 (.aload_n 0) 1 := (by decide +kernel : decode prog_14_method_68_code 201 = .ok (.aload_n 0, 1))
theorem d_M_readStep_202 : m_D k_M_readStep 202 (.getfield 304) 3 := (by decide +kernel : decode prog_14_method_68_code 202 = .ok (.getfield 304, 3))
theorem d_M_readStep_205 : m_D k_M_readStep 205 (.iastore) 1 := (by decide +kernel : decode prog_14_method_68_code 205 = .ok (.iastore, 1))
theorem d_M_readStep_206 : m_D k_M_readStep 206 (.return_) 1 := (by decide +kernel : decode prog_14_method_68_code 206 = .ok (.return_, 1))
def fn_M_readStep_l142 (r : Option mA → Int32 → mP Unit) (x0 : Option mA) (x1 : Int32) (t2 : Int32) (t16 : Unit) : mP ((Unit) ⊕ (Unit)) :=
  if t2 = 0 then
    m_rt (.inr ())
  else
    m_bd (m_gI 11 12 x0) fun v17 =>
    if v17 = 0 then
      m_bd (fn_M_isEnd x0) fun v18 =>
      if v18 = 0 then
        m_bd (r x0 (x1 + 1)) fun _ =>
        m_rt (.inl ())
      else
        m_rt (.inr ())
    else
      m_rt (.inr ())
def fn_M_readStep_r (r : Option mA → Int32 → mP Unit) (x0 : Option mA) (x1 : Int32) : mP Unit :=
  m_th 11 x0 <|
  m_bd (fn_M_stepWord x0) fun v1 =>
  m_bd (α := Int32) (
    if v1 = 7 then
      m_rt 1
    else
      if v1 = 8 then
        m_rt 1
      else
        m_rt 0
    ) fun (t2 : Int32) =>
  m_bd (α := Unit) (
    if 0 ≤ v1 then
      m_rt ()
    else
      m_bd (fn_M_amiss x0) fun _ =>
      m_rt ()
    ) fun (t3 : Unit) =>
  m_bd (m_gI 11 12 x0) fun v4 =>
  m_bd (α := Unit) (
    if v4 = 0 then
      m_bd (m_gI 11 26 x0) fun v5 =>
      if v5 = 30 then
        m_bd (m_gI 11 15 x0) fun v6 =>
        m_bd (fn_M_fail x0 6 v6) fun _ =>
        m_rt ()
      else
        m_rt ()
    else
      m_rt ()
    ) fun (t7 : Unit) =>
  m_bd (m_gI 11 12 x0) fun v8 =>
  m_bd (α := Unit) (
    if v8 = 0 then
      if t2 = 0 then
        m_rt ()
      else
        if x1 = 3 then
          m_bd (m_gI 11 15 x0) fun v9 =>
          m_bd (fn_M_fail x0 7 v9) fun _ =>
          m_rt ()
        else
          m_rt ()
    else
      m_rt ()
    ) fun (t10 : Unit) =>
  m_bd (m_gI 11 12 x0) fun v11 =>
  if v11 ≤ 0 then
    m_bd (m_gI 11 26 x0) fun v12 =>
    m_bd (m_gI 11 26 x0) fun v13 =>
    m_bd (m_pI 11 26 x0 (v13 + 1)) fun _ =>
    m_bd (fn_M_advance x0) fun _ =>
    m_bd (m_gR 11 20 x0) fun v14 =>
    m_bd (m_tI 0 v14 (1615 + (9 * v12)) v1) fun _ =>
    m_bd (fn_M_readRest x0 (1615 + (9 * v12))) fun _ =>
    m_bd (fn_M_isSign x0 59) fun v15 =>
    m_bd (fn_M_must x0 v15) fun _ =>
    m_bd (m_lp (fn_M_readStep_l142 r x0 x1 t2) m_F ()) fun (t19 : Unit) =>
    m_bd (α := Unit) (
      if t2 = 0 then
        m_rt ()
      else
        m_bd (fn_M_isEnd x0) fun v20 =>
        m_bd (fn_M_must x0 v20) fun _ =>
        m_bd (fn_M_isSign x0 59) fun v21 =>
        m_bd (fn_M_must x0 v21) fun _ =>
        m_rt ()
      ) fun (t22 : Unit) =>
    m_bd (m_gR 11 20 x0) fun v23 =>
    m_bd (m_gI 11 26 x0) fun v24 =>
    m_bd (m_tI 0 v23 ((1615 + (9 * v12)) + 8) v24) fun _ =>
    m_rt ()
  else
    m_rt ()
set_option maxHeartbeats 4000000 in
set_option maxRecDepth 100000 in
theorem sd_M_readStep_r (r : Option mA → Int32 → mP Unit) (dr : Nat) (hr : ∀ (y0 : Option mA) (y1 : Int32), m_Sm k_M_readStep dr 0 0 [.inr (.inr y0), .inl y1] (r y0 y1) (fun _ => none)) (hv : ∀ (y0 : Option mA) (y1 : Int32), m_Lv 11 y0 (r y0 y1)) (x0 : Option mA) (x1 : Int32) : m_Sm k_M_readStep ((max 9 (dr + 1))) 0 0 [.inr (.inr x0), .inl x1] (fn_M_readStep_r r x0 x1) (fun _ => none) := by
  refine ⟨Nat.le_of_ble_eq_true rfl, ?_⟩
  refine sm_th ?_
  refine sm_aload_n (i := 0) (j := 0) (pc' := 1) d_M_readStep_0 rfl rfl rfl ?_
  refine sm_callVi (ci := 11) (x := x0) (av := []) (st := []) (mc := 0) (ms := 0) (pc' := 4) d_M_readStep_1 rfl (sd_M_stepWord x0) m_lv rfl cv_M_stepWord w_ml_M_205 rfl rfl (by omega) (Nat.le_of_ble_eq_true rfl) rfl rfl (fun v1 => ?_)
  refine sm_istore_n (i := 2) (L' := [(2, .inl v1), (0, .inr (.inr x0)), (1, .inl x1)]) (pc' := 5) d_M_readStep_4 rfl rfl (Nat.le_of_ble_eq_true rfl) rfl (sm_iload_n (i := 2) (j := 0) (pc' := 6) d_M_readStep_5 rfl rfl rfl (sm_bipush (pc' := 8) d_M_readStep_6 rfl ib_7 ?_))
  refine sm_bd (mid := fun (t2 : Int32) => .inl (22, [(0, .inr (.inr x0)), (1, .inl x1), (2, .inl v1)], [.inl t2])) ?_ (fun t2 => ?_)
  · refine sm_icmp_eq (tgt := 17) (pc' := 11) d_M_readStep_8 rfl rfl ?_ ?_
    · refine sm_iconst (pc' := 18) d_M_readStep_17 rfl ic_1 (sm_goto (tgt := 22) d_M_readStep_18 rfl (sm_sub [1, 2, 0] rfl ?_))
      exact sm_rt rfl
    · refine sm_iload_n (i := 2) (j := 0) (pc' := 12) d_M_readStep_11 rfl rfl rfl (sm_bipush (pc' := 14) d_M_readStep_12 rfl ib_8 ?_)
      refine sm_icmp_ne (tgt := 21) (pc' := 17) d_M_readStep_14 rfl rfl ?_ ?_
      · refine sm_iconst (pc' := 22) d_M_readStep_21 rfl ic_0 (sm_sub [1, 2, 0] rfl ?_)
        exact sm_rt rfl
      · refine sm_iconst (pc' := 18) d_M_readStep_17 rfl ic_1 (sm_goto (tgt := 22) d_M_readStep_18 rfl (sm_sub [1, 2, 0] rfl ?_))
        exact sm_rt rfl
  · refine sm_istore_n (i := 3) (L' := [(3, .inl t2), (0, .inr (.inr x0)), (1, .inl x1), (2, .inl v1)]) (pc' := 23) d_M_readStep_22 rfl rfl (Nat.le_of_ble_eq_true rfl) rfl (sm_iload_n (i := 2) (j := 3) (pc' := 24) d_M_readStep_23 rfl rfl rfl ?_)
    refine sm_bd (mid := fun (t3 : Unit) => .inl (31, [(0, .inr (.inr x0)), (1, .inl x1), (2, .inl v1), (3, .inl t2)], [])) ?_ (fun t3 => ?_)
    · refine sm_if_ge (tgt := 31) (pc' := 27) d_M_readStep_24 rfl rfl ?_ ?_
      · refine sm_sub [1, 2, 3, 0] rfl ?_
        exact sm_rt rfl
      · refine sm_aload_n (i := 0) (j := 1) (pc' := 28) d_M_readStep_27 rfl rfl rfl ?_
        refine sm_callVv (ci := 11) (x := x0) (av := []) (st := []) (mc := 0) (ms := 0) (pc' := 31) d_M_readStep_28 rfl (sd_M_amiss x0) m_lv rfl cv_M_amiss w_ml_M_231 rfl rfl (by omega) (Nat.le_of_ble_eq_true rfl) rfl rfl ?_
        refine sm_sub [1, 2, 3, 0] rfl ?_
        exact sm_rt rfl
    · refine sm_aload_n (i := 0) (j := 0) (pc' := 32) d_M_readStep_31 rfl rfl rfl ?_
      refine sm_getI (pc' := 35) d_M_readStep_32 rfl fl_M_218 rfl ⟨by decide, by decide⟩ (fun v4 => ?_)
      refine sm_bd (mid := fun (t7 : Unit) => .inl (57, [(0, .inr (.inr x0)), (1, .inl x1), (2, .inl v1), (3, .inl t2)], [])) ?_ (fun t7 => ?_)
      · refine sm_if_ne (tgt := 57) (pc' := 38) d_M_readStep_35 rfl rfl ?_ ?_
        · refine sm_sub [0, 1, 2, 3] rfl ?_
          exact sm_rt rfl
        · refine sm_aload_n (i := 0) (j := 0) (pc' := 39) d_M_readStep_38 rfl rfl rfl ?_
          refine sm_getI (pc' := 42) d_M_readStep_39 rfl fl_M_304 rfl ⟨by decide, by decide⟩ (fun v5 => ?_)
          refine sm_bipush (pc' := 44) d_M_readStep_42 rfl ib_30 ?_
          refine sm_icmp_ne (tgt := 57) (pc' := 47) d_M_readStep_44 rfl rfl ?_ ?_
          · refine sm_sub [0, 1, 2, 3] rfl ?_
            exact sm_rt rfl
          · refine sm_aload_n (i := 0) (j := 0) (pc' := 48) d_M_readStep_47 rfl rfl rfl (sm_bipush (pc' := 50) d_M_readStep_48 rfl ib_6 (sm_aload_n (i := 0) (j := 0) (pc' := 51) d_M_readStep_50 rfl rfl rfl ?_))
            refine sm_getI (pc' := 54) d_M_readStep_51 rfl fl_M_130 rfl ⟨by decide, by decide⟩ (fun v6 => ?_)
            refine sm_callVv (ci := 11) (x := x0) (av := [.inl 6, .inl v6]) (st := []) (mc := 0) (ms := 0) (pc' := 57) d_M_readStep_54 rfl (sd_M_fail x0 6 v6) m_lv rfl cv_M_fail w_ml_M_224 rfl rfl (by omega) (Nat.le_of_ble_eq_true rfl) rfl rfl ?_
            refine sm_sub [0, 1, 2, 3] rfl ?_
            exact sm_rt rfl
      · refine sm_aload_n (i := 0) (j := 0) (pc' := 58) d_M_readStep_57 rfl rfl rfl ?_
        refine sm_getI (pc' := 61) d_M_readStep_58 rfl fl_M_218 rfl ⟨by decide, by decide⟩ (fun v8 => ?_)
        refine sm_bd (mid := fun (t10 : Unit) => .inl (83, [(0, .inr (.inr x0)), (1, .inl x1), (2, .inl v1), (3, .inl t2)], [])) ?_ (fun t10 => ?_)
        · refine sm_if_ne (tgt := 83) (pc' := 64) d_M_readStep_61 rfl rfl ?_ ?_
          · refine sm_sub [0, 1, 2, 3] rfl ?_
            exact sm_rt rfl
          · refine sm_iload_n (i := 3) (j := 3) (pc' := 65) d_M_readStep_64 rfl rfl rfl ?_
            refine sm_if_eq (tgt := 83) (pc' := 68) d_M_readStep_65 rfl rfl ?_ ?_
            · refine sm_sub [0, 1, 2, 3] rfl ?_
              exact sm_rt rfl
            · refine sm_iload_n (i := 1) (j := 1) (pc' := 69) d_M_readStep_68 rfl rfl rfl (sm_iconst (pc' := 70) d_M_readStep_69 rfl ic_3 ?_)
              refine sm_icmp_ne (tgt := 83) (pc' := 73) d_M_readStep_70 rfl rfl ?_ ?_
              · refine sm_sub [0, 1, 2, 3] rfl ?_
                exact sm_rt rfl
              · refine sm_aload_n (i := 0) (j := 0) (pc' := 74) d_M_readStep_73 rfl rfl rfl (sm_bipush (pc' := 76) d_M_readStep_74 rfl ib_7 (sm_aload_n (i := 0) (j := 0) (pc' := 77) d_M_readStep_76 rfl rfl rfl ?_))
                refine sm_getI (pc' := 80) d_M_readStep_77 rfl fl_M_130 rfl ⟨by decide, by decide⟩ (fun v9 => ?_)
                refine sm_callVv (ci := 11) (x := x0) (av := [.inl 7, .inl v9]) (st := []) (mc := 0) (ms := 0) (pc' := 83) d_M_readStep_80 rfl (sd_M_fail x0 7 v9) m_lv rfl cv_M_fail w_ml_M_224 rfl rfl (by omega) (Nat.le_of_ble_eq_true rfl) rfl rfl ?_
                refine sm_sub [0, 1, 2, 3] rfl ?_
                exact sm_rt rfl
        · refine sm_aload_n (i := 0) (j := 0) (pc' := 84) d_M_readStep_83 rfl rfl rfl ?_
          refine sm_getI (pc' := 87) d_M_readStep_84 rfl fl_M_218 rfl ⟨by decide, by decide⟩ (fun v11 => ?_)
          refine sm_if_le (tgt := 91) (pc' := 90) d_M_readStep_87 rfl rfl ?_ ?_
          · refine sm_sipush (pc' := 94) d_M_readStep_91 rfl is_1615 (sm_bipush (pc' := 96) d_M_readStep_94 rfl ib_9 (sm_aload_n (i := 0) (j := 0) (pc' := 97) d_M_readStep_96 rfl rfl rfl ?_))
            refine sm_getI (pc' := 100) d_M_readStep_97 rfl fl_M_304 rfl ⟨by decide, by decide⟩ (fun v12 => ?_)
            refine sm_imul (pc' := 101) d_M_readStep_100 rfl (sm_iadd (pc' := 102) d_M_readStep_101 rfl (sm_istore (L' := [(4, .inl (1615 + (9 * v12))), (0, .inr (.inr x0)), (1, .inl x1), (2, .inl v1), (3, .inl t2)]) (pc' := 104) d_M_readStep_102 rfl (Nat.le_of_ble_eq_true rfl) rfl (sm_aload_n (i := 0) (j := 1) (pc' := 105) d_M_readStep_104 rfl rfl rfl (sm_dup (pc' := 106) d_M_readStep_105 rfl rfl ?_))))
            refine sm_getI (pc' := 109) d_M_readStep_106 rfl fl_M_304 rfl ⟨by decide, by decide⟩ (fun v13 => ?_)
            refine sm_iconst (pc' := 110) d_M_readStep_109 rfl ic_1 (sm_iadd (pc' := 111) d_M_readStep_110 rfl (sm_putI (pc' := 114) d_M_readStep_111 rfl fl_M_304 (Or.inl rfl) rfl (sm_aload_n (i := 0) (j := 1) (pc' := 115) d_M_readStep_114 rfl rfl rfl ?_)))
            refine sm_callVv (ci := 11) (x := x0) (av := []) (st := []) (mc := 0) (ms := 0) (pc' := 118) d_M_readStep_115 rfl (sd_M_advance x0) m_lv rfl cv_M_advance w_ml_M_228 rfl rfl (by omega) (Nat.le_of_ble_eq_true rfl) rfl rfl ?_
            refine sm_aload_n (i := 0) (j := 1) (pc' := 119) d_M_readStep_118 rfl rfl rfl ?_
            refine sm_getR (pc' := 122) d_M_readStep_119 rfl fl_M_35 rfl rfl (fun v14 => ?_)
            refine sm_iload (j := 0) (pc' := 124) d_M_readStep_122 rfl rfl (sm_iload_n (i := 2) (j := 3) (pc' := 125) d_M_readStep_124 rfl rfl rfl (sm_iast (pc' := 126) d_M_readStep_125 rfl (sm_aload_n (i := 0) (j := 1) (pc' := 127) d_M_readStep_126 rfl rfl rfl (sm_iload (j := 0) (pc' := 129) d_M_readStep_127 rfl rfl ?_))))
            refine sm_callVv (ci := 11) (x := x0) (av := [.inl (1615 + (9 * v12))]) (st := []) (mc := 0) (ms := 0) (pc' := 132) d_M_readStep_129 rfl (sd_M_readRest x0 (1615 + (9 * v12))) m_lv rfl cv_M_readRest w_ml_M_307 rfl rfl (by omega) (Nat.le_of_ble_eq_true rfl) rfl rfl ?_
            refine sm_aload_n (i := 0) (j := 1) (pc' := 133) d_M_readStep_132 rfl rfl rfl (sm_aload_n (i := 0) (j := 1) (pc' := 134) d_M_readStep_133 rfl rfl rfl (sm_bipush (pc' := 136) d_M_readStep_134 rfl ib_59 ?_))
            refine sm_callVi (ci := 11) (x := x0) (av := [.inl 59]) (st := [.inr (.inr x0)]) (mc := 0) (ms := 0) (pc' := 139) d_M_readStep_136 rfl (sd_M_isSign x0 59) m_lv rfl cv_M_isSign w_ml_M_292 rfl rfl (by omega) (Nat.le_of_ble_eq_true rfl) rfl rfl (fun v15 => ?_)
            refine sm_callVv (ci := 11) (x := x0) (av := [.inl v15]) (st := []) (mc := 0) (ms := 0) (pc' := 142) d_M_readStep_139 rfl (sd_M_must x0 v15) m_lv rfl cv_M_must w_ml_M_234 rfl rfl (by omega) (Nat.le_of_ble_eq_true rfl) rfl rfl ?_
            refine sm_sub [1, 2, 4, 0] rfl ?_
            refine sm_bd (mid := fun (t19 : Unit) => .inl (170, [(0, .inr (.inr x0)), (3, .inl t2), (4, .inl (1615 + (9 * v12)))], [])) (sm_lp (hd := fun (t16 : Unit) => (.inl (142, [(0, .inr (.inr x0)), (1, .inl x1), (3, .inl t2), (4, .inl (1615 + (9 * v12)))], []) : mC)) (fun t16 => ?_) m_F ()) (fun t19 => ?_)
            · refine sm_iload_n (i := 3) (j := 2) (pc' := 143) d_M_readStep_142 rfl rfl rfl ?_
              refine sm_if_eq (tgt := 170) (pc' := 146) d_M_readStep_143 rfl rfl ?_ ?_
              · refine sm_sub [0, 2, 3] rfl ?_
                exact sm_rt rfl
              · refine sm_aload_n (i := 0) (j := 0) (pc' := 147) d_M_readStep_146 rfl rfl rfl ?_
                refine sm_getI (pc' := 150) d_M_readStep_147 rfl fl_M_218 rfl ⟨by decide, by decide⟩ (fun v17 => ?_)
                refine sm_if_ne (tgt := 170) (pc' := 153) d_M_readStep_150 rfl rfl ?_ ?_
                · refine sm_sub [0, 2, 3] rfl ?_
                  exact sm_rt rfl
                · refine sm_aload_n (i := 0) (j := 0) (pc' := 154) d_M_readStep_153 rfl rfl rfl ?_
                  refine sm_callVi (ci := 11) (x := x0) (av := []) (st := []) (mc := 0) (ms := 0) (pc' := 157) d_M_readStep_154 rfl (sd_M_isEnd x0) m_lv rfl cv_M_isEnd w_ml_M_212 rfl rfl (by omega) (Nat.le_of_ble_eq_true rfl) rfl rfl (fun v18 => ?_)
                  refine sm_if_ne (tgt := 170) (pc' := 160) d_M_readStep_157 rfl rfl ?_ ?_
                  · refine sm_sub [0, 2, 3] rfl ?_
                    exact sm_rt rfl
                  · refine sm_aload_n (i := 0) (j := 0) (pc' := 161) d_M_readStep_160 rfl rfl rfl (sm_iload_n (i := 1) (j := 1) (pc' := 162) d_M_readStep_161 rfl rfl rfl (sm_iconst (pc' := 163) d_M_readStep_162 rfl ic_1 (sm_iadd (pc' := 164) d_M_readStep_163 rfl ?_)))
                    refine sm_callVv (ci := 11) (x := x0) (av := [.inl (x1 + 1)]) (st := []) (mc := 0) (ms := 0) (pc' := 167) d_M_readStep_164 rfl (hr x0 (x1 + 1)) (hv x0 (x1 + 1)) rfl cv_M_readStep w_ml_M_310 rfl rfl (by omega) (Nat.le_of_ble_eq_true rfl) rfl rfl ?_
                    refine sm_goto (tgt := 142) d_M_readStep_167 rfl (sm_sub [0, 1, 2, 3] rfl ?_)
                    exact sm_rt rfl
            · refine sm_iload_n (i := 3) (j := 1) (pc' := 171) d_M_readStep_170 rfl rfl rfl ?_
              refine sm_bd (mid := fun (t22 : Unit) => .inl (192, [(0, .inr (.inr x0)), (4, .inl (1615 + (9 * v12)))], [])) ?_ (fun t22 => ?_)
              · refine sm_if_eq (tgt := 192) (pc' := 174) d_M_readStep_171 rfl rfl ?_ ?_
                · refine sm_sub [0, 2] rfl ?_
                  exact sm_rt rfl
                · refine sm_aload_n (i := 0) (j := 0) (pc' := 175) d_M_readStep_174 rfl rfl rfl (sm_aload_n (i := 0) (j := 0) (pc' := 176) d_M_readStep_175 rfl rfl rfl ?_)
                  refine sm_callVi (ci := 11) (x := x0) (av := []) (st := [.inr (.inr x0)]) (mc := 0) (ms := 0) (pc' := 179) d_M_readStep_176 rfl (sd_M_isEnd x0) m_lv rfl cv_M_isEnd w_ml_M_212 rfl rfl (by omega) (Nat.le_of_ble_eq_true rfl) rfl rfl (fun v20 => ?_)
                  refine sm_callVv (ci := 11) (x := x0) (av := [.inl v20]) (st := []) (mc := 0) (ms := 0) (pc' := 182) d_M_readStep_179 rfl (sd_M_must x0 v20) m_lv rfl cv_M_must w_ml_M_234 rfl rfl (by omega) (Nat.le_of_ble_eq_true rfl) rfl rfl ?_
                  refine sm_aload_n (i := 0) (j := 0) (pc' := 183) d_M_readStep_182 rfl rfl rfl (sm_aload_n (i := 0) (j := 0) (pc' := 184) d_M_readStep_183 rfl rfl rfl (sm_bipush (pc' := 186) d_M_readStep_184 rfl ib_59 ?_))
                  refine sm_callVi (ci := 11) (x := x0) (av := [.inl 59]) (st := [.inr (.inr x0)]) (mc := 0) (ms := 0) (pc' := 189) d_M_readStep_186 rfl (sd_M_isSign x0 59) m_lv rfl cv_M_isSign w_ml_M_292 rfl rfl (by omega) (Nat.le_of_ble_eq_true rfl) rfl rfl (fun v21 => ?_)
                  refine sm_callVv (ci := 11) (x := x0) (av := [.inl v21]) (st := []) (mc := 0) (ms := 0) (pc' := 192) d_M_readStep_189 rfl (sd_M_must x0 v21) m_lv rfl cv_M_must w_ml_M_234 rfl rfl (by omega) (Nat.le_of_ble_eq_true rfl) rfl rfl ?_
                  refine sm_sub [0, 2] rfl ?_
                  exact sm_rt rfl
              · refine sm_aload_n (i := 0) (j := 0) (pc' := 193) d_M_readStep_192 rfl rfl rfl ?_
                refine sm_getR (pc' := 196) d_M_readStep_193 rfl fl_M_35 rfl rfl (fun v23 => ?_)
                refine sm_iload (j := 1) (pc' := 198) d_M_readStep_196 rfl rfl (sm_bipush (pc' := 200) d_M_readStep_198 rfl ib_8 (sm_iadd (pc' := 201) d_M_readStep_200 rfl (sm_aload_n (i := 0) (j := 0) (pc' := 202) d_M_readStep_201 rfl rfl rfl ?_)))
                refine sm_getI (pc' := 205) d_M_readStep_202 rfl fl_M_304 rfl ⟨by decide, by decide⟩ (fun v24 => ?_)
                refine sm_iast (pc' := 206) d_M_readStep_205 rfl ?_
                exact sm_return d_M_readStep_206 rfl rfl
          · exact sm_return d_M_readStep_90 rfl rfl
def fn_M_readStep : Nat → Option mA → Int32 → mP Unit
  | 0, _, _ => m_fl
  | n + 1, x0, x1 => fn_M_readStep_r (fn_M_readStep n) x0 x1
theorem lv_M_readStep : ∀ (n : Nat) (x0 : Option mA) (x1 : Int32), m_Lv 11 x0 (fn_M_readStep n x0 x1)
  | 0, _, _ => m_lv0
  | n + 1, _, _ => m_lv
theorem sd_M_readStep : ∀ (n : Nat) (x0 : Option mA) (x1 : Int32), m_Sm k_M_readStep (9 + n * 1) 0 0 [.inr (.inr x0), .inl x1] (fn_M_readStep n x0 x1) (fun _ => none)
  | 0, x0, x1 => ⟨Nat.le_of_ble_eq_true rfl, sm_fl⟩
  | n + 1, x0, x1 => m_Sm_mono (by omega) (sd_M_readStep_r (fn_M_readStep n) (9 + n * 1) (sd_M_readStep n) (lv_M_readStep n) x0 x1)
theorem d_M_years_0 : m_D k_M_years 0 (.aload_n 0) 1 := (by decide +kernel : decode prog_14_method_69_code 0 = .ok (.aload_n 0, 1))
theorem d_M_years_1 : m_D k_M_years 1 (.iconst 0) 1 := (by decide +kernel : decode prog_14_method_69_code 1 = .ok (.iconst 0, 1))
theorem d_M_years_2 : m_D k_M_years 2 (.putfield 81) 3 := (by decide +kernel : decode prog_14_method_69_code 2 = .ok (.putfield 81, 3))
theorem d_M_years_5 : m_D k_M_years 5 (.aload_n 0) 1 := (by decide +kernel : decode prog_14_method_69_code 5 = .ok (.aload_n 0, 1))
theorem d_M_years_6 : m_D k_M_years 6 (.iconst 0) 1 := (by decide +kernel : decode prog_14_method_69_code 6 = .ok (.iconst 0, 1))
theorem d_M_years_7 : m_D k_M_years 7 (.putfield 84) 3 := (by decide +kernel : decode prog_14_method_69_code 7 = .ok (.putfield 84, 3))
theorem d_M_years_10 : m_D k_M_years 10 (.aload_n 0) 1 := (by decide +kernel : decode prog_14_method_69_code 10 = .ok (.aload_n 0, 1))
theorem d_M_years_11 : m_D k_M_years 11 (.iload_n 1) 1 := (by decide +kernel : decode prog_14_method_69_code 11 = .ok (.iload_n 1, 1))
theorem d_M_years_12 : m_D k_M_years 12 (.sipush 300) 3 := (by decide +kernel : decode prog_14_method_69_code 12 = .ok (.sipush 300, 3))
theorem d_M_years_15 : m_D k_M_years 15 (.invokevirtual 286) 3 := (by decide +kernel : decode prog_14_method_69_code 15 = .ok (.invokevirtual 286, 3))
theorem d_M_years_18 : m_D k_M_years 18 (.ifCond .ne 5) 3 := (by decide +kernel : decode prog_14_method_69_code 18 = .ok (.ifCond .ne 5, 3))
theorem d_M_years_21 : m_D k_M_years 21 (.iconst (-1)) 1 := (by decide +kernel : decode prog_14_method_69_code 21 = .ok (.iconst (-1), 1))
theorem d_M_years_22 : m_D k_M_years 22 (.ireturn) 1 := (by decide +kernel : decode prog_14_method_69_code 22 = .ok (.ireturn, 1))
theorem d_M_years_23 : m_D k_M_years 23 (.aload_n 0) 1 := (by decide +kernel : decode prog_14_method_69_code 23 = .ok (.aload_n 0, 1))
theorem d_M_years_24 : m_D k_M_years 24 (.iconst 0) 1 := (by decide +kernel : decode prog_14_method_69_code 24 = .ok (.iconst 0, 1))
theorem d_M_years_25 : m_D k_M_years 25 (.putfield 304) 3 := (by decide +kernel : decode prog_14_method_69_code 25 = .ok (.putfield 304, 3))
theorem d_M_years_28 : m_D k_M_years 28 (.aload_n 0) 1 := (by decide +kernel : decode prog_14_method_69_code 28 = .ok (.aload_n 0, 1))
theorem d_M_years_29 : m_D k_M_years 29 (.getfield 218) 3 := (by decide +kernel : decode prog_14_method_69_code 29 = .ok (.getfield 218, 3))
theorem d_M_years_32 : m_D k_M_years 32 (.ifCond .ne 18) 3 := (by decide +kernel : decode prog_14_method_69_code 32 = .ok (.ifCond .ne 18, 3))
theorem d_M_years_35 : m_D k_M_years 35 (.aload_n 0) 1 := (by decide +kernel : decode prog_14_method_69_code 35 = .ok (.aload_n 0, 1))
theorem d_M_years_36 : m_D k_M_years 36 (.getfield 136) 3 := (by decide +kernel : decode prog_14_method_69_code 36 = .ok (.getfield 136, 3))
theorem d_M_years_39 : m_D k_M_years 39 (.ifCond .eq 11) 3 := (by decide +kernel : decode prog_14_method_69_code 39 = .ok (.ifCond .eq 11, 3))
theorem d_M_years_42 : m_D k_M_years 42 (.aload_n 0) 1 := (by decide +kernel : decode prog_14_method_69_code 42 = .ok (.aload_n 0, 1))
theorem d_M_years_43 : m_D k_M_years 43 (.iconst 0) 1 := (by decide +kernel : decode prog_14_method_69_code 43 = .ok (.iconst 0, 1))
theorem d_M_years_44 : m_D k_M_years 44 (.invokevirtual 310) 3 := (by decide +kernel : decode prog_14_method_69_code 44 = .ok (.invokevirtual 310, 3))
theorem d_M_years_47 : m_D k_M_years 47 (.goto (-19)) 3 := (by decide +kernel : decode prog_14_method_69_code 47 = .ok (.goto (-19), 3))
theorem d_M_years_50 : m_D k_M_years 50 (.aload_n 0) 1 := (by decide +kernel : decode prog_14_method_69_code 50 = .ok (.aload_n 0, 1))
theorem d_M_years_51 : m_D k_M_years 51 (.invokevirtual 295) 3 := (by decide +kernel : decode prog_14_method_69_code 51 = .ok (.invokevirtual 295, 3))
theorem d_M_years_54 : m_D k_M_years 54 (.ifCond .ne 5) 3 := (by decide +kernel : decode prog_14_method_69_code 54 = .ok (.ifCond .ne 5, 3))
theorem d_M_years_57 : m_D k_M_years 57 (.iconst (-1)) 1 := (by decide +kernel : decode prog_14_method_69_code 57 = .ok (.iconst (-1), 1))
theorem d_M_years_58 : m_D k_M_years 58 (.ireturn) 1 := (by decide +kernel : decode prog_14_method_69_code 58 = .ok (.ireturn, 1))
theorem d_M_years_59 : m_D k_M_years 59 (.aload_n 0) 1 := (by decide +kernel : decode prog_14_method_69_code 59 = .ok (.aload_n 0, 1))
theorem d_M_years_60 : m_D k_M_years 60 (.getfield 35) 3 := (by decide +kernel : decode prog_14_method_69_code 60 = .ok (.getfield 35, 3))
theorem d_M_years_63 : m_D k_M_years 63 (.bipush 105) 2 := (by decide +kernel : decode prog_14_method_69_code 63 = .ok (.bipush 105, 2))
theorem d_M_years_65 : m_D k_M_years 65 (.iconst 1) 1 := (by decide +kernel : decode prog_14_method_69_code 65 = .ok (.iconst 1, 1))
theorem d_M_years_66 : m_D k_M_years 66 (.iastore) 1 := (by decide +kernel : decode prog_14_method_69_code 66 = .ok (.iastore, 1))
theorem d_M_years_67 : m_D k_M_years 67 (.aload_n 0) 1 := (by decide +kernel : decode prog_14_method_69_code 67 = .ok (.aload_n 0, 1))
theorem d_M_years_68 : m_D k_M_years 68 (.getfield 35) 3 := (by decide +kernel : decode prog_14_method_69_code 68 = .ok (.getfield 35, 3))
theorem d_M_years_71 : m_D k_M_years 71 (.bipush 106) 2 := (by decide +kernel : decode prog_14_method_69_code 71 = .ok (.bipush 106, 2))
theorem d_M_years_73 : m_D k_M_years 73 (.aload_n 0) 1 := (by decide +kernel : decode prog_14_method_69_code 73 = .ok (.aload_n 0, 1))
theorem d_M_years_74 : m_D k_M_years 74 (.getfield 304) 3 := (by decide +kernel : decode prog_14_method_69_code 74 = .ok (.getfield 304, 3))
theorem d_M_years_77 : m_D k_M_years 77 (.iastore) 1 := (by decide +kernel : decode prog_14_method_69_code 77 = .ok (.iastore, 1))
theorem d_M_years_78 : m_D k_M_years 78 (.iconst 0) 1 := (by decide +kernel : decode prog_14_method_69_code 78 = .ok (.iconst 0, 1))
theorem d_M_years_79 : m_D k_M_years 79 (.istore_n 2) 1 := (by decide +kernel : decode prog_14_method_69_code 79 = .ok (.istore_n 2, 1))
theorem d_M_years_80 : m_D k_M_years 80 (.iload_n 2) 1 := (by decide +kernel : decode prog_14_method_69_code 80 = .ok (.iload_n 2, 1))
theorem d_M_years_81 : m_D k_M_years 81 (.bipush 9) 2 := (by decide +kernel : decode prog_14_method_69_code 81 = .ok (.bipush 9, 2))
theorem d_M_years_83 : m_D k_M_years 83 (.aload_n 0) 1 := (by decide +kernel : decode prog_14_method_69_code 83 = .ok (.aload_n 0, 1))
theorem d_M_years_84 : m_D k_M_years 84 (.getfield 304) 3 := (by decide +kernel : decode prog_14_method_69_code 84 = .ok (.getfield 304, 3))
theorem d_M_years_87 : m_D k_M_years 87 (.imul) 1 := (by decide +kernel : decode prog_14_method_69_code 87 = .ok (.imul, 1))
theorem d_M_years_88 : m_D k_M_years 88 (.if_icmp .ge 28) 3 := (by decide +kernel : decode prog_14_method_69_code 88 = .ok (.if_icmp .ge 28, 3))
theorem d_M_years_91 : m_D k_M_years 91 (.aload_n 0) 1 := (by decide +kernel : decode prog_14_method_69_code 91 = .ok (.aload_n 0, 1))
theorem d_M_years_92 : m_D k_M_years 92 (.getfield 35) 3 := (by decide +kernel : decode prog_14_method_69_code 92 = .ok (.getfield 35, 3))
theorem d_M_years_95 : m_D k_M_years 95 (.bipush 107) 2 := (by decide +kernel : decode prog_14_method_69_code 95 = .ok (.bipush 107, 2))
theorem d_M_years_97 : m_D k_M_years 97 (.iload_n 2) 1 := (by decide +kernel : decode prog_14_method_69_code 97 = .ok (.iload_n 2, 1))
theorem d_M_years_98 : m_D k_M_years 98 (.iadd) 1 := (by decide +kernel : decode prog_14_method_69_code 98 = .ok (.iadd, 1))
theorem d_M_years_99 : m_D k_M_years 99 (.aload_n 0) 1 := (by decide +kernel : decode prog_14_method_69_code 99 = .ok (.aload_n 0, 1))
theorem d_M_years_100 : m_D k_M_years 100 (.getfield 35) 3 := (by decide +kernel : decode prog_14_method_69_code 100 = .ok (.getfield 35, 3))
theorem d_M_years_103 : m_D k_M_years 103 (.sipush 1615) 3 := (by decide +kernel : decode prog_14_method_69_code 103 = .ok (.sipush 1615, 3))
theorem d_M_years_106 : m_D k_M_years 106 (.iload_n 2) 1 := (by decide +kernel : decode prog_14_method_69_code 106 = .ok (.iload_n 2, 1))
theorem d_M_years_107 : m_D k_M_years 107 (.iadd) 1 := (by decide +kernel : decode prog_14_method_69_code 107 = .ok (.iadd, 1))
theorem d_M_years_108 : m_D k_M_years 108 (.iaload) 1 := (by decide +kernel : decode prog_14_method_69_code 108 = .ok (.iaload, 1))
theorem d_M_years_109 : m_D k_M_years 109 (.iastore) 1 := (by decide +kernel : decode prog_14_method_69_code 109 = .ok (.iastore, 1))
theorem d_M_years_110 : m_D k_M_years 110 (.iinc 2 1) 3 := (by decide +kernel : decode prog_14_method_69_code 110 = .ok (.iinc 2 1, 3))
theorem d_M_years_113 : m_D k_M_years 113 (.goto (-33)) 3 := (by decide +kernel : decode prog_14_method_69_code 113 = .ok (.goto (-33), 3))
theorem d_M_years_116 : m_D k_M_years 116 (.aload_n 0) 1 := (by decide +kernel : decode prog_14_method_69_code 116 = .ok (.aload_n 0, 1))
theorem d_M_years_117 : m_D k_M_years 117 (.getfield 304) 3 := (by decide +kernel : decode prog_14_method_69_code 117 = .ok (.getfield 304, 3))
theorem d_M_years_120 : m_D k_M_years 120 (.ireturn) 1 := (by decide +kernel : decode prog_14_method_69_code 120 = .ok (.ireturn, 1))
def fn_M_years_l28 (x0 : Option mA) (t2 : Unit) : mP ((Unit) ⊕ (Unit)) :=
  m_bd (m_gI 11 12 x0) fun v3 =>
  if v3 = 0 then
    m_bd (m_gI 11 14 x0) fun v4 =>
    if v4 = 0 then
      m_rt (.inr ())
    else
      m_bd (fn_M_readStep 8 x0 0) fun _ =>
      m_rt (.inl ())
  else
    m_rt (.inr ())
def fn_M_years_l80 (x0 : Option mA) (t10 : Int32) : mP ((Int32) ⊕ (Unit)) :=
  m_bd (m_gI 11 26 x0) fun v11 =>
  if (9 * v11) ≤ t10 then
    m_rt (.inr ())
  else
    m_bd (m_gR 11 20 x0) fun v12 =>
    m_bd (m_gR 11 20 x0) fun v13 =>
    m_bd (m_aI 0 v13 (1615 + t10)) fun v14 =>
    m_bd (m_tI 0 v12 (107 + t10) v14) fun _ =>
    m_rt (.inl (t10 + 1))
def fn_M_years (x0 : Option mA) (x1 : Int32) : mP Int32 :=
  m_th 11 x0 <|
  m_bd (m_pI 11 1 x0 0) fun _ =>
  m_bd (m_pI 11 0 x0 0) fun _ =>
  m_bd (fn_M_starts x0 x1 300) fun v1 =>
  if v1 = 0 then
    m_rt (-1)
  else
    m_bd (m_pI 11 26 x0 0) fun _ =>
    m_bd (m_lp (fn_M_years_l28 x0) m_F ()) fun (t5 : Unit) =>
    m_bd (fn_M_isWell x0) fun v6 =>
    if v6 = 0 then
      m_rt (-1)
    else
      m_bd (m_gR 11 20 x0) fun v7 =>
      m_bd (m_tI 0 v7 105 1) fun _ =>
      m_bd (m_gR 11 20 x0) fun v8 =>
      m_bd (m_gI 11 26 x0) fun v9 =>
      m_bd (m_tI 0 v8 106 v9) fun _ =>
      m_bd (m_lp (fn_M_years_l80 x0) m_F 0) fun (t15 : Unit) =>
      m_bd (m_gI 11 26 x0) fun v16 =>
      m_rt v16
set_option maxHeartbeats 4000000 in
set_option maxRecDepth 100000 in
theorem sd_M_years (x0 : Option mA) (x1 : Int32) : m_Sm k_M_years 18 0 0 [.inr (.inr x0), .inl x1] (fn_M_years x0 x1) (fun b => some (.inl b)) := by
  refine ⟨Nat.le_of_ble_eq_true rfl, ?_⟩
  refine sm_th ?_
  refine sm_aload_n (i := 0) (j := 0) (pc' := 1) d_M_years_0 rfl rfl rfl (sm_iconst (pc' := 2) d_M_years_1 rfl ic_0 (sm_putI (pc' := 5) d_M_years_2 rfl fl_M_81 (Or.inl rfl) rfl (sm_aload_n (i := 0) (j := 0) (pc' := 6) d_M_years_5 rfl rfl rfl (sm_iconst (pc' := 7) d_M_years_6 rfl ic_0 (sm_putI (pc' := 10) d_M_years_7 rfl fl_M_84 (Or.inl rfl) rfl (sm_aload_n (i := 0) (j := 0) (pc' := 11) d_M_years_10 rfl rfl rfl (sm_iload_n (i := 1) (j := 1) (pc' := 12) d_M_years_11 rfl rfl rfl (sm_sipush (pc' := 15) d_M_years_12 rfl is_300 ?_))))))))
  refine sm_callVi (ci := 11) (x := x0) (av := [.inl x1, .inl 300]) (st := []) (mc := 0) (ms := 0) (pc' := 18) d_M_years_15 rfl (sd_M_starts x0 x1 300) m_lv rfl cv_M_starts w_ml_M_286 rfl rfl (by decide) (Nat.le_of_ble_eq_true rfl) rfl rfl (fun v1 => ?_)
  refine sm_if_ne (tgt := 23) (pc' := 21) d_M_years_18 rfl rfl ?_ ?_
  · refine sm_aload_n (i := 0) (j := 0) (pc' := 24) d_M_years_23 rfl rfl rfl (sm_iconst (pc' := 25) d_M_years_24 rfl ic_0 (sm_putI (pc' := 28) d_M_years_25 rfl fl_M_304 (Or.inl rfl) rfl ?_))
    refine sm_sub [0] rfl ?_
    refine sm_bd (mid := fun (t5 : Unit) => .inl (50, [(0, .inr (.inr x0))], [])) (sm_lp (hd := fun (t2 : Unit) => (.inl (28, [(0, .inr (.inr x0))], []) : mC)) (fun t2 => ?_) m_F ()) (fun t5 => ?_)
    · refine sm_aload_n (i := 0) (j := 0) (pc' := 29) d_M_years_28 rfl rfl rfl ?_
      refine sm_getI (pc' := 32) d_M_years_29 rfl fl_M_218 rfl ⟨by decide, by decide⟩ (fun v3 => ?_)
      refine sm_if_ne (tgt := 50) (pc' := 35) d_M_years_32 rfl rfl ?_ ?_
      · refine sm_sub [0] rfl ?_
        exact sm_rt rfl
      · refine sm_aload_n (i := 0) (j := 0) (pc' := 36) d_M_years_35 rfl rfl rfl ?_
        refine sm_getI (pc' := 39) d_M_years_36 rfl fl_M_136 rfl ⟨by decide, by decide⟩ (fun v4 => ?_)
        refine sm_if_eq (tgt := 50) (pc' := 42) d_M_years_39 rfl rfl ?_ ?_
        · refine sm_sub [0] rfl ?_
          exact sm_rt rfl
        · refine sm_aload_n (i := 0) (j := 0) (pc' := 43) d_M_years_42 rfl rfl rfl (sm_iconst (pc' := 44) d_M_years_43 rfl ic_0 ?_)
          refine sm_callVv (ci := 11) (x := x0) (av := [.inl 0]) (st := []) (mc := 0) (ms := 0) (pc' := 47) d_M_years_44 rfl (sd_M_readStep 8 x0 0) (lv_M_readStep 8 x0 0) rfl cv_M_readStep w_ml_M_310 rfl rfl (by decide) (Nat.le_of_ble_eq_true rfl) rfl rfl ?_
          refine sm_goto (tgt := 28) d_M_years_47 rfl (sm_sub [0] rfl ?_)
          exact sm_rt rfl
    · refine sm_aload_n (i := 0) (j := 0) (pc' := 51) d_M_years_50 rfl rfl rfl ?_
      refine sm_callVi (ci := 11) (x := x0) (av := []) (st := []) (mc := 0) (ms := 0) (pc' := 54) d_M_years_51 rfl (sd_M_isWell x0) m_lv rfl cv_M_isWell w_ml_M_295 rfl rfl (by decide) (Nat.le_of_ble_eq_true rfl) rfl rfl (fun v6 => ?_)
      refine sm_if_ne (tgt := 59) (pc' := 57) d_M_years_54 rfl rfl ?_ ?_
      · refine sm_aload_n (i := 0) (j := 0) (pc' := 60) d_M_years_59 rfl rfl rfl ?_
        refine sm_getR (pc' := 63) d_M_years_60 rfl fl_M_35 rfl rfl (fun v7 => ?_)
        refine sm_bipush (pc' := 65) d_M_years_63 rfl ib_105 (sm_iconst (pc' := 66) d_M_years_65 rfl ic_1 (sm_iast (pc' := 67) d_M_years_66 rfl (sm_aload_n (i := 0) (j := 0) (pc' := 68) d_M_years_67 rfl rfl rfl ?_)))
        refine sm_getR (pc' := 71) d_M_years_68 rfl fl_M_35 rfl rfl (fun v8 => ?_)
        refine sm_bipush (pc' := 73) d_M_years_71 rfl ib_106 (sm_aload_n (i := 0) (j := 0) (pc' := 74) d_M_years_73 rfl rfl rfl ?_)
        refine sm_getI (pc' := 77) d_M_years_74 rfl fl_M_304 rfl ⟨by decide, by decide⟩ (fun v9 => ?_)
        refine sm_iast (pc' := 78) d_M_years_77 rfl (sm_iconst (pc' := 79) d_M_years_78 rfl ic_0 (sm_istore_n (i := 2) (L' := [(2, .inl 0), (0, .inr (.inr x0))]) (pc' := 80) d_M_years_79 rfl rfl (Nat.le_of_ble_eq_true rfl) rfl ?_))
        refine sm_sub [0, 1] rfl ?_
        refine sm_bd (mid := fun (t15 : Unit) => .inl (116, [(0, .inr (.inr x0))], [])) (sm_lp (hd := fun (t10 : Int32) => (.inl (80, [(2, .inl t10), (0, .inr (.inr x0))], []) : mC)) (fun t10 => ?_) m_F 0) (fun t15 => ?_)
        · refine sm_iload_n (i := 2) (j := 0) (pc' := 81) d_M_years_80 rfl rfl rfl (sm_bipush (pc' := 83) d_M_years_81 rfl ib_9 (sm_aload_n (i := 0) (j := 1) (pc' := 84) d_M_years_83 rfl rfl rfl ?_))
          refine sm_getI (pc' := 87) d_M_years_84 rfl fl_M_304 rfl ⟨by decide, by decide⟩ (fun v11 => ?_)
          refine sm_imul (pc' := 88) d_M_years_87 rfl ?_
          refine sm_icmp_ge (tgt := 116) (pc' := 91) d_M_years_88 rfl rfl ?_ ?_
          · refine sm_sub [1] rfl ?_
            exact sm_rt rfl
          · refine sm_aload_n (i := 0) (j := 1) (pc' := 92) d_M_years_91 rfl rfl rfl ?_
            refine sm_getR (pc' := 95) d_M_years_92 rfl fl_M_35 rfl rfl (fun v12 => ?_)
            refine sm_bipush (pc' := 97) d_M_years_95 rfl ib_107 (sm_iload_n (i := 2) (j := 0) (pc' := 98) d_M_years_97 rfl rfl rfl (sm_iadd (pc' := 99) d_M_years_98 rfl (sm_aload_n (i := 0) (j := 1) (pc' := 100) d_M_years_99 rfl rfl rfl ?_)))
            refine sm_getR (pc' := 103) d_M_years_100 rfl fl_M_35 rfl rfl (fun v13 => ?_)
            refine sm_sipush (pc' := 106) d_M_years_103 rfl is_1615 (sm_iload_n (i := 2) (j := 0) (pc' := 107) d_M_years_106 rfl rfl rfl (sm_iadd (pc' := 108) d_M_years_107 rfl ?_))
            refine sm_iald (pc' := 109) d_M_years_108 rfl (fun v14 => ?_)
            refine sm_iast (pc' := 110) d_M_years_109 rfl (sm_iinc (j := 0) (L' := [(2, .inl (t10 + 1)), (0, .inr (.inr x0))]) (pc' := 113) d_M_years_110 rfl (v := (t10 + 1)) rfl (ix_1 _) (Nat.le_of_ble_eq_true rfl) rfl (sm_goto (tgt := 80) d_M_years_113 rfl (sm_sub [0, 1] rfl ?_)))
            exact sm_rt rfl
        · refine sm_aload_n (i := 0) (j := 0) (pc' := 117) d_M_years_116 rfl rfl rfl ?_
          refine sm_getI (pc' := 120) d_M_years_117 rfl fl_M_304 rfl ⟨by decide, by decide⟩ (fun v16 => ?_)
          exact sm_ireturn d_M_years_120 rfl rfl
      · refine sm_iconst (pc' := 58) d_M_years_57 rfl ic_m1 ?_
        exact sm_ireturn d_M_years_58 rfl rfl
  · refine sm_iconst (pc' := 22) d_M_years_21 rfl ic_m1 ?_
    exact sm_ireturn d_M_years_22 rfl rfl
theorem d_M_allRust_0 : m_D k_M_allRust 0 (.iconst 0) 1 := (by decide +kernel : decode prog_14_method_82_code 0 = .ok (.iconst 0, 1))
theorem d_M_allRust_1 : m_D k_M_allRust 1 (.istore_n 1) 1 := (by decide +kernel : decode prog_14_method_82_code 1 = .ok (.istore_n 1, 1))
theorem d_M_allRust_2 : m_D k_M_allRust 2 (.iconst 0) 1 := (by decide +kernel : decode prog_14_method_82_code 2 = .ok (.iconst 0, 1))
theorem d_M_allRust_3 : m_D k_M_allRust 3 (.istore_n 2) 1 := (by decide +kernel : decode prog_14_method_82_code 3 = .ok (.istore_n 2, 1))
theorem d_M_allRust_4 : m_D k_M_allRust 4 (.iload_n 2) 1 := (by decide +kernel : decode prog_14_method_82_code 4 = .ok (.iload_n 2, 1))
theorem d_M_allRust_5 : m_D k_M_allRust 5 (.aload_n 0) 1 := (by decide +kernel : decode prog_14_method_82_code 5 = .ok (.aload_n 0, 1))
theorem d_M_allRust_6 : m_D k_M_allRust 6 (.getfield 35) 3 := (by decide +kernel : decode prog_14_method_82_code 6 = .ok (.getfield 35, 3))
theorem d_M_allRust_9 : m_D k_M_allRust 9 (.iconst 1) 1 := (by decide +kernel : decode prog_14_method_82_code 9 = .ok (.iconst 1, 1))
theorem d_M_allRust_10 : m_D k_M_allRust 10 (.iaload) 1 := (by decide +kernel : decode prog_14_method_82_code 10 = .ok (.iaload, 1))
theorem d_M_allRust_11 : m_D k_M_allRust 11 (.if_icmp .ge 21) 3 := (by decide +kernel : decode prog_14_method_82_code 11 = .ok (.if_icmp .ge 21, 3))
theorem d_M_allRust_14 : m_D k_M_allRust 14 (.iload_n 1) 1 := (by decide +kernel : decode prog_14_method_82_code 14 = .ok (.iload_n 1, 1))
theorem d_M_allRust_15 : m_D k_M_allRust 15 (.aload_n 0) 1 := (by decide +kernel : decode prog_14_method_82_code 15 = .ok (.aload_n 0, 1))
theorem d_M_allRust_16 : m_D k_M_allRust 16 (.getfield 35) 3 := (by decide +kernel : decode prog_14_method_82_code 16 = .ok (.getfield 35, 3))
theorem d_M_allRust_19 : m_D k_M_allRust 19 (.bipush 41) 2 := (by decide +kernel : decode prog_14_method_82_code 19 = .ok (.bipush 41, 2))
theorem d_M_allRust_21 : m_D k_M_allRust 21 (.iload_n 2) 1 := (by decide +kernel : decode prog_14_method_82_code 21 = .ok (.iload_n 2, 1))
theorem d_M_allRust_22 : m_D k_M_allRust 22 (.iadd) 1 := (by decide +kernel : decode prog_14_method_82_code 22 = .ok (.iadd, 1))
theorem d_M_allRust_23 : m_D k_M_allRust 23 (.iaload) 1 := (by decide +kernel : decode prog_14_method_82_code 23 = .ok (.iaload, 1))
theorem d_M_allRust_24 : m_D k_M_allRust 24 (.iadd) 1 := (by decide +kernel : decode prog_14_method_82_code 24 = .ok (.iadd, 1))
theorem d_M_allRust_25 : m_D k_M_allRust 25 (.istore_n 1) 1 := (by decide +kernel : decode prog_14_method_82_code 25 = .ok (.istore_n 1, 1))
theorem d_M_allRust_26 : m_D k_M_allRust 26 (.iinc 2 1) 3 := (by decide +kernel : decode prog_14_method_82_code 26 = .ok (.iinc 2 1, 3))
theorem d_M_allRust_29 : m_D k_M_allRust 29 (.goto (-25)) 3 := (by decide +kernel : decode prog_14_method_82_code 29 = .ok (.goto (-25), 3))
theorem d_M_allRust_32 : m_D k_M_allRust 32 (.iload_n 1) 1 := (by decide +kernel : decode prog_14_method_82_code 32 = .ok (.iload_n 1, 1))
theorem d_M_allRust_33 : m_D k_M_allRust 33 (.ireturn) 1 := (by decide +kernel : decode prog_14_method_82_code 33 = .ok (.ireturn, 1))
def fn_M_allRust_l4 (x0 : Option mA) (t1 : Int32 × Int32) : mP ((Int32 × Int32) ⊕ (Int32)) :=
  m_bd (m_gR 11 20 x0) fun v2 =>
  m_bd (m_aI 0 v2 1) fun v3 =>
  if v3 ≤ t1.2 then
    m_rt (.inr t1.1)
  else
    m_bd (m_gR 11 20 x0) fun v4 =>
    m_bd (m_aI 0 v4 (41 + t1.2)) fun v5 =>
    m_rt (.inl ((t1.1 + v5), (t1.2 + 1)))
def fn_M_allRust (x0 : Option mA) : mP Int32 :=
  m_th 11 x0 <|
  m_bd (m_lp (fn_M_allRust_l4 x0) m_F (0, 0)) fun (t6 : Int32) =>
  m_rt t6
set_option maxHeartbeats 4000000 in
set_option maxRecDepth 100000 in
theorem sd_M_allRust (x0 : Option mA) : m_Sm k_M_allRust 1 0 0 [.inr (.inr x0)] (fn_M_allRust x0) (fun b => some (.inl b)) := by
  refine ⟨Nat.le_of_ble_eq_true rfl, ?_⟩
  refine sm_th ?_
  refine sm_iconst (pc' := 1) d_M_allRust_0 rfl ic_0 (sm_istore_n (i := 1) (L' := [(1, .inl 0), (0, .inr (.inr x0))]) (pc' := 2) d_M_allRust_1 rfl rfl (Nat.le_of_ble_eq_true rfl) rfl (sm_iconst (pc' := 3) d_M_allRust_2 rfl ic_0 (sm_istore_n (i := 2) (L' := [(2, .inl 0), (1, .inl 0), (0, .inr (.inr x0))]) (pc' := 4) d_M_allRust_3 rfl rfl (Nat.le_of_ble_eq_true rfl) rfl ?_)))
  refine sm_sub [1, 0, 2] rfl ?_
  refine sm_bd (mid := fun (t6 : Int32) => .inl (32, [(1, .inl t6)], [])) (sm_lp (hd := fun (t1 : Int32 × Int32) => (.inl (4, [(1, .inl t1.1), (2, .inl t1.2), (0, .inr (.inr x0))], []) : mC)) (fun t1 => ?_) m_F (0, 0)) (fun t6 => ?_)
  · refine sm_iload_n (i := 2) (j := 1) (pc' := 5) d_M_allRust_4 rfl rfl rfl (sm_aload_n (i := 0) (j := 2) (pc' := 6) d_M_allRust_5 rfl rfl rfl ?_)
    refine sm_getR (pc' := 9) d_M_allRust_6 rfl fl_M_35 rfl rfl (fun v2 => ?_)
    refine sm_iconst (pc' := 10) d_M_allRust_9 rfl ic_1 ?_
    refine sm_iald (pc' := 11) d_M_allRust_10 rfl (fun v3 => ?_)
    refine sm_icmp_ge (tgt := 32) (pc' := 14) d_M_allRust_11 rfl rfl ?_ ?_
    · refine sm_sub [0] rfl ?_
      exact sm_rt rfl
    · refine sm_iload_n (i := 1) (j := 0) (pc' := 15) d_M_allRust_14 rfl rfl rfl (sm_aload_n (i := 0) (j := 2) (pc' := 16) d_M_allRust_15 rfl rfl rfl ?_)
      refine sm_getR (pc' := 19) d_M_allRust_16 rfl fl_M_35 rfl rfl (fun v4 => ?_)
      refine sm_bipush (pc' := 21) d_M_allRust_19 rfl ib_41 (sm_iload_n (i := 2) (j := 1) (pc' := 22) d_M_allRust_21 rfl rfl rfl (sm_iadd (pc' := 23) d_M_allRust_22 rfl ?_))
      refine sm_iald (pc' := 24) d_M_allRust_23 rfl (fun v5 => ?_)
      refine sm_iadd (pc' := 25) d_M_allRust_24 rfl (sm_istore_n (i := 1) (L' := [(1, .inl (t1.1 + v5)), (2, .inl t1.2), (0, .inr (.inr x0))]) (pc' := 26) d_M_allRust_25 rfl rfl (Nat.le_of_ble_eq_true rfl) rfl (sm_iinc (j := 1) (L' := [(2, .inl (t1.2 + 1)), (1, .inl (t1.1 + v5)), (0, .inr (.inr x0))]) (pc' := 29) d_M_allRust_26 rfl (v := (t1.2 + 1)) rfl (ix_1 _) (Nat.le_of_ble_eq_true rfl) rfl (sm_goto (tgt := 4) d_M_allRust_29 rfl (sm_sub [1, 0, 2] rfl ?_))))
      exact sm_rt rfl
  · refine sm_iload_n (i := 1) (j := 0) (pc' := 33) d_M_allRust_32 rfl rfl rfl ?_
    exact sm_ireturn d_M_allRust_33 rfl rfl
theorem d_M_living_0 : m_D k_M_living 0 (.iconst 0) 1 := (by decide +kernel : decode prog_14_method_78_code 0 = .ok (.iconst 0, 1))
theorem d_M_living_1 : m_D k_M_living 1 (.istore_n 1) 1 := (by decide +kernel : decode prog_14_method_78_code 1 = .ok (.istore_n 1, 1))
theorem d_M_living_2 : m_D k_M_living 2 (.iconst 0) 1 := (by decide +kernel : decode prog_14_method_78_code 2 = .ok (.iconst 0, 1))
theorem d_M_living_3 : m_D k_M_living 3 (.istore_n 2) 1 := (by decide +kernel : decode prog_14_method_78_code 3 = .ok (.istore_n 2, 1))
theorem d_M_living_4 : m_D k_M_living 4 (.iload_n 2) 1 := (by decide +kernel : decode prog_14_method_78_code 4 = .ok (.iload_n 2, 1))
theorem d_M_living_5 : m_D k_M_living 5 (.aload_n 0) 1 := (by decide +kernel : decode prog_14_method_78_code 5 = .ok (.aload_n 0, 1))
theorem d_M_living_6 : m_D k_M_living 6 (.getfield 35) 3 := (by decide +kernel : decode prog_14_method_78_code 6 = .ok (.getfield 35, 3))
theorem d_M_living_9 : m_D k_M_living 9 (.iconst 0) 1 := (by decide +kernel : decode prog_14_method_78_code 9 = .ok (.iconst 0, 1))
theorem d_M_living_10 : m_D k_M_living 10 (.iaload) 1 := (by decide +kernel : decode prog_14_method_78_code 10 = .ok (.iaload, 1))
theorem d_M_living_11 : m_D k_M_living 11 (.if_icmp .ge 23) 3 := (by decide +kernel : decode prog_14_method_78_code 11 = .ok (.if_icmp .ge 23, 3))
theorem d_M_living_14 : m_D k_M_living 14 (.iload_n 1) 1 := (by decide +kernel : decode prog_14_method_78_code 14 = .ok (.iload_n 1, 1))
theorem d_M_living_15 : m_D k_M_living 15 (.aload_n 0) 1 := (by decide +kernel : decode prog_14_method_78_code 15 = .ok (.aload_n 0, 1))
theorem d_M_living_16 : m_D k_M_living 16 (.getfield 35) 3 := (by decide +kernel : decode prog_14_method_78_code 16 = .ok (.getfield 35, 3))
theorem d_M_living_19 : m_D k_M_living 19 (.bipush 19) 2 := (by decide +kernel : decode prog_14_method_78_code 19 = .ok (.bipush 19, 2))
theorem d_M_living_21 : m_D k_M_living 21 (.iload_n 2) 1 := (by decide +kernel : decode prog_14_method_78_code 21 = .ok (.iload_n 2, 1))
theorem d_M_living_22 : m_D k_M_living 22 (.iadd) 1 := (by decide +kernel : decode prog_14_method_78_code 22 = .ok (.iadd, 1))
theorem d_M_living_23 : m_D k_M_living 23 (.iaload) 1 := (by decide +kernel : decode prog_14_method_78_code 23 = .ok (.iaload, 1))
theorem d_M_living_24 : m_D k_M_living 24 (.iload_n 2) 1 := (by decide +kernel : decode prog_14_method_78_code 24 = .ok (.iload_n 2, 1))
theorem d_M_living_25 : m_D k_M_living 25 (.ishl) 1 := (by decide +kernel : decode prog_14_method_78_code 25 = .ok (.ishl, 1))
theorem d_M_living_26 : m_D k_M_living 26 (.ior) 1 := (by decide +kernel : decode prog_14_method_78_code 26 = .ok (.ior, 1))
theorem d_M_living_27 : m_D k_M_living 27 (.istore_n 1) 1 := (by decide +kernel : decode prog_14_method_78_code 27 = .ok (.istore_n 1, 1))
theorem d_M_living_28 : m_D k_M_living 28 (.iinc 2 1) 3 := (by decide +kernel : decode prog_14_method_78_code 28 = .ok (.iinc 2 1, 3))
theorem d_M_living_31 : m_D k_M_living 31 (.goto (-27)) 3 := (by decide +kernel : decode prog_14_method_78_code 31 = .ok (.goto (-27), 3))
theorem d_M_living_34 : m_D k_M_living 34 (.iload_n 1) 1 := (by decide +kernel : decode prog_14_method_78_code 34 = .ok (.iload_n 1, 1))
theorem d_M_living_35 : m_D k_M_living 35 (.ireturn) 1 := (by decide +kernel : decode prog_14_method_78_code 35 = .ok (.ireturn, 1))
def fn_M_living_l4 (x0 : Option mA) (t1 : Int32 × Int32) : mP ((Int32 × Int32) ⊕ (Int32)) :=
  m_bd (m_gR 11 20 x0) fun v2 =>
  m_bd (m_aI 0 v2 0) fun v3 =>
  if v3 ≤ t1.2 then
    m_rt (.inr t1.1)
  else
    m_bd (m_gR 11 20 x0) fun v4 =>
    m_bd (m_aI 0 v4 (19 + t1.2)) fun v5 =>
    m_rt (.inl ((t1.1 ||| (v5 <<< (t1.2 &&& 31))), (t1.2 + 1)))
def fn_M_living (x0 : Option mA) : mP Int32 :=
  m_th 11 x0 <|
  m_bd (m_lp (fn_M_living_l4 x0) m_F (0, 0)) fun (t6 : Int32) =>
  m_rt t6
set_option maxHeartbeats 4000000 in
set_option maxRecDepth 100000 in
theorem sd_M_living (x0 : Option mA) : m_Sm k_M_living 1 0 0 [.inr (.inr x0)] (fn_M_living x0) (fun b => some (.inl b)) := by
  refine ⟨Nat.le_of_ble_eq_true rfl, ?_⟩
  refine sm_th ?_
  refine sm_iconst (pc' := 1) d_M_living_0 rfl ic_0 (sm_istore_n (i := 1) (L' := [(1, .inl 0), (0, .inr (.inr x0))]) (pc' := 2) d_M_living_1 rfl rfl (Nat.le_of_ble_eq_true rfl) rfl (sm_iconst (pc' := 3) d_M_living_2 rfl ic_0 (sm_istore_n (i := 2) (L' := [(2, .inl 0), (1, .inl 0), (0, .inr (.inr x0))]) (pc' := 4) d_M_living_3 rfl rfl (Nat.le_of_ble_eq_true rfl) rfl ?_)))
  refine sm_sub [1, 0, 2] rfl ?_
  refine sm_bd (mid := fun (t6 : Int32) => .inl (34, [(1, .inl t6)], [])) (sm_lp (hd := fun (t1 : Int32 × Int32) => (.inl (4, [(1, .inl t1.1), (2, .inl t1.2), (0, .inr (.inr x0))], []) : mC)) (fun t1 => ?_) m_F (0, 0)) (fun t6 => ?_)
  · refine sm_iload_n (i := 2) (j := 1) (pc' := 5) d_M_living_4 rfl rfl rfl (sm_aload_n (i := 0) (j := 2) (pc' := 6) d_M_living_5 rfl rfl rfl ?_)
    refine sm_getR (pc' := 9) d_M_living_6 rfl fl_M_35 rfl rfl (fun v2 => ?_)
    refine sm_iconst (pc' := 10) d_M_living_9 rfl ic_0 ?_
    refine sm_iald (pc' := 11) d_M_living_10 rfl (fun v3 => ?_)
    refine sm_icmp_ge (tgt := 34) (pc' := 14) d_M_living_11 rfl rfl ?_ ?_
    · refine sm_sub [0] rfl ?_
      exact sm_rt rfl
    · refine sm_iload_n (i := 1) (j := 0) (pc' := 15) d_M_living_14 rfl rfl rfl (sm_aload_n (i := 0) (j := 2) (pc' := 16) d_M_living_15 rfl rfl rfl ?_)
      refine sm_getR (pc' := 19) d_M_living_16 rfl fl_M_35 rfl rfl (fun v4 => ?_)
      refine sm_bipush (pc' := 21) d_M_living_19 rfl ib_19 (sm_iload_n (i := 2) (j := 1) (pc' := 22) d_M_living_21 rfl rfl rfl (sm_iadd (pc' := 23) d_M_living_22 rfl ?_))
      refine sm_iald (pc' := 24) d_M_living_23 rfl (fun v5 => ?_)
      refine sm_iload_n (i := 2) (j := 1) (pc' := 25) d_M_living_24 rfl rfl rfl (sm_ishl (pc' := 26) d_M_living_25 rfl (sm_ior (pc' := 27) d_M_living_26 rfl (sm_istore_n (i := 1) (L' := [(1, .inl (t1.1 ||| (v5 <<< (t1.2 &&& 31)))), (2, .inl t1.2), (0, .inr (.inr x0))]) (pc' := 28) d_M_living_27 rfl rfl (Nat.le_of_ble_eq_true rfl) rfl (sm_iinc (j := 1) (L' := [(2, .inl (t1.2 + 1)), (1, .inl (t1.1 ||| (v5 <<< (t1.2 &&& 31)))), (0, .inr (.inr x0))]) (pc' := 31) d_M_living_28 rfl (v := (t1.2 + 1)) rfl (ix_1 _) (Nat.le_of_ble_eq_true rfl) rfl (sm_goto (tgt := 4) d_M_living_31 rfl (sm_sub [1, 0, 2] rfl ?_))))))
      exact sm_rt rfl
  · refine sm_iload_n (i := 1) (j := 0) (pc' := 35) d_M_living_34 rfl rfl rfl ?_
    exact sm_ireturn d_M_living_35 rfl rfl
theorem d_M_oiled_0 : m_D k_M_oiled 0 (.iconst 0) 1 := (by decide +kernel : decode prog_14_method_81_code 0 = .ok (.iconst 0, 1))
theorem d_M_oiled_1 : m_D k_M_oiled 1 (.istore_n 1) 1 := (by decide +kernel : decode prog_14_method_81_code 1 = .ok (.istore_n 1, 1))
theorem d_M_oiled_2 : m_D k_M_oiled 2 (.iconst 0) 1 := (by decide +kernel : decode prog_14_method_81_code 2 = .ok (.iconst 0, 1))
theorem d_M_oiled_3 : m_D k_M_oiled 3 (.istore_n 2) 1 := (by decide +kernel : decode prog_14_method_81_code 3 = .ok (.istore_n 2, 1))
theorem d_M_oiled_4 : m_D k_M_oiled 4 (.iload_n 2) 1 := (by decide +kernel : decode prog_14_method_81_code 4 = .ok (.iload_n 2, 1))
theorem d_M_oiled_5 : m_D k_M_oiled 5 (.aload_n 0) 1 := (by decide +kernel : decode prog_14_method_81_code 5 = .ok (.aload_n 0, 1))
theorem d_M_oiled_6 : m_D k_M_oiled 6 (.getfield 35) 3 := (by decide +kernel : decode prog_14_method_81_code 6 = .ok (.getfield 35, 3))
theorem d_M_oiled_9 : m_D k_M_oiled 9 (.iconst 1) 1 := (by decide +kernel : decode prog_14_method_81_code 9 = .ok (.iconst 1, 1))
theorem d_M_oiled_10 : m_D k_M_oiled 10 (.iaload) 1 := (by decide +kernel : decode prog_14_method_81_code 10 = .ok (.iaload, 1))
theorem d_M_oiled_11 : m_D k_M_oiled 11 (.if_icmp .ge 31) 3 := (by decide +kernel : decode prog_14_method_81_code 11 = .ok (.if_icmp .ge 31, 3))
theorem d_M_oiled_14 : m_D k_M_oiled 14 (.iload_n 1) 1 := (by decide +kernel : decode prog_14_method_81_code 14 = .ok (.iload_n 1, 1))
theorem d_M_oiled_15 : m_D k_M_oiled 15 (.aload_n 0) 1 := (by decide +kernel : decode prog_14_method_81_code 15 = .ok (.aload_n 0, 1))
theorem d_M_oiled_16 : m_D k_M_oiled 16 (.getfield 35) 3 := (by decide +kernel : decode prog_14_method_81_code 16 = .ok (.getfield 35, 3))
theorem d_M_oiled_19 : m_D k_M_oiled 19 (.bipush 49) 2 := (by decide +kernel : decode prog_14_method_81_code 19 = .ok (.bipush 49, 2))
theorem d_M_oiled_21 : m_D k_M_oiled 21 (.iload_n 2) 1 := (by decide +kernel : decode prog_14_method_81_code 21 = .ok (.iload_n 2, 1))
theorem d_M_oiled_22 : m_D k_M_oiled 22 (.iadd) 1 := (by decide +kernel : decode prog_14_method_81_code 22 = .ok (.iadd, 1))
theorem d_M_oiled_23 : m_D k_M_oiled 23 (.iaload) 1 := (by decide +kernel : decode prog_14_method_81_code 23 = .ok (.iaload, 1))
theorem d_M_oiled_24 : m_D k_M_oiled 24 (.ifCond .le 9) 3 := (by decide +kernel : decode prog_14_method_81_code 24 = .ok (.ifCond .le 9, 3))
theorem d_M_oiled_27 : m_D k_M_oiled 27 (.iconst 1) 1 := (by decide +kernel : decode prog_14_method_81_code 27 = .ok (.iconst 1, 1))
theorem d_M_oiled_28 : m_D k_M_oiled 28 (.iload_n 2) 1 := (by decide +kernel : decode prog_14_method_81_code 28 = .ok (.iload_n 2, 1))
theorem d_M_oiled_29 : m_D k_M_oiled 29 (.ishl) 1 := (by decide +kernel : decode prog_14_method_81_code 29 = .ok (.ishl, 1))
theorem d_M_oiled_30 : m_D k_M_oiled 30 (.goto 4) 3 := (by decide +kernel : decode prog_14_method_81_code 30 = .ok (.goto 4, 3))
theorem d_M_oiled_33 : m_D k_M_oiled 33 (.iconst 0) 1 := (by decide +kernel : decode prog_14_method_81_code 33 = .ok (.iconst 0, 1))
theorem d_M_oiled_34 : m_D k_M_oiled 34 (.ior) 1 := (by decide +kernel : decode prog_14_method_81_code 34 = .ok (.ior, 1))
theorem d_M_oiled_35 : m_D k_M_oiled 35 (.istore_n 1) 1 := (by decide +kernel : decode prog_14_method_81_code 35 = .ok (.istore_n 1, 1))
theorem d_M_oiled_36 : m_D k_M_oiled 36 (.iinc 2 1) 3 := (by decide +kernel : decode prog_14_method_81_code 36 = .ok (.iinc 2 1, 3))
theorem d_M_oiled_39 : m_D k_M_oiled 39 (.goto (-35)) 3 := (by decide +kernel : decode prog_14_method_81_code 39 = .ok (.goto (-35), 3))
theorem d_M_oiled_42 : m_D k_M_oiled 42 (.iload_n 1) 1 := (by decide +kernel : decode prog_14_method_81_code 42 = .ok (.iload_n 1, 1))
theorem d_M_oiled_43 : m_D k_M_oiled 43 (.ireturn) 1 := (by decide +kernel : decode prog_14_method_81_code 43 = .ok (.ireturn, 1))
def fn_M_oiled_l4 (x0 : Option mA) (t1 : Int32 × Int32) : mP ((Int32 × Int32) ⊕ (Int32)) :=
  m_bd (m_gR 11 20 x0) fun v2 =>
  m_bd (m_aI 0 v2 1) fun v3 =>
  if v3 ≤ t1.2 then
    m_rt (.inr t1.1)
  else
    m_bd (m_gR 11 20 x0) fun v4 =>
    m_bd (m_aI 0 v4 (49 + t1.2)) fun v5 =>
    m_bd (α := Int32) (
      if v5 ≤ 0 then
        m_rt 0
      else
        m_rt (1 <<< (t1.2 &&& 31))
      ) fun (t6 : Int32) =>
    m_rt (.inl ((t1.1 ||| t6), (t1.2 + 1)))
def fn_M_oiled (x0 : Option mA) : mP Int32 :=
  m_th 11 x0 <|
  m_bd (m_lp (fn_M_oiled_l4 x0) m_F (0, 0)) fun (t7 : Int32) =>
  m_rt t7
set_option maxHeartbeats 4000000 in
set_option maxRecDepth 100000 in
theorem sd_M_oiled (x0 : Option mA) : m_Sm k_M_oiled 1 0 0 [.inr (.inr x0)] (fn_M_oiled x0) (fun b => some (.inl b)) := by
  refine ⟨Nat.le_of_ble_eq_true rfl, ?_⟩
  refine sm_th ?_
  refine sm_iconst (pc' := 1) d_M_oiled_0 rfl ic_0 (sm_istore_n (i := 1) (L' := [(1, .inl 0), (0, .inr (.inr x0))]) (pc' := 2) d_M_oiled_1 rfl rfl (Nat.le_of_ble_eq_true rfl) rfl (sm_iconst (pc' := 3) d_M_oiled_2 rfl ic_0 (sm_istore_n (i := 2) (L' := [(2, .inl 0), (1, .inl 0), (0, .inr (.inr x0))]) (pc' := 4) d_M_oiled_3 rfl rfl (Nat.le_of_ble_eq_true rfl) rfl ?_)))
  refine sm_sub [1, 0, 2] rfl ?_
  refine sm_bd (mid := fun (t7 : Int32) => .inl (42, [(1, .inl t7)], [])) (sm_lp (hd := fun (t1 : Int32 × Int32) => (.inl (4, [(1, .inl t1.1), (2, .inl t1.2), (0, .inr (.inr x0))], []) : mC)) (fun t1 => ?_) m_F (0, 0)) (fun t7 => ?_)
  · refine sm_iload_n (i := 2) (j := 1) (pc' := 5) d_M_oiled_4 rfl rfl rfl (sm_aload_n (i := 0) (j := 2) (pc' := 6) d_M_oiled_5 rfl rfl rfl ?_)
    refine sm_getR (pc' := 9) d_M_oiled_6 rfl fl_M_35 rfl rfl (fun v2 => ?_)
    refine sm_iconst (pc' := 10) d_M_oiled_9 rfl ic_1 ?_
    refine sm_iald (pc' := 11) d_M_oiled_10 rfl (fun v3 => ?_)
    refine sm_icmp_ge (tgt := 42) (pc' := 14) d_M_oiled_11 rfl rfl ?_ ?_
    · refine sm_sub [0] rfl ?_
      exact sm_rt rfl
    · refine sm_iload_n (i := 1) (j := 0) (pc' := 15) d_M_oiled_14 rfl rfl rfl (sm_aload_n (i := 0) (j := 2) (pc' := 16) d_M_oiled_15 rfl rfl rfl ?_)
      refine sm_getR (pc' := 19) d_M_oiled_16 rfl fl_M_35 rfl rfl (fun v4 => ?_)
      refine sm_bipush (pc' := 21) d_M_oiled_19 rfl ib_49 (sm_iload_n (i := 2) (j := 1) (pc' := 22) d_M_oiled_21 rfl rfl rfl (sm_iadd (pc' := 23) d_M_oiled_22 rfl ?_))
      refine sm_iald (pc' := 24) d_M_oiled_23 rfl (fun v5 => ?_)
      refine sm_bd (mid := fun (t6 : Int32) => .inl (34, [(0, .inr (.inr x0)), (2, .inl t1.2)], [.inl t6, .inl t1.1])) ?_ (fun t6 => ?_)
      · refine sm_if_le (tgt := 33) (pc' := 27) d_M_oiled_24 rfl rfl ?_ ?_
        · refine sm_iconst (pc' := 34) d_M_oiled_33 rfl ic_0 (sm_sub [2, 1] rfl ?_)
          exact sm_rt rfl
        · refine sm_iconst (pc' := 28) d_M_oiled_27 rfl ic_1 (sm_iload_n (i := 2) (j := 1) (pc' := 29) d_M_oiled_28 rfl rfl rfl (sm_ishl (pc' := 30) d_M_oiled_29 rfl (sm_goto (tgt := 34) d_M_oiled_30 rfl (sm_sub [2, 1] rfl ?_))))
          exact sm_rt rfl
      · refine sm_ior (pc' := 35) d_M_oiled_34 rfl (sm_istore_n (i := 1) (L' := [(1, .inl (t1.1 ||| t6)), (0, .inr (.inr x0)), (2, .inl t1.2)]) (pc' := 36) d_M_oiled_35 rfl rfl (Nat.le_of_ble_eq_true rfl) rfl (sm_iinc (j := 2) (L' := [(2, .inl (t1.2 + 1)), (1, .inl (t1.1 ||| t6)), (0, .inr (.inr x0))]) (pc' := 39) d_M_oiled_36 rfl (v := (t1.2 + 1)) rfl (ix_1 _) (Nat.le_of_ble_eq_true rfl) rfl (sm_goto (tgt := 4) d_M_oiled_39 rfl (sm_sub [1, 0, 2] rfl ?_))))
        exact sm_rt rfl
  · refine sm_iload_n (i := 1) (j := 0) (pc' := 43) d_M_oiled_42 rfl rfl rfl ?_
    exact sm_ireturn d_M_oiled_43 rfl rfl
theorem d_M_refuse_0 : m_D k_M_refuse 0 (.aload_n 0) 1 := (by decide +kernel : decode prog_14_method_6_code 0 = .ok (.aload_n 0, 1))
theorem d_M_refuse_1 : m_D k_M_refuse 1 (.iload_n 1) 1 := (by decide +kernel : decode prog_14_method_6_code 1 = .ok (.iload_n 1, 1))
theorem d_M_refuse_2 : m_D k_M_refuse 2 (.putfield 84) 3 := (by decide +kernel : decode prog_14_method_6_code 2 = .ok (.putfield 84, 3))
theorem d_M_refuse_5 : m_D k_M_refuse 5 (.iconst (-1)) 1 := (by decide +kernel : decode prog_14_method_6_code 5 = .ok (.iconst (-1), 1))
theorem d_M_refuse_6 : m_D k_M_refuse 6 (.ireturn) 1 := (by decide +kernel : decode prog_14_method_6_code 6 = .ok (.ireturn, 1))
def fn_M_refuse (x0 : Option mA) (x1 : Int32) : mP Int32 :=
  m_th 11 x0 <|
  m_bd (m_pI 11 0 x0 x1) fun _ =>
  m_rt (-1)
set_option maxHeartbeats 4000000 in
set_option maxRecDepth 100000 in
theorem sd_M_refuse (x0 : Option mA) (x1 : Int32) : m_Sm k_M_refuse 1 0 0 [.inr (.inr x0), .inl x1] (fn_M_refuse x0 x1) (fun b => some (.inl b)) := by
  refine ⟨Nat.le_of_ble_eq_true rfl, ?_⟩
  refine sm_th ?_
  refine sm_aload_n (i := 0) (j := 0) (pc' := 1) d_M_refuse_0 rfl rfl rfl (sm_iload_n (i := 1) (j := 1) (pc' := 2) d_M_refuse_1 rfl rfl rfl (sm_putI (pc' := 5) d_M_refuse_2 rfl fl_M_84 (Or.inl rfl) rfl (sm_iconst (pc' := 6) d_M_refuse_5 rfl ic_m1 ?_)))
  exact sm_ireturn d_M_refuse_6 rfl rfl
theorem d_M_showsNow_0 : m_D k_M_showsNow 0 (.aload_n 0) 1 := (by decide +kernel : decode prog_14_method_73_code 0 = .ok (.aload_n 0, 1))
theorem d_M_showsNow_1 : m_D k_M_showsNow 1 (.getfield 35) 3 := (by decide +kernel : decode prog_14_method_73_code 1 = .ok (.getfield 35, 3))
theorem d_M_showsNow_4 : m_D k_M_showsNow 4 (.bipush 19) 2 := (by decide +kernel : decode prog_14_method_73_code 4 = .ok (.bipush 19, 2))
theorem d_M_showsNow_6 : m_D k_M_showsNow 6 (.iload_n 1) 1 := (by decide +kernel : decode prog_14_method_73_code 6 = .ok (.iload_n 1, 1))
theorem d_M_showsNow_7 : m_D k_M_showsNow 7 (.iadd) 1 := (by decide +kernel : decode prog_14_method_73_code 7 = .ok (.iadd, 1))
theorem d_M_showsNow_8 : m_D k_M_showsNow 8 (.iaload) 1 := (by decide +kernel : decode prog_14_method_73_code 8 = .ok (.iaload, 1))
theorem d_M_showsNow_9 : m_D k_M_showsNow 9 (.iconst 1) 1 := (by decide +kernel : decode prog_14_method_73_code 9 = .ok (.iconst 1, 1))
theorem d_M_showsNow_10 : m_D k_M_showsNow 10 (.if_icmp .ne 38) 3 := (by decide +kernel : decode prog_14_method_73_code 10 = .ok (.if_icmp .ne 38, 3))
theorem d_M_showsNow_13 : m_D k_M_showsNow 13 (.aload_n 0) 1 := (by decide +kernel : decode prog_14_method_73_code 13 = .ok (.aload_n 0, 1))
theorem d_M_showsNow_14 : m_D k_M_showsNow 14 (.getfield 35) 3 := (by decide +kernel : decode prog_14_method_73_code 14 = .ok (.getfield 35, 3))
theorem d_M_showsNow_17 : m_D k_M_showsNow 17 (.bipush 13) 2 := (by decide +kernel : decode prog_14_method_73_code 17 = .ok (.bipush 13, 2))
theorem d_M_showsNow_19 : m_D k_M_showsNow 19 (.iload_n 1) 1 := (by decide +kernel : decode prog_14_method_73_code 19 = .ok (.iload_n 1, 1))
theorem d_M_showsNow_20 : m_D k_M_showsNow 20 (.iadd) 1 := (by decide +kernel : decode prog_14_method_73_code 20 = .ok (.iadd, 1))
theorem d_M_showsNow_21 : m_D k_M_showsNow 21 (.iaload) 1 := (by decide +kernel : decode prog_14_method_73_code 21 = .ok (.iaload, 1))
theorem d_M_showsNow_22 : m_D k_M_showsNow 22 (.iconst 1) 1 := (by decide +kernel : decode prog_14_method_73_code 22 = .ok (.iconst 1, 1))
theorem d_M_showsNow_23 : m_D k_M_showsNow 23 (.if_icmp .ne 25) 3 := (by decide +kernel : decode prog_14_method_73_code 23 = .ok (.if_icmp .ne 25, 3))
theorem d_M_showsNow_26 : m_D k_M_showsNow 26 (.aload_n 0) 1 := (by decide +kernel : decode prog_14_method_73_code 26 = .ok (.aload_n 0, 1))
theorem d_M_showsNow_27 : m_D k_M_showsNow 27 (.getfield 35) 3 := (by decide +kernel : decode prog_14_method_73_code 27 = .ok (.getfield 35, 3))
theorem d_M_showsNow_30 : m_D k_M_showsNow 30 (.bipush 7) 2 := (by decide +kernel : decode prog_14_method_73_code 30 = .ok (.bipush 7, 2))
theorem d_M_showsNow_32 : m_D k_M_showsNow 32 (.iload_n 1) 1 := (by decide +kernel : decode prog_14_method_73_code 32 = .ok (.iload_n 1, 1))
theorem d_M_showsNow_33 : m_D k_M_showsNow 33 (.iadd) 1 := (by decide +kernel : decode prog_14_method_73_code 33 = .ok (.iadd, 1))
theorem d_M_showsNow_34 : m_D k_M_showsNow 34 (.iaload) 1 := (by decide +kernel : decode prog_14_method_73_code 34 = .ok (.iaload, 1))
theorem d_M_showsNow_35 : m_D k_M_showsNow 35 (.aload_n 0) 1 := (by decide +kernel : decode prog_14_method_73_code 35 = .ok (.aload_n 0, 1))
theorem d_M_showsNow_36 : m_D k_M_showsNow 36 (.getfield 35) 3 := (by decide +kernel : decode prog_14_method_73_code 36 = .ok (.getfield 35, 3))
theorem d_M_showsNow_39 : m_D k_M_showsNow 39 (.iconst 2) 1 := (by decide +kernel : decode prog_14_method_73_code 39 = .ok (.iconst 2, 1))
theorem d_M_showsNow_40 : m_D k_M_showsNow 40 (.iaload) 1 := (by decide +kernel : decode prog_14_method_73_code 40 = .ok (.iaload, 1))
theorem d_M_showsNow_41 : m_D k_M_showsNow 41 (.if_icmp .lt 7) 3 := (by decide +kernel : decode prog_14_method_73_code 41 = .ok (.if_icmp .lt 7, 3))
theorem d_M_showsNow_44 : m_D k_M_showsNow 44 (.iconst 1) 1 := (by decide +kernel : decode prog_14_method_73_code 44 = .ok (.iconst 1, 1))
theorem d_M_showsNow_45 : m_D k_M_showsNow 45 (.goto 4) 3 := (by decide +kernel : decode prog_14_method_73_code 45 = .ok (.goto 4, 3))
theorem d_M_showsNow_48 : m_D k_M_showsNow 48 (.iconst 0) 1 := (by decide +kernel : decode prog_14_method_73_code 48 = .ok (.iconst 0, 1))
theorem d_M_showsNow_49 : m_D k_M_showsNow 49 (.ireturn) 1 := (by decide +kernel : decode prog_14_method_73_code 49 = .ok (.ireturn, 1))
def fn_M_showsNow (x0 : Option mA) (x1 : Int32) : mP Int32 :=
  m_th 11 x0 <|
  m_bd (m_gR 11 20 x0) fun v1 =>
  m_bd (m_aI 0 v1 (19 + x1)) fun v2 =>
  if v2 = 1 then
    m_bd (m_gR 11 20 x0) fun v3 =>
    m_bd (m_aI 0 v3 (13 + x1)) fun v4 =>
    if v4 = 1 then
      m_bd (m_gR 11 20 x0) fun v5 =>
      m_bd (m_aI 0 v5 (7 + x1)) fun v6 =>
      m_bd (m_gR 11 20 x0) fun v7 =>
      m_bd (m_aI 0 v7 2) fun v8 =>
      if v6 < v8 then
        m_rt 0
      else
        m_rt 1
    else
      m_rt 0
  else
    m_rt 0
set_option maxHeartbeats 4000000 in
set_option maxRecDepth 100000 in
theorem sd_M_showsNow (x0 : Option mA) (x1 : Int32) : m_Sm k_M_showsNow 1 0 0 [.inr (.inr x0), .inl x1] (fn_M_showsNow x0 x1) (fun b => some (.inl b)) := by
  refine ⟨Nat.le_of_ble_eq_true rfl, ?_⟩
  refine sm_th ?_
  refine sm_aload_n (i := 0) (j := 0) (pc' := 1) d_M_showsNow_0 rfl rfl rfl ?_
  refine sm_getR (pc' := 4) d_M_showsNow_1 rfl fl_M_35 rfl rfl (fun v1 => ?_)
  refine sm_bipush (pc' := 6) d_M_showsNow_4 rfl ib_19 (sm_iload_n (i := 1) (j := 1) (pc' := 7) d_M_showsNow_6 rfl rfl rfl (sm_iadd (pc' := 8) d_M_showsNow_7 rfl ?_))
  refine sm_iald (pc' := 9) d_M_showsNow_8 rfl (fun v2 => ?_)
  refine sm_iconst (pc' := 10) d_M_showsNow_9 rfl ic_1 ?_
  refine sm_icmp_ne (tgt := 48) (pc' := 13) d_M_showsNow_10 rfl rfl ?_ ?_
  · refine sm_iconst (pc' := 49) d_M_showsNow_48 rfl ic_0 ?_
    exact sm_zreturn d_M_showsNow_49 rfl (by decide) rfl
  · refine sm_aload_n (i := 0) (j := 0) (pc' := 14) d_M_showsNow_13 rfl rfl rfl ?_
    refine sm_getR (pc' := 17) d_M_showsNow_14 rfl fl_M_35 rfl rfl (fun v3 => ?_)
    refine sm_bipush (pc' := 19) d_M_showsNow_17 rfl ib_13 (sm_iload_n (i := 1) (j := 1) (pc' := 20) d_M_showsNow_19 rfl rfl rfl (sm_iadd (pc' := 21) d_M_showsNow_20 rfl ?_))
    refine sm_iald (pc' := 22) d_M_showsNow_21 rfl (fun v4 => ?_)
    refine sm_iconst (pc' := 23) d_M_showsNow_22 rfl ic_1 ?_
    refine sm_icmp_ne (tgt := 48) (pc' := 26) d_M_showsNow_23 rfl rfl ?_ ?_
    · refine sm_iconst (pc' := 49) d_M_showsNow_48 rfl ic_0 ?_
      exact sm_zreturn d_M_showsNow_49 rfl (by decide) rfl
    · refine sm_aload_n (i := 0) (j := 0) (pc' := 27) d_M_showsNow_26 rfl rfl rfl ?_
      refine sm_getR (pc' := 30) d_M_showsNow_27 rfl fl_M_35 rfl rfl (fun v5 => ?_)
      refine sm_bipush (pc' := 32) d_M_showsNow_30 rfl ib_7 (sm_iload_n (i := 1) (j := 1) (pc' := 33) d_M_showsNow_32 rfl rfl rfl (sm_iadd (pc' := 34) d_M_showsNow_33 rfl ?_))
      refine sm_iald (pc' := 35) d_M_showsNow_34 rfl (fun v6 => ?_)
      refine sm_aload_n (i := 0) (j := 0) (pc' := 36) d_M_showsNow_35 rfl rfl rfl ?_
      refine sm_getR (pc' := 39) d_M_showsNow_36 rfl fl_M_35 rfl rfl (fun v7 => ?_)
      refine sm_iconst (pc' := 40) d_M_showsNow_39 rfl ic_2 ?_
      refine sm_iald (pc' := 41) d_M_showsNow_40 rfl (fun v8 => ?_)
      refine sm_icmp_lt (tgt := 48) (pc' := 44) d_M_showsNow_41 rfl rfl ?_ ?_
      · refine sm_iconst (pc' := 49) d_M_showsNow_48 rfl ic_0 ?_
        exact sm_zreturn d_M_showsNow_49 rfl (by decide) rfl
      · refine sm_iconst (pc' := 45) d_M_showsNow_44 rfl ic_1 (sm_goto (tgt := 49) d_M_showsNow_45 rfl ?_)
        exact sm_zreturn d_M_showsNow_49 rfl (by decide) rfl
theorem d_M_showing_0 : m_D k_M_showing 0 (.iconst 0) 1 := (by decide +kernel : decode prog_14_method_79_code 0 = .ok (.iconst 0, 1))
theorem d_M_showing_1 : m_D k_M_showing 1 (.istore_n 1) 1 := (by decide +kernel : decode prog_14_method_79_code 1 = .ok (.istore_n 1, 1))
theorem d_M_showing_2 : m_D k_M_showing 2 (.iconst 0) 1 := (by decide +kernel : decode prog_14_method_79_code 2 = .ok (.iconst 0, 1))
theorem d_M_showing_3 : m_D k_M_showing 3 (.istore_n 2) 1 := (by decide +kernel : decode prog_14_method_79_code 3 = .ok (.istore_n 2, 1))
theorem d_M_showing_4 : m_D k_M_showing 4 (.iload_n 2) 1 := (by decide +kernel : decode prog_14_method_79_code 4 = .ok (.iload_n 2, 1))
theorem d_M_showing_5 : m_D k_M_showing 5 (.aload_n 0) 1 := (by decide +kernel : decode prog_14_method_79_code 5 = .ok (.aload_n 0, 1))
theorem d_M_showing_6 : m_D k_M_showing 6 (.getfield 35) 3 := (by decide +kernel : decode prog_14_method_79_code 6 = .ok (.getfield 35, 3))
theorem d_M_showing_9 : m_D k_M_showing 9 (.iconst 0) 1 := (by decide +kernel : decode prog_14_method_79_code 9 = .ok (.iconst 0, 1))
theorem d_M_showing_10 : m_D k_M_showing 10 (.iaload) 1 := (by decide +kernel : decode prog_14_method_79_code 10 = .ok (.iaload, 1))
theorem d_M_showing_11 : m_D k_M_showing 11 (.if_icmp .ge 27) 3 := (by decide +kernel : decode prog_14_method_79_code 11 = .ok (.if_icmp .ge 27, 3))
theorem d_M_showing_14 : m_D k_M_showing 14 (.iload_n 1) 1 := (by decide +kernel : decode prog_14_method_79_code 14 = .ok (.iload_n 1, 1))
theorem d_M_showing_15 : m_D k_M_showing 15 (.aload_n 0) 1 := (by decide +kernel : decode prog_14_method_79_code 15 = .ok (.aload_n 0, 1))
theorem d_M_showing_16 : m_D k_M_showing 16 (.iload_n 2) 1 := (by decide +kernel : decode prog_14_method_79_code 16 = .ok (.iload_n 2, 1))
theorem d_M_showing_17 : m_D k_M_showing 17 (.invokevirtual 313) 3 := (by decide +kernel : decode prog_14_method_79_code 17 = .ok (.invokevirtual 313, 3))
theorem d_M_showing_20 : m_D k_M_showing 20 (.ifCond .eq 9) 3 := (by decide +kernel : decode prog_14_method_79_code 20 = .ok (.ifCond .eq 9, 3))
theorem d_M_showing_23 : m_D k_M_showing 23 (.iconst 1) 1 := (by decide +kernel : decode prog_14_method_79_code 23 = .ok (.iconst 1, 1))
theorem d_M_showing_24 : m_D k_M_showing 24 (.iload_n 2) 1 := (by decide +kernel : decode prog_14_method_79_code 24 = .ok (.iload_n 2, 1))
theorem d_M_showing_25 : m_D k_M_showing 25 (.ishl) 1 := (by decide +kernel : decode prog_14_method_79_code 25 = .ok (.ishl, 1))
theorem d_M_showing_26 : m_D k_M_showing 26 (.goto 4) 3 := (by decide +kernel : decode prog_14_method_79_code 26 = .ok (.goto 4, 3))
theorem d_M_showing_29 : m_D k_M_showing 29 (.iconst 0) 1 := (by decide +kernel : decode prog_14_method_79_code 29 = .ok (.iconst 0, 1))
theorem d_M_showing_30 : m_D k_M_showing 30 (.ior) 1 := (by decide +kernel : decode prog_14_method_79_code 30 = .ok (.ior, 1))
theorem d_M_showing_31 : m_D k_M_showing 31 (.istore_n 1) 1 := (by decide +kernel : decode prog_14_method_79_code 31 = .ok (.istore_n 1, 1))
theorem d_M_showing_32 : m_D k_M_showing 32 (.iinc 2 1) 3 := (by decide +kernel : decode prog_14_method_79_code 32 = .ok (.iinc 2 1, 3))
theorem d_M_showing_35 : m_D k_M_showing 35 (.goto (-31)) 3 := (by decide +kernel : decode prog_14_method_79_code 35 = .ok (.goto (-31), 3))
theorem d_M_showing_38 : m_D k_M_showing 38 (.iload_n 1) 1 := (by decide +kernel : decode prog_14_method_79_code 38 = .ok (.iload_n 1, 1))
theorem d_M_showing_39 : m_D k_M_showing 39 (.ireturn) 1 := (by decide +kernel : decode prog_14_method_79_code 39 = .ok (.ireturn, 1))
def fn_M_showing_l4 (x0 : Option mA) (t1 : Int32 × Int32) : mP ((Int32 × Int32) ⊕ (Int32)) :=
  m_bd (m_gR 11 20 x0) fun v2 =>
  m_bd (m_aI 0 v2 0) fun v3 =>
  if v3 ≤ t1.2 then
    m_rt (.inr t1.1)
  else
    m_bd (fn_M_showsNow x0 t1.2) fun v4 =>
    m_bd (α := Int32) (
      if v4 = 0 then
        m_rt 0
      else
        m_rt (1 <<< (t1.2 &&& 31))
      ) fun (t5 : Int32) =>
    m_rt (.inl ((t1.1 ||| t5), (t1.2 + 1)))
def fn_M_showing (x0 : Option mA) : mP Int32 :=
  m_th 11 x0 <|
  m_bd (m_lp (fn_M_showing_l4 x0) m_F (0, 0)) fun (t6 : Int32) =>
  m_rt t6
set_option maxHeartbeats 4000000 in
set_option maxRecDepth 100000 in
theorem sd_M_showing (x0 : Option mA) : m_Sm k_M_showing 2 0 0 [.inr (.inr x0)] (fn_M_showing x0) (fun b => some (.inl b)) := by
  refine ⟨Nat.le_of_ble_eq_true rfl, ?_⟩
  refine sm_th ?_
  refine sm_iconst (pc' := 1) d_M_showing_0 rfl ic_0 (sm_istore_n (i := 1) (L' := [(1, .inl 0), (0, .inr (.inr x0))]) (pc' := 2) d_M_showing_1 rfl rfl (Nat.le_of_ble_eq_true rfl) rfl (sm_iconst (pc' := 3) d_M_showing_2 rfl ic_0 (sm_istore_n (i := 2) (L' := [(2, .inl 0), (1, .inl 0), (0, .inr (.inr x0))]) (pc' := 4) d_M_showing_3 rfl rfl (Nat.le_of_ble_eq_true rfl) rfl ?_)))
  refine sm_sub [1, 0, 2] rfl ?_
  refine sm_bd (mid := fun (t6 : Int32) => .inl (38, [(1, .inl t6)], [])) (sm_lp (hd := fun (t1 : Int32 × Int32) => (.inl (4, [(1, .inl t1.1), (2, .inl t1.2), (0, .inr (.inr x0))], []) : mC)) (fun t1 => ?_) m_F (0, 0)) (fun t6 => ?_)
  · refine sm_iload_n (i := 2) (j := 1) (pc' := 5) d_M_showing_4 rfl rfl rfl (sm_aload_n (i := 0) (j := 2) (pc' := 6) d_M_showing_5 rfl rfl rfl ?_)
    refine sm_getR (pc' := 9) d_M_showing_6 rfl fl_M_35 rfl rfl (fun v2 => ?_)
    refine sm_iconst (pc' := 10) d_M_showing_9 rfl ic_0 ?_
    refine sm_iald (pc' := 11) d_M_showing_10 rfl (fun v3 => ?_)
    refine sm_icmp_ge (tgt := 38) (pc' := 14) d_M_showing_11 rfl rfl ?_ ?_
    · refine sm_sub [0] rfl ?_
      exact sm_rt rfl
    · refine sm_iload_n (i := 1) (j := 0) (pc' := 15) d_M_showing_14 rfl rfl rfl (sm_aload_n (i := 0) (j := 2) (pc' := 16) d_M_showing_15 rfl rfl rfl (sm_iload_n (i := 2) (j := 1) (pc' := 17) d_M_showing_16 rfl rfl rfl ?_))
      refine sm_callVi (ci := 11) (x := x0) (av := [.inl t1.2]) (st := [.inl t1.1]) (mc := 0) (ms := 0) (pc' := 20) d_M_showing_17 rfl (sd_M_showsNow x0 t1.2) m_lv rfl cv_M_showsNow w_ml_M_313 rfl rfl (by decide) (Nat.le_of_ble_eq_true rfl) rfl rfl (fun v4 => ?_)
      refine sm_bd (mid := fun (t5 : Int32) => .inl (30, [(0, .inr (.inr x0)), (2, .inl t1.2)], [.inl t5, .inl t1.1])) ?_ (fun t5 => ?_)
      · refine sm_if_eq (tgt := 29) (pc' := 23) d_M_showing_20 rfl rfl ?_ ?_
        · refine sm_iconst (pc' := 30) d_M_showing_29 rfl ic_0 (sm_sub [2, 1] rfl ?_)
          exact sm_rt rfl
        · refine sm_iconst (pc' := 24) d_M_showing_23 rfl ic_1 (sm_iload_n (i := 2) (j := 1) (pc' := 25) d_M_showing_24 rfl rfl rfl (sm_ishl (pc' := 26) d_M_showing_25 rfl (sm_goto (tgt := 30) d_M_showing_26 rfl (sm_sub [2, 1] rfl ?_))))
          exact sm_rt rfl
      · refine sm_ior (pc' := 31) d_M_showing_30 rfl (sm_istore_n (i := 1) (L' := [(1, .inl (t1.1 ||| t5)), (0, .inr (.inr x0)), (2, .inl t1.2)]) (pc' := 32) d_M_showing_31 rfl rfl (Nat.le_of_ble_eq_true rfl) rfl (sm_iinc (j := 2) (L' := [(2, .inl (t1.2 + 1)), (1, .inl (t1.1 ||| t5)), (0, .inr (.inr x0))]) (pc' := 35) d_M_showing_32 rfl (v := (t1.2 + 1)) rfl (ix_1 _) (Nat.le_of_ble_eq_true rfl) rfl (sm_goto (tgt := 4) d_M_showing_35 rfl (sm_sub [1, 0, 2] rfl ?_))))
        exact sm_rt rfl
  · refine sm_iload_n (i := 1) (j := 0) (pc' := 39) d_M_showing_38 rfl rfl rfl ?_
    exact sm_ireturn d_M_showing_39 rfl rfl
theorem d_M_isThrough_0 : m_D k_M_isThrough 0 (.aload_n 0) 1 := (by decide +kernel : decode prog_14_method_72_code 0 = .ok (.aload_n 0, 1))
theorem d_M_isThrough_1 : m_D k_M_isThrough 1 (.getfield 35) 3 := (by decide +kernel : decode prog_14_method_72_code 1 = .ok (.getfield 35, 3))
theorem d_M_isThrough_4 : m_D k_M_isThrough 4 (.bipush 41) 2 := (by decide +kernel : decode prog_14_method_72_code 4 = .ok (.bipush 41, 2))
theorem d_M_isThrough_6 : m_D k_M_isThrough 6 (.iload_n 1) 1 := (by decide +kernel : decode prog_14_method_72_code 6 = .ok (.iload_n 1, 1))
theorem d_M_isThrough_7 : m_D k_M_isThrough 7 (.iadd) 1 := (by decide +kernel : decode prog_14_method_72_code 7 = .ok (.iadd, 1))
theorem d_M_isThrough_8 : m_D k_M_isThrough 8 (.iaload) 1 := (by decide +kernel : decode prog_14_method_72_code 8 = .ok (.iaload, 1))
theorem d_M_isThrough_9 : m_D k_M_isThrough 9 (.aload_n 0) 1 := (by decide +kernel : decode prog_14_method_72_code 9 = .ok (.aload_n 0, 1))
theorem d_M_isThrough_10 : m_D k_M_isThrough 10 (.getfield 35) 3 := (by decide +kernel : decode prog_14_method_72_code 10 = .ok (.getfield 35, 3))
theorem d_M_isThrough_13 : m_D k_M_isThrough 13 (.bipush 25) 2 := (by decide +kernel : decode prog_14_method_72_code 13 = .ok (.bipush 25, 2))
theorem d_M_isThrough_15 : m_D k_M_isThrough 15 (.iload_n 1) 1 := (by decide +kernel : decode prog_14_method_72_code 15 = .ok (.iload_n 1, 1))
theorem d_M_isThrough_16 : m_D k_M_isThrough 16 (.iadd) 1 := (by decide +kernel : decode prog_14_method_72_code 16 = .ok (.iadd, 1))
theorem d_M_isThrough_17 : m_D k_M_isThrough 17 (.iaload) 1 := (by decide +kernel : decode prog_14_method_72_code 17 = .ok (.iaload, 1))
theorem d_M_isThrough_18 : m_D k_M_isThrough 18 (.if_icmp .lt 7) 3 := (by decide +kernel : decode prog_14_method_72_code 18 = .ok (.if_icmp .lt 7, 3))
theorem d_M_isThrough_21 : m_D k_M_isThrough 21 (.iconst 1) 1 := (by decide +kernel : decode prog_14_method_72_code 21 = .ok (.iconst 1, 1))
theorem d_M_isThrough_22 : m_D k_M_isThrough 22 (.goto 4) 3 := (by decide +kernel : decode prog_14_method_72_code 22 = .ok (.goto 4, 3))
theorem d_M_isThrough_25 : m_D k_M_isThrough 25 (.iconst 0) 1 := (by decide +kernel : decode prog_14_method_72_code 25 = .ok (.iconst 0, 1))
theorem d_M_isThrough_26 : m_D k_M_isThrough 26 (.ireturn) 1 := (by decide +kernel : decode prog_14_method_72_code 26 = .ok (.ireturn, 1))
def fn_M_isThrough (x0 : Option mA) (x1 : Int32) : mP Int32 :=
  m_th 11 x0 <|
  m_bd (m_gR 11 20 x0) fun v1 =>
  m_bd (m_aI 0 v1 (41 + x1)) fun v2 =>
  m_bd (m_gR 11 20 x0) fun v3 =>
  m_bd (m_aI 0 v3 (25 + x1)) fun v4 =>
  if v2 < v4 then
    m_rt 0
  else
    m_rt 1
set_option maxHeartbeats 4000000 in
set_option maxRecDepth 100000 in
theorem sd_M_isThrough (x0 : Option mA) (x1 : Int32) : m_Sm k_M_isThrough 1 0 0 [.inr (.inr x0), .inl x1] (fn_M_isThrough x0 x1) (fun b => some (.inl b)) := by
  refine ⟨Nat.le_of_ble_eq_true rfl, ?_⟩
  refine sm_th ?_
  refine sm_aload_n (i := 0) (j := 0) (pc' := 1) d_M_isThrough_0 rfl rfl rfl ?_
  refine sm_getR (pc' := 4) d_M_isThrough_1 rfl fl_M_35 rfl rfl (fun v1 => ?_)
  refine sm_bipush (pc' := 6) d_M_isThrough_4 rfl ib_41 (sm_iload_n (i := 1) (j := 1) (pc' := 7) d_M_isThrough_6 rfl rfl rfl (sm_iadd (pc' := 8) d_M_isThrough_7 rfl ?_))
  refine sm_iald (pc' := 9) d_M_isThrough_8 rfl (fun v2 => ?_)
  refine sm_aload_n (i := 0) (j := 0) (pc' := 10) d_M_isThrough_9 rfl rfl rfl ?_
  refine sm_getR (pc' := 13) d_M_isThrough_10 rfl fl_M_35 rfl rfl (fun v3 => ?_)
  refine sm_bipush (pc' := 15) d_M_isThrough_13 rfl ib_25 (sm_iload_n (i := 1) (j := 1) (pc' := 16) d_M_isThrough_15 rfl rfl rfl (sm_iadd (pc' := 17) d_M_isThrough_16 rfl ?_))
  refine sm_iald (pc' := 18) d_M_isThrough_17 rfl (fun v4 => ?_)
  refine sm_icmp_lt (tgt := 25) (pc' := 21) d_M_isThrough_18 rfl rfl ?_ ?_
  · refine sm_iconst (pc' := 26) d_M_isThrough_25 rfl ic_0 ?_
    exact sm_zreturn d_M_isThrough_26 rfl (by decide) rfl
  · refine sm_iconst (pc' := 22) d_M_isThrough_21 rfl ic_1 (sm_goto (tgt := 26) d_M_isThrough_22 rfl ?_)
    exact sm_zreturn d_M_isThrough_26 rfl (by decide) rfl
