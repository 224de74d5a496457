/-! 20.cls0, laid by wip/whole/gen.py -/
theorem d_Th_init_0 : m_D k_Th_init 0 (.aload_n 0) 1 := (by decide +kernel : decode prog_11_method_1_code 0 = .ok (.aload_n 0, 1))
theorem d_Th_init_1 : m_D k_Th_init 1 (.invokespecial 3) 3 := (by decide +kernel : decode prog_11_method_1_code 1 = .ok (.invokespecial 3, 3))
theorem d_Th_init_4 : m_D k_Th_init 4 (.return_) 1 := (by decide +kernel : decode prog_11_method_1_code 4 = .ok (.return_, 1))
def fn_Th_init (a0 : mA) : mP Unit :=
  m_th 5 (some a0) <|
  m_rt ()
set_option maxHeartbeats 4000000 in
set_option maxRecDepth 100000 in
theorem sd_Th_init (a0 : mA) : m_Sm k_Th_init 1 0 0 [.inr (.inr (some a0))] (fn_Th_init a0) (fun _ => none) := by
  refine ⟨Nat.le_of_ble_eq_true rfl, ?_⟩
  refine sm_th ?_
  refine sm_aload_n (i := 0) (j := 0) (pc' := 1) d_Th_init_0 rfl rfl rfl (sm_objInit (pc' := 4) d_Th_init_1 rfl w_ml_Th_3 w_im_java_lang_Object__init_ w_co_java_lang_Object__init_ (by decide) rfl ?_)
  exact sm_return d_Th_init_4 rfl rfl
theorem d_Ah_init_0 : m_D k_Ah_init 0 (.aload_n 0) 1 := (by decide +kernel : decode prog_2_method_1_code 0 = .ok (.aload_n 0, 1))
theorem d_Ah_init_1 : m_D k_Ah_init 1 (.invokespecial 3) 3 := (by decide +kernel : decode prog_2_method_1_code 1 = .ok (.invokespecial 3, 3))
theorem d_Ah_init_4 : m_D k_Ah_init 4 (.aload_n 0) 1 := (by decide +kernel : decode prog_2_method_1_code 4 = .ok (.aload_n 0, 1))
theorem d_Ah_init_5 : m_D k_Ah_init 5 (.new 9) 3 := (by decide +kernel : decode prog_2_method_1_code 5 = .ok (.new 9, 3))
theorem d_Ah_init_8 : m_D k_Ah_init 8 (.dup) 1 := (by decide +kernel : decode prog_2_method_1_code 8 = .ok (.dup, 1))
theorem d_Ah_init_9 : m_D k_Ah_init 9 (.invokespecial 11) 3 := (by decide +kernel : decode prog_2_method_1_code 9 = .ok (.invokespecial 11, 3))
theorem d_Ah_init_12 : m_D k_Ah_init 12 (.putfield 12) 3 := (by decide +kernel : decode prog_2_method_1_code 12 = .ok (.putfield 12, 3))
theorem d_Ah_init_15 : m_D k_Ah_init 15 (.aload_n 0) 1 := (by decide +kernel : decode prog_2_method_1_code 15 = .ok (.aload_n 0, 1))
theorem d_Ah_init_16 : m_D k_Ah_init 16 (.bipush 8) 2 := (by decide +kernel : decode prog_2_method_1_code 16 = .ok (.bipush 8, 2))
theorem d_Ah_init_18 : m_D k_Ah_init 18 (.newarray .int) 2 := (by decide +kernel : decode prog_2_method_1_code 18 = .ok (.newarray .int, 2))
theorem d_Ah_init_20 : m_D k_Ah_init 20 (.putfield 18) 3 := (by decide +kernel : decode prog_2_method_1_code 20 = .ok (.putfield 18, 3))
theorem d_Ah_init_23 : m_D k_Ah_init 23 (.aload_n 0) 1 := (by decide +kernel : decode prog_2_method_1_code 23 = .ok (.aload_n 0, 1))
theorem d_Ah_init_24 : m_D k_Ah_init 24 (.sipush 727) 3 := (by decide +kernel : decode prog_2_method_1_code 24 = .ok (.sipush 727, 3))
theorem d_Ah_init_27 : m_D k_Ah_init 27 (.newarray .int) 2 := (by decide +kernel : decode prog_2_method_1_code 27 = .ok (.newarray .int, 2))
theorem d_Ah_init_29 : m_D k_Ah_init 29 (.putfield 22) 3 := (by decide +kernel : decode prog_2_method_1_code 29 = .ok (.putfield 22, 3))
theorem d_Ah_init_32 : m_D k_Ah_init 32 (.return_) 1 := (by decide +kernel : decode prog_2_method_1_code 32 = .ok (.return_, 1))
def fn_Ah_init (a0 : mA) : mP Unit :=
  m_th 7 (some a0) <|
  m_bd (m_new 5) fun a1 =>
  m_bd (fn_Th_init a1) fun _ =>
  m_bd (m_pR 7 1 (some a0) (some a1)) fun _ =>
  m_bd (m_nea 0 8) fun a2 =>
  m_bd (m_pR 7 2 (some a0) (some a2)) fun _ =>
  m_bd (m_nea 0 727) fun a3 =>
  m_bd (m_pR 7 3 (some a0) (some a3)) fun _ =>
  m_rt ()
set_option maxHeartbeats 4000000 in
set_option maxRecDepth 100000 in
theorem sd_Ah_init (a0 : mA) : m_Sm k_Ah_init 2 3 740 [.inr (.inr (some a0))] (fn_Ah_init a0) (fun _ => none) := by
  refine ⟨Nat.le_of_ble_eq_true rfl, ?_⟩
  refine sm_th ?_
  refine sm_aload_n (i := 0) (j := 0) (pc' := 1) d_Ah_init_0 rfl rfl rfl (sm_objInit (pc' := 4) d_Ah_init_1 rfl w_ml_Ah_3 w_im_java_lang_Object__init_ w_co_java_lang_Object__init_ (by decide) rfl (sm_aload_n (i := 0) (j := 0) (pc' := 5) d_Ah_init_4 rfl rfl rfl ?_))
  refine sm_new (mc := 2) (ms := 735) (pc' := 8) d_Ah_init_5 rfl nw_Ah_9 rfl rfl (fun a1 => ?_)
  refine sm_dup (pc' := 9) d_Ah_init_8 rfl rfl (sm_callI (av := []) (x := (some a1)) (st := [.inr (.inr (some a1)), .inr (.inr (some a0))]) (mc := 2) (ms := 735) (pc' := 12) d_Ah_init_9 rfl (sd_Th_init a1) (fun _ _ _ => rfl) ci_Th_init (Or.inr ⟨"RustFamily", by decide⟩) rfl rfl (by decide) (Nat.le_of_ble_eq_true rfl) rfl rfl (sm_putR (pc' := 15) d_Ah_init_12 rfl fl_Ah_12 rfl (Or.inr ⟨rfl, rfl⟩) rfl (sm_aload_n (i := 0) (j := 0) (pc' := 16) d_Ah_init_15 rfl rfl rfl (sm_bipush (pc' := 18) d_Ah_init_16 rfl ib_8 ?_))))
  refine sm_nea (t := 0) (mc := 1) (ms := 727) (pc' := 20) d_Ah_init_18 rfl rfl (by decide) w_ac_int (by decide) (by decide) (by decide) rfl rfl (fun a2 => ?_)
  refine sm_putR (pc' := 23) d_Ah_init_20 rfl fl_Ah_18 rfl (Or.inr ⟨rfl, rfl⟩) rfl (sm_aload_n (i := 0) (j := 0) (pc' := 24) d_Ah_init_23 rfl rfl rfl (sm_sipush (pc' := 27) d_Ah_init_24 rfl is_727 ?_))
  refine sm_nea (t := 0) (mc := 0) (ms := 0) (pc' := 29) d_Ah_init_27 rfl rfl (by decide) w_ac_int (by decide) (by decide) (by decide) rfl rfl (fun a3 => ?_)
  refine sm_putR (pc' := 32) d_Ah_init_29 rfl fl_Ah_22 rfl (Or.inr ⟨rfl, rfl⟩) rfl ?_
  exact sm_return d_Ah_init_32 rfl rfl
theorem d_Pe_init_0 : m_D k_Pe_init 0 (.aload_n 0) 1 := (by decide +kernel : decode prog_6_method_1_code 0 = .ok (.aload_n 0, 1))
theorem d_Pe_init_1 : m_D k_Pe_init 1 (.invokespecial 3) 3 := (by decide +kernel : decode prog_6_method_1_code 1 = .ok (.invokespecial 3, 3))
theorem d_Pe_init_4 : m_D k_Pe_init 4 (.aload_n 0) 1 := (by decide +kernel : decode prog_6_method_1_code 4 = .ok (.aload_n 0, 1))
theorem d_Pe_init_5 : m_D k_Pe_init 5 (.bipush 8) 2 := (by decide +kernel : decode prog_6_method_1_code 5 = .ok (.bipush 8, 2))
theorem d_Pe_init_7 : m_D k_Pe_init 7 (.newarray .int) 2 := (by decide +kernel : decode prog_6_method_1_code 7 = .ok (.newarray .int, 2))
theorem d_Pe_init_9 : m_D k_Pe_init 9 (.putfield 9) 3 := (by decide +kernel : decode prog_6_method_1_code 9 = .ok (.putfield 9, 3))
theorem d_Pe_init_12 : m_D k_Pe_init 12 (.return_) 1 := (by decide +kernel : decode prog_6_method_1_code 12 = .ok (.return_, 1))
def fn_Pe_init (a0 : mA) : mP Unit :=
  m_th 4 (some a0) <|
  m_bd (m_nea 0 8) fun a1 =>
  m_bd (m_pR 4 4 (some a0) (some a1)) fun _ =>
  m_rt ()
set_option maxHeartbeats 4000000 in
set_option maxRecDepth 100000 in
theorem sd_Pe_init (a0 : mA) : m_Sm k_Pe_init 1 1 8 [.inr (.inr (some a0))] (fn_Pe_init a0) (fun _ => none) := by
  refine ⟨Nat.le_of_ble_eq_true rfl, ?_⟩
  refine sm_th ?_
  refine sm_aload_n (i := 0) (j := 0) (pc' := 1) d_Pe_init_0 rfl rfl rfl (sm_objInit (pc' := 4) d_Pe_init_1 rfl w_ml_Pe_3 w_im_java_lang_Object__init_ w_co_java_lang_Object__init_ (by decide) rfl (sm_aload_n (i := 0) (j := 0) (pc' := 5) d_Pe_init_4 rfl rfl rfl (sm_bipush (pc' := 7) d_Pe_init_5 rfl ib_8 ?_)))
  refine sm_nea (t := 0) (mc := 0) (ms := 0) (pc' := 9) d_Pe_init_7 rfl rfl (by decide) w_ac_int (by decide) (by decide) (by decide) rfl rfl (fun a1 => ?_)
  refine sm_putR (pc' := 12) d_Pe_init_9 rfl fl_Pe_9 rfl (Or.inr ⟨rfl, rfl⟩) rfl ?_
  exact sm_return d_Pe_init_12 rfl rfl
theorem d_Pl_init_0 : m_D k_Pl_init 0 (.aload_n 0) 1 := (by decide +kernel : decode prog_7_method_1_code 0 = .ok (.aload_n 0, 1))
theorem d_Pl_init_1 : m_D k_Pl_init 1 (.invokespecial 3) 3 := (by decide +kernel : decode prog_7_method_1_code 1 = .ok (.invokespecial 3, 3))
theorem d_Pl_init_4 : m_D k_Pl_init 4 (.aload_n 0) 1 := (by decide +kernel : decode prog_7_method_1_code 4 = .ok (.aload_n 0, 1))
theorem d_Pl_init_5 : m_D k_Pl_init 5 (.bipush 30) 2 := (by decide +kernel : decode prog_7_method_1_code 5 = .ok (.bipush 30, 2))
theorem d_Pl_init_7 : m_D k_Pl_init 7 (.newarray .int) 2 := (by decide +kernel : decode prog_7_method_1_code 7 = .ok (.newarray .int, 2))
theorem d_Pl_init_9 : m_D k_Pl_init 9 (.putfield 11) 3 := (by decide +kernel : decode prog_7_method_1_code 9 = .ok (.putfield 11, 3))
theorem d_Pl_init_12 : m_D k_Pl_init 12 (.aload_n 0) 1 := (by decide +kernel : decode prog_7_method_1_code 12 = .ok (.aload_n 0, 1))
theorem d_Pl_init_13 : m_D k_Pl_init 13 (.bipush 30) 2 := (by decide +kernel : decode prog_7_method_1_code 13 = .ok (.bipush 30, 2))
theorem d_Pl_init_15 : m_D k_Pl_init 15 (.newarray .int) 2 := (by decide +kernel : decode prog_7_method_1_code 15 = .ok (.newarray .int, 2))
theorem d_Pl_init_17 : m_D k_Pl_init 17 (.putfield 15) 3 := (by decide +kernel : decode prog_7_method_1_code 17 = .ok (.putfield 15, 3))
theorem d_Pl_init_20 : m_D k_Pl_init 20 (.aload_n 0) 1 := (by decide +kernel : decode prog_7_method_1_code 20 = .ok (.aload_n 0, 1))
theorem d_Pl_init_21 : m_D k_Pl_init 21 (.bipush 30) 2 := (by decide +kernel : decode prog_7_method_1_code 21 = .ok (.bipush 30, 2))
theorem d_Pl_init_23 : m_D k_Pl_init 23 (.newarray .int) 2 := (by decide +kernel : decode prog_7_method_1_code 23 = .ok (.newarray .int, 2))
theorem d_Pl_init_25 : m_D k_Pl_init 25 (.putfield 18) 3 := (by decide +kernel : decode prog_7_method_1_code 25 = .ok (.putfield 18, 3))
theorem d_Pl_init_28 : m_D k_Pl_init 28 (.aload_n 0) 1 := (by decide +kernel : decode prog_7_method_1_code 28 = .ok (.aload_n 0, 1))
theorem d_Pl_init_29 : m_D k_Pl_init 29 (.bipush 30) 2 := (by decide +kernel : decode prog_7_method_1_code 29 = .ok (.bipush 30, 2))
theorem d_Pl_init_31 : m_D k_Pl_init 31 (.newarray .int) 2 := (by decide +kernel : decode prog_7_method_1_code 31 = .ok (.newarray .int, 2))
theorem d_Pl_init_33 : m_D k_Pl_init 33 (.putfield 21) 3 := (by decide +kernel : decode prog_7_method_1_code 33 = .ok (.putfield 21, 3))
theorem d_Pl_init_36 : m_D k_Pl_init 36 (.aload_n 0) 1 := (by decide +kernel : decode prog_7_method_1_code 36 = .ok (.aload_n 0, 1))
theorem d_Pl_init_37 : m_D k_Pl_init 37 (.bipush 30) 2 := (by decide +kernel : decode prog_7_method_1_code 37 = .ok (.bipush 30, 2))
theorem d_Pl_init_39 : m_D k_Pl_init 39 (.newarray .int) 2 := (by decide +kernel : decode prog_7_method_1_code 39 = .ok (.newarray .int, 2))
theorem d_Pl_init_41 : m_D k_Pl_init 41 (.putfield 24) 3 := (by decide +kernel : decode prog_7_method_1_code 41 = .ok (.putfield 24, 3))
theorem d_Pl_init_44 : m_D k_Pl_init 44 (.aload_n 0) 1 := (by decide +kernel : decode prog_7_method_1_code 44 = .ok (.aload_n 0, 1))
theorem d_Pl_init_45 : m_D k_Pl_init 45 (.iconst 3) 1 := (by decide +kernel : decode prog_7_method_1_code 45 = .ok (.iconst 3, 1))
theorem d_Pl_init_46 : m_D k_Pl_init 46 (.newarray .int) 2 := (by decide +kernel : decode prog_7_method_1_code 46 = .ok (.newarray .int, 2))
theorem d_Pl_init_48 : m_D k_Pl_init 48 (.putfield 27) 3 := (by decide +kernel : decode prog_7_method_1_code 48 = .ok (.putfield 27, 3))
theorem d_Pl_init_51 : m_D k_Pl_init 51 (.aload_n 0) 1 := (by decide +kernel : decode prog_7_method_1_code 51 = .ok (.aload_n 0, 1))
theorem d_Pl_init_52 : m_D k_Pl_init 52 (.iconst 3) 1 := (by decide +kernel : decode prog_7_method_1_code 52 = .ok (.iconst 3, 1))
theorem d_Pl_init_53 : m_D k_Pl_init 53 (.newarray .int) 2 := (by decide +kernel : decode prog_7_method_1_code 53 = .ok (.newarray .int, 2))
theorem d_Pl_init_55 : m_D k_Pl_init 55 (.putfield 30) 3 := (by decide +kernel : decode prog_7_method_1_code 55 = .ok (.putfield 30, 3))
theorem d_Pl_init_58 : m_D k_Pl_init 58 (.return_) 1 := (by decide +kernel : decode prog_7_method_1_code 58 = .ok (.return_, 1))
def fn_Pl_init (a0 : mA) : mP Unit :=
  m_th 6 (some a0) <|
  m_bd (m_nea 0 30) fun a1 =>
  m_bd (m_pR 6 2 (some a0) (some a1)) fun _ =>
  m_bd (m_nea 0 30) fun a2 =>
  m_bd (m_pR 6 3 (some a0) (some a2)) fun _ =>
  m_bd (m_nea 0 30) fun a3 =>
  m_bd (m_pR 6 4 (some a0) (some a3)) fun _ =>
  m_bd (m_nea 0 30) fun a4 =>
  m_bd (m_pR 6 5 (some a0) (some a4)) fun _ =>
  m_bd (m_nea 0 30) fun a5 =>
  m_bd (m_pR 6 6 (some a0) (some a5)) fun _ =>
  m_bd (m_nea 0 3) fun a6 =>
  m_bd (m_pR 6 11 (some a0) (some a6)) fun _ =>
  m_bd (m_nea 0 3) fun a7 =>
  m_bd (m_pR 6 12 (some a0) (some a7)) fun _ =>
  m_rt ()
set_option maxHeartbeats 4000000 in
set_option maxRecDepth 100000 in
theorem sd_Pl_init (a0 : mA) : m_Sm k_Pl_init 1 7 156 [.inr (.inr (some a0))] (fn_Pl_init a0) (fun _ => none) := by
  refine ⟨Nat.le_of_ble_eq_true rfl, ?_⟩
  refine sm_th ?_
  refine sm_aload_n (i := 0) (j := 0) (pc' := 1) d_Pl_init_0 rfl rfl rfl (sm_objInit (pc' := 4) d_Pl_init_1 rfl w_ml_Pl_3 w_im_java_lang_Object__init_ w_co_java_lang_Object__init_ (by decide) rfl (sm_aload_n (i := 0) (j := 0) (pc' := 5) d_Pl_init_4 rfl rfl rfl (sm_bipush (pc' := 7) d_Pl_init_5 rfl ib_30 ?_)))
  refine sm_nea (t := 0) (mc := 6) (ms := 126) (pc' := 9) d_Pl_init_7 rfl rfl (by decide) w_ac_int (by decide) (by decide) (by decide) rfl rfl (fun a1 => ?_)
  refine sm_putR (pc' := 12) d_Pl_init_9 rfl fl_Pl_11 rfl (Or.inr ⟨rfl, rfl⟩) rfl (sm_aload_n (i := 0) (j := 0) (pc' := 13) d_Pl_init_12 rfl rfl rfl (sm_bipush (pc' := 15) d_Pl_init_13 rfl ib_30 ?_))
  refine sm_nea (t := 0) (mc := 5) (ms := 96) (pc' := 17) d_Pl_init_15 rfl rfl (by decide) w_ac_int (by decide) (by decide) (by decide) rfl rfl (fun a2 => ?_)
  refine sm_putR (pc' := 20) d_Pl_init_17 rfl fl_Pl_15 rfl (Or.inr ⟨rfl, rfl⟩) rfl (sm_aload_n (i := 0) (j := 0) (pc' := 21) d_Pl_init_20 rfl rfl rfl (sm_bipush (pc' := 23) d_Pl_init_21 rfl ib_30 ?_))
  refine sm_nea (t := 0) (mc := 4) (ms := 66) (pc' := 25) d_Pl_init_23 rfl rfl (by decide) w_ac_int (by decide) (by decide) (by decide) rfl rfl (fun a3 => ?_)
  refine sm_putR (pc' := 28) d_Pl_init_25 rfl fl_Pl_18 rfl (Or.inr ⟨rfl, rfl⟩) rfl (sm_aload_n (i := 0) (j := 0) (pc' := 29) d_Pl_init_28 rfl rfl rfl (sm_bipush (pc' := 31) d_Pl_init_29 rfl ib_30 ?_))
  refine sm_nea (t := 0) (mc := 3) (ms := 36) (pc' := 33) d_Pl_init_31 rfl rfl (by decide) w_ac_int (by decide) (by decide) (by decide) rfl rfl (fun a4 => ?_)
  refine sm_putR (pc' := 36) d_Pl_init_33 rfl fl_Pl_21 rfl (Or.inr ⟨rfl, rfl⟩) rfl (sm_aload_n (i := 0) (j := 0) (pc' := 37) d_Pl_init_36 rfl rfl rfl (sm_bipush (pc' := 39) d_Pl_init_37 rfl ib_30 ?_))
  refine sm_nea (t := 0) (mc := 2) (ms := 6) (pc' := 41) d_Pl_init_39 rfl rfl (by decide) w_ac_int (by decide) (by decide) (by decide) rfl rfl (fun a5 => ?_)
  refine sm_putR (pc' := 44) d_Pl_init_41 rfl fl_Pl_24 rfl (Or.inr ⟨rfl, rfl⟩) rfl (sm_aload_n (i := 0) (j := 0) (pc' := 45) d_Pl_init_44 rfl rfl rfl (sm_iconst (pc' := 46) d_Pl_init_45 rfl ic_3 ?_))
  refine sm_nea (t := 0) (mc := 1) (ms := 3) (pc' := 48) d_Pl_init_46 rfl rfl (by decide) w_ac_int (by decide) (by decide) (by decide) rfl rfl (fun a6 => ?_)
  refine sm_putR (pc' := 51) d_Pl_init_48 rfl fl_Pl_27 rfl (Or.inr ⟨rfl, rfl⟩) rfl (sm_aload_n (i := 0) (j := 0) (pc' := 52) d_Pl_init_51 rfl rfl rfl (sm_iconst (pc' := 53) d_Pl_init_52 rfl ic_3 ?_))
  refine sm_nea (t := 0) (mc := 0) (ms := 0) (pc' := 55) d_Pl_init_53 rfl rfl (by decide) w_ac_int (by decide) (by decide) (by decide) rfl rfl (fun a7 => ?_)
  refine sm_putR (pc' := 58) d_Pl_init_55 rfl fl_Pl_30 rfl (Or.inr ⟨rfl, rfl⟩) rfl ?_
  exact sm_return d_Pl_init_58 rfl rfl
theorem d_Fa_init_0 : m_D k_Fa_init 0 (.aload_n 0) 1 := (by decide +kernel : decode prog_3_method_1_code 0 = .ok (.aload_n 0, 1))
theorem d_Fa_init_1 : m_D k_Fa_init 1 (.invokespecial 3) 3 := (by decide +kernel : decode prog_3_method_1_code 1 = .ok (.invokespecial 3, 3))
theorem d_Fa_init_4 : m_D k_Fa_init 4 (.aload_n 0) 1 := (by decide +kernel : decode prog_3_method_1_code 4 = .ok (.aload_n 0, 1))
theorem d_Fa_init_5 : m_D k_Fa_init 5 (.bipush 40) 2 := (by decide +kernel : decode prog_3_method_1_code 5 = .ok (.bipush 40, 2))
theorem d_Fa_init_7 : m_D k_Fa_init 7 (.putfield 11) 3 := (by decide +kernel : decode prog_3_method_1_code 7 = .ok (.putfield 11, 3))
theorem d_Fa_init_10 : m_D k_Fa_init 10 (.aload_n 0) 1 := (by decide +kernel : decode prog_3_method_1_code 10 = .ok (.aload_n 0, 1))
theorem d_Fa_init_11 : m_D k_Fa_init 11 (.bipush 70) 2 := (by decide +kernel : decode prog_3_method_1_code 11 = .ok (.bipush 70, 2))
theorem d_Fa_init_13 : m_D k_Fa_init 13 (.putfield 15) 3 := (by decide +kernel : decode prog_3_method_1_code 13 = .ok (.putfield 15, 3))
theorem d_Fa_init_16 : m_D k_Fa_init 16 (.aload_n 0) 1 := (by decide +kernel : decode prog_3_method_1_code 16 = .ok (.aload_n 0, 1))
theorem d_Fa_init_17 : m_D k_Fa_init 17 (.iconst 4) 1 := (by decide +kernel : decode prog_3_method_1_code 17 = .ok (.iconst 4, 1))
theorem d_Fa_init_18 : m_D k_Fa_init 18 (.putfield 18) 3 := (by decide +kernel : decode prog_3_method_1_code 18 = .ok (.putfield 18, 3))
theorem d_Fa_init_21 : m_D k_Fa_init 21 (.aload_n 0) 1 := (by decide +kernel : decode prog_3_method_1_code 21 = .ok (.aload_n 0, 1))
theorem d_Fa_init_22 : m_D k_Fa_init 22 (.iconst 3) 1 := (by decide +kernel : decode prog_3_method_1_code 22 = .ok (.iconst 3, 1))
theorem d_Fa_init_23 : m_D k_Fa_init 23 (.putfield 21) 3 := (by decide +kernel : decode prog_3_method_1_code 23 = .ok (.putfield 21, 3))
theorem d_Fa_init_26 : m_D k_Fa_init 26 (.aload_n 0) 1 := (by decide +kernel : decode prog_3_method_1_code 26 = .ok (.aload_n 0, 1))
theorem d_Fa_init_27 : m_D k_Fa_init 27 (.bipush 6) 2 := (by decide +kernel : decode prog_3_method_1_code 27 = .ok (.bipush 6, 2))
theorem d_Fa_init_29 : m_D k_Fa_init 29 (.anewarray 24) 3 := (by decide +kernel : decode prog_3_method_1_code 29 = .ok (.anewarray 24, 3))
theorem d_Fa_init_32 : m_D k_Fa_init 32 (.putfield 26) 3 := (by decide +kernel : decode prog_3_method_1_code 32 = .ok (.putfield 26, 3))
theorem d_Fa_init_35 : m_D k_Fa_init 35 (.iconst 0) 1 := (by decide +kernel : decode prog_3_method_1_code 35 = .ok (.iconst 0, 1))
theorem d_Fa_init_36 : m_D k_Fa_init 36 (.istore_n 1) 1 := (by decide +kernel : decode prog_3_method_1_code 36 = .ok (.istore_n 1, 1))
theorem d_Fa_init_37 : m_D k_Fa_init 37 (.iload_n 1) 1 := (by decide +kernel : decode prog_3_method_1_code 37 = .ok (.iload_n 1, 1))
theorem d_Fa_init_38 : m_D k_Fa_init 38 (.bipush 6) 2 := (by decide +kernel : decode prog_3_method_1_code 38 = .ok (.bipush 6, 2))
theorem d_Fa_init_40 : m_D k_Fa_init 40 (.if_icmp .ge 22) 3 := (by decide +kernel : decode prog_3_method_1_code 40 = .ok (.if_icmp .ge 22, 3))
theorem d_Fa_init_43 : m_D k_Fa_init 43 (.aload_n 0) 1 := (by decide +kernel : decode prog_3_method_1_code 43 = .ok (.aload_n 0, 1))
theorem d_Fa_init_44 : m_D k_Fa_init 44 (.getfield 26) 3 := (by decide +kernel : decode prog_3_method_1_code 44 = .ok (.getfield 26, 3))
theorem d_Fa_init_47 : m_D k_Fa_init 47 (.iload_n 1) 1 := (by decide +kernel : decode prog_3_method_1_code 47 = .ok (.iload_n 1, 1))
theorem d_Fa_init_48 : m_D k_Fa_init 48 (.new 24) 3 := (by decide +kernel : decode prog_3_method_1_code 48 = .ok (.new 24, 3))
theorem d_Fa_init_51 : m_D k_Fa_init 51 (.dup) 1 := (by decide +kernel : decode prog_3_method_1_code 51 = .ok (.dup, 1))
theorem d_Fa_init_52 : m_D k_Fa_init 52 (.invokespecial 30) 3 := (by decide +kernel : decode prog_3_method_1_code 52 = .ok (.invokespecial 30, 3))
theorem d_Fa_init_55 : m_D k_Fa_init 55 (.aastore) 1 := (by decide +kernel : decode prog_3_method_1_code 55 = .ok (.aastore, 1))
theorem d_Fa_init_56 : m_D k_Fa_init 56 (.iinc 1 1) 3 := (by decide +kernel : decode prog_3_method_1_code 56 = .ok (.iinc 1 1, 3))
theorem d_Fa_init_59 : m_D k_Fa_init 59 (.goto (-22)) 3 := (by decide +kernel : decode prog_3_method_1_code 59 = .ok (.goto (-22), 3))
theorem d_Fa_init_62 : m_D k_Fa_init 62 (.aload_n 0) 1 := (by decide +kernel : decode prog_3_method_1_code 62 = .ok (.aload_n 0, 1))
theorem d_Fa_init_63 : m_D k_Fa_init 63 (.bipush 8) 2 := (by decide +kernel : decode prog_3_method_1_code 63 = .ok (.bipush 8, 2))
theorem d_Fa_init_65 : m_D k_Fa_init 65 (.anewarray 31) 3 := (by decide +kernel : decode prog_3_method_1_code 65 = .ok (.anewarray 31, 3))
theorem d_Fa_init_68 : m_D k_Fa_init 68 (.putfield 33) 3 := (by decide +kernel : decode prog_3_method_1_code 68 = .ok (.putfield 33, 3))
theorem d_Fa_init_71 : m_D k_Fa_init 71 (.iconst 0) 1 := (by decide +kernel : decode prog_3_method_1_code 71 = .ok (.iconst 0, 1))
theorem d_Fa_init_72 : m_D k_Fa_init 72 (.istore_n 1) 1 := (by decide +kernel : decode prog_3_method_1_code 72 = .ok (.istore_n 1, 1))
theorem d_Fa_init_73 : m_D k_Fa_init 73 (.iload_n 1) 1 := (by decide +kernel : decode prog_3_method_1_code 73 = .ok (.iload_n 1, 1))
theorem d_Fa_init_74 : m_D k_Fa_init 74 (.bipush 8) 2 := (by decide +kernel : decode prog_3_method_1_code 74 = .ok (.bipush 8, 2))
theorem d_Fa_init_76 : m_D k_Fa_init 76 (.if_icmp .ge 22) 3 := (by decide +kernel : decode prog_3_method_1_code 76 = .ok (.if_icmp .ge 22, 3))
theorem d_Fa_init_79 : m_D k_Fa_init 79 (.aload_n 0) 1 := (by decide +kernel : decode prog_3_method_1_code 79 = .ok (.aload_n 0, 1))
theorem d_Fa_init_80 : m_D k_Fa_init 80 (.getfield 33) 3 := (by decide +kernel : decode prog_3_method_1_code 80 = .ok (.getfield 33, 3))
theorem d_Fa_init_83 : m_D k_Fa_init 83 (.iload_n 1) 1 := (by decide +kernel : decode prog_3_method_1_code 83 = .ok (.iload_n 1, 1))
theorem d_Fa_init_84 : m_D k_Fa_init 84 (.new 31) 3 := (by decide +kernel : decode prog_3_method_1_code 84 = .ok (.new 31, 3))
theorem d_Fa_init_87 : m_D k_Fa_init 87 (.dup) 1 := (by decide +kernel : decode prog_3_method_1_code 87 = .ok (.dup, 1))
theorem d_Fa_init_88 : m_D k_Fa_init 88 (.invokespecial 37) 3 := (by decide +kernel : decode prog_3_method_1_code 88 = .ok (.invokespecial 37, 3))
theorem d_Fa_init_91 : m_D k_Fa_init 91 (.aastore) 1 := (by decide +kernel : decode prog_3_method_1_code 91 = .ok (.aastore, 1))
theorem d_Fa_init_92 : m_D k_Fa_init 92 (.iinc 1 1) 3 := (by decide +kernel : decode prog_3_method_1_code 92 = .ok (.iinc 1 1, 3))
theorem d_Fa_init_95 : m_D k_Fa_init 95 (.goto (-22)) 3 := (by decide +kernel : decode prog_3_method_1_code 95 = .ok (.goto (-22), 3))
theorem d_Fa_init_98 : m_D k_Fa_init 98 (.aload_n 0) 1 := (by decide +kernel : decode prog_3_method_1_code 98 = .ok (.aload_n 0, 1))
theorem d_Fa_init_99 : m_D k_Fa_init 99 (.new 38) 3 := (by decide +kernel : decode prog_3_method_1_code 99 = .ok (.new 38, 3))
theorem d_Fa_init_102 : m_D k_Fa_init 102 (.dup) 1 := (by decide +kernel : decode prog_3_method_1_code 102 = .ok (.dup, 1))
theorem d_Fa_init_103 : m_D k_Fa_init 103 (.invokespecial 40) 3 := (by decide +kernel : decode prog_3_method_1_code 103 = .ok (.invokespecial 40, 3))
theorem d_Fa_init_106 : m_D k_Fa_init 106 (.putfield 41) 3 := (by decide +kernel : decode prog_3_method_1_code 106 = .ok (.putfield 41, 3))
theorem d_Fa_init_109 : m_D k_Fa_init 109 (.return_) 1 := (by decide +kernel : decode prog_3_method_1_code 109 = .ok (.return_, 1))
def fn_Fa_init (a0 : mA) : mP Unit :=
  m_th 3 (some a0) <|
  m_bd (m_pI 3 2 (some a0) 40) fun _ =>
  m_bd (m_pI 3 3 (some a0) 70) fun _ =>
  m_bd (m_pI 3 4 (some a0) 4) fun _ =>
  m_bd (m_pI 3 5 (some a0) 3) fun _ =>
  m_bd (m_nea 6 6) fun a1 =>
  m_bd (m_pR 3 7 (some a0) (some a1)) fun _ =>
  m_bd (m_gR 3 7 (some a0)) fun v2 =>
  m_bd (m_new 4) fun a3 =>
  m_bd (fn_Pe_init a3) fun _ =>
  m_bd (m_tR 6 4 v2 0 (some a3)) fun _ =>
  m_bd (m_gR 3 7 (some a0)) fun v4 =>
  m_bd (m_new 4) fun a5 =>
  m_bd (fn_Pe_init a5) fun _ =>
  m_bd (m_tR 6 4 v4 1 (some a5)) fun _ =>
  m_bd (m_gR 3 7 (some a0)) fun v6 =>
  m_bd (m_new 4) fun a7 =>
  m_bd (fn_Pe_init a7) fun _ =>
  m_bd (m_tR 6 4 v6 2 (some a7)) fun _ =>
  m_bd (m_gR 3 7 (some a0)) fun v8 =>
  m_bd (m_new 4) fun a9 =>
  m_bd (fn_Pe_init a9) fun _ =>
  m_bd (m_tR 6 4 v8 3 (some a9)) fun _ =>
  m_bd (m_gR 3 7 (some a0)) fun v10 =>
  m_bd (m_new 4) fun a11 =>
  m_bd (fn_Pe_init a11) fun _ =>
  m_bd (m_tR 6 4 v10 4 (some a11)) fun _ =>
  m_bd (m_gR 3 7 (some a0)) fun v12 =>
  m_bd (m_new 4) fun a13 =>
  m_bd (fn_Pe_init a13) fun _ =>
  m_bd (m_tR 6 4 v12 5 (some a13)) fun _ =>
  m_bd (m_nea 7 8) fun a14 =>
  m_bd (m_pR 3 8 (some a0) (some a14)) fun _ =>
  m_bd (m_gR 3 8 (some a0)) fun v15 =>
  m_bd (m_new 5) fun a16 =>
  m_bd (fn_Th_init a16) fun _ =>
  m_bd (m_tR 7 5 v15 0 (some a16)) fun _ =>
  m_bd (m_gR 3 8 (some a0)) fun v17 =>
  m_bd (m_new 5) fun a18 =>
  m_bd (fn_Th_init a18) fun _ =>
  m_bd (m_tR 7 5 v17 1 (some a18)) fun _ =>
  m_bd (m_gR 3 8 (some a0)) fun v19 =>
  m_bd (m_new 5) fun a20 =>
  m_bd (fn_Th_init a20) fun _ =>
  m_bd (m_tR 7 5 v19 2 (some a20)) fun _ =>
  m_bd (m_gR 3 8 (some a0)) fun v21 =>
  m_bd (m_new 5) fun a22 =>
  m_bd (fn_Th_init a22) fun _ =>
  m_bd (m_tR 7 5 v21 3 (some a22)) fun _ =>
  m_bd (m_gR 3 8 (some a0)) fun v23 =>
  m_bd (m_new 5) fun a24 =>
  m_bd (fn_Th_init a24) fun _ =>
  m_bd (m_tR 7 5 v23 4 (some a24)) fun _ =>
  m_bd (m_gR 3 8 (some a0)) fun v25 =>
  m_bd (m_new 5) fun a26 =>
  m_bd (fn_Th_init a26) fun _ =>
  m_bd (m_tR 7 5 v25 5 (some a26)) fun _ =>
  m_bd (m_gR 3 8 (some a0)) fun v27 =>
  m_bd (m_new 5) fun a28 =>
  m_bd (fn_Th_init a28) fun _ =>
  m_bd (m_tR 7 5 v27 6 (some a28)) fun _ =>
  m_bd (m_gR 3 8 (some a0)) fun v29 =>
  m_bd (m_new 5) fun a30 =>
  m_bd (fn_Th_init a30) fun _ =>
  m_bd (m_tR 7 5 v29 7 (some a30)) fun _ =>
  m_bd (m_new 6) fun a31 =>
  m_bd (fn_Pl_init a31) fun _ =>
  m_bd (m_pR 3 9 (some a0) (some a31)) fun _ =>
  m_rt ()
set_option maxHeartbeats 4000000 in
set_option maxRecDepth 100000 in
theorem sd_Fa_init (a0 : mA) : m_Sm k_Fa_init 2 30 302 [.inr (.inr (some a0))] (fn_Fa_init a0) (fun _ => none) := by
  refine ⟨Nat.le_of_ble_eq_true rfl, ?_⟩
  refine sm_th ?_
  refine sm_aload_n (i := 0) (j := 0) (pc' := 1) d_Fa_init_0 rfl rfl rfl (sm_objInit (pc' := 4) d_Fa_init_1 rfl w_ml_Fa_3 w_im_java_lang_Object__init_ w_co_java_lang_Object__init_ (by decide) rfl (sm_aload_n (i := 0) (j := 0) (pc' := 5) d_Fa_init_4 rfl rfl rfl (sm_bipush (pc' := 7) d_Fa_init_5 rfl ib_40 (sm_putI (pc' := 10) d_Fa_init_7 rfl fl_Fa_11 (Or.inl rfl) rfl (sm_aload_n (i := 0) (j := 0) (pc' := 11) d_Fa_init_10 rfl rfl rfl (sm_bipush (pc' := 13) d_Fa_init_11 rfl ib_70 (sm_putI (pc' := 16) d_Fa_init_13 rfl fl_Fa_15 (Or.inl rfl) rfl (sm_aload_n (i := 0) (j := 0) (pc' := 17) d_Fa_init_16 rfl rfl rfl (sm_iconst (pc' := 18) d_Fa_init_17 rfl ic_4 ?_)))))))))
  refine sm_putI (pc' := 21) d_Fa_init_18 rfl fl_Fa_18 (Or.inl rfl) rfl (sm_aload_n (i := 0) (j := 0) (pc' := 22) d_Fa_init_21 rfl rfl rfl (sm_iconst (pc' := 23) d_Fa_init_22 rfl ic_3 (sm_putI (pc' := 26) d_Fa_init_23 rfl fl_Fa_21 (Or.inl rfl) rfl (sm_aload_n (i := 0) (j := 0) (pc' := 27) d_Fa_init_26 rfl rfl rfl (sm_bipush (pc' := 29) d_Fa_init_27 rfl ib_6 ?_)))))
  refine sm_neq (t := 6) (mc := 29) (ms := 296) (pc' := 32) d_Fa_init_29 rfl ⟨by decide, by decide⟩ rfl w_kl_Fa_24 (by decide) (by decide) (by decide) (by decide) rfl rfl (fun a1 => ?_)
  refine sm_putR (pc' := 35) d_Fa_init_32 rfl fl_Fa_26 rfl (Or.inr ⟨rfl, rfl⟩) rfl (sm_iconst (pc' := 36) d_Fa_init_35 rfl ic_0 (sm_istore_n (i := 1) (L' := [(1, .inl 0), (0, .inr (.inr (some a0)))]) (pc' := 37) d_Fa_init_36 rfl rfl (Nat.le_of_ble_eq_true rfl) rfl (sm_iload_n (i := 1) (j := 0) (pc' := 38) d_Fa_init_37 rfl rfl rfl (sm_bipush (pc' := 40) d_Fa_init_38 rfl ib_6 (sm_icmp_ge_f (tgt := 62) (pc' := 43) d_Fa_init_40 rfl rfl (by decide) (sm_aload_n (i := 0) (j := 1) (pc' := 44) d_Fa_init_43 rfl rfl rfl ?_))))))
  refine sm_getR (pc' := 47) d_Fa_init_44 rfl fl_Fa_26 rfl rfl (fun v2 => ?_)
  refine sm_iload_n (i := 1) (j := 0) (pc' := 48) d_Fa_init_47 rfl rfl rfl ?_
  refine sm_new (mc := 28) (ms := 291) (pc' := 51) d_Fa_init_48 rfl nw_Fa_24 rfl rfl (fun a3 => ?_)
  refine sm_dup (pc' := 52) d_Fa_init_51 rfl rfl (sm_callI (av := []) (x := (some a3)) (st := [.inr (.inr (some a3)), .inl 0, .inr (.inr v2)]) (mc := 27) (ms := 283) (pc' := 55) d_Fa_init_52 rfl (sd_Pe_init a3) (fun _ _ _ => rfl) ci_Pe_init (Or.inl w_ml_Fa_30) rfl rfl (by decide) (Nat.le_of_ble_eq_true rfl) rfl rfl (sm_aast (t := 6) (ci := 4) ⟨by decide, by decide⟩ rfl rfl rfl (pc' := 56) d_Fa_init_55 rfl (sm_iinc (j := 0) (L' := [(1, .inl 1), (0, .inr (.inr (some a0)))]) (pc' := 59) d_Fa_init_56 rfl (v := 1) rfl (by decide) (Nat.le_of_ble_eq_true rfl) rfl (sm_goto (tgt := 37) d_Fa_init_59 rfl (sm_iload_n (i := 1) (j := 0) (pc' := 38) d_Fa_init_37 rfl rfl rfl (sm_bipush (pc' := 40) d_Fa_init_38 rfl ib_6 (sm_icmp_ge_f (tgt := 62) (pc' := 43) d_Fa_init_40 rfl rfl (by decide) (sm_aload_n (i := 0) (j := 1) (pc' := 44) d_Fa_init_43 rfl rfl rfl ?_))))))))
  refine sm_getR (pc' := 47) d_Fa_init_44 rfl fl_Fa_26 rfl rfl (fun v4 => ?_)
  refine sm_iload_n (i := 1) (j := 0) (pc' := 48) d_Fa_init_47 rfl rfl rfl ?_
  refine sm_new (mc := 26) (ms := 278) (pc' := 51) d_Fa_init_48 rfl nw_Fa_24 rfl rfl (fun a5 => ?_)
  refine sm_dup (pc' := 52) d_Fa_init_51 rfl rfl (sm_callI (av := []) (x := (some a5)) (st := [.inr (.inr (some a5)), .inl 1, .inr (.inr v4)]) (mc := 25) (ms := 270) (pc' := 55) d_Fa_init_52 rfl (sd_Pe_init a5) (fun _ _ _ => rfl) ci_Pe_init (Or.inl w_ml_Fa_30) rfl rfl (by decide) (Nat.le_of_ble_eq_true rfl) rfl rfl (sm_aast (t := 6) (ci := 4) ⟨by decide, by decide⟩ rfl rfl rfl (pc' := 56) d_Fa_init_55 rfl (sm_iinc (j := 0) (L' := [(1, .inl 2), (0, .inr (.inr (some a0)))]) (pc' := 59) d_Fa_init_56 rfl (v := 2) rfl (by decide) (Nat.le_of_ble_eq_true rfl) rfl (sm_goto (tgt := 37) d_Fa_init_59 rfl (sm_iload_n (i := 1) (j := 0) (pc' := 38) d_Fa_init_37 rfl rfl rfl (sm_bipush (pc' := 40) d_Fa_init_38 rfl ib_6 (sm_icmp_ge_f (tgt := 62) (pc' := 43) d_Fa_init_40 rfl rfl (by decide) (sm_aload_n (i := 0) (j := 1) (pc' := 44) d_Fa_init_43 rfl rfl rfl ?_))))))))
  refine sm_getR (pc' := 47) d_Fa_init_44 rfl fl_Fa_26 rfl rfl (fun v6 => ?_)
  refine sm_iload_n (i := 1) (j := 0) (pc' := 48) d_Fa_init_47 rfl rfl rfl ?_
  refine sm_new (mc := 24) (ms := 265) (pc' := 51) d_Fa_init_48 rfl nw_Fa_24 rfl rfl (fun a7 => ?_)
  refine sm_dup (pc' := 52) d_Fa_init_51 rfl rfl (sm_callI (av := []) (x := (some a7)) (st := [.inr (.inr (some a7)), .inl 2, .inr (.inr v6)]) (mc := 23) (ms := 257) (pc' := 55) d_Fa_init_52 rfl (sd_Pe_init a7) (fun _ _ _ => rfl) ci_Pe_init (Or.inl w_ml_Fa_30) rfl rfl (by decide) (Nat.le_of_ble_eq_true rfl) rfl rfl (sm_aast (t := 6) (ci := 4) ⟨by decide, by decide⟩ rfl rfl rfl (pc' := 56) d_Fa_init_55 rfl (sm_iinc (j := 0) (L' := [(1, .inl 3), (0, .inr (.inr (some a0)))]) (pc' := 59) d_Fa_init_56 rfl (v := 3) rfl (by decide) (Nat.le_of_ble_eq_true rfl) rfl (sm_goto (tgt := 37) d_Fa_init_59 rfl (sm_iload_n (i := 1) (j := 0) (pc' := 38) d_Fa_init_37 rfl rfl rfl (sm_bipush (pc' := 40) d_Fa_init_38 rfl ib_6 (sm_icmp_ge_f (tgt := 62) (pc' := 43) d_Fa_init_40 rfl rfl (by decide) (sm_aload_n (i := 0) (j := 1) (pc' := 44) d_Fa_init_43 rfl rfl rfl ?_))))))))
  refine sm_getR (pc' := 47) d_Fa_init_44 rfl fl_Fa_26 rfl rfl (fun v8 => ?_)
  refine sm_iload_n (i := 1) (j := 0) (pc' := 48) d_Fa_init_47 rfl rfl rfl ?_
  refine sm_new (mc := 22) (ms := 252) (pc' := 51) d_Fa_init_48 rfl nw_Fa_24 rfl rfl (fun a9 => ?_)
  refine sm_dup (pc' := 52) d_Fa_init_51 rfl rfl (sm_callI (av := []) (x := (some a9)) (st := [.inr (.inr (some a9)), .inl 3, .inr (.inr v8)]) (mc := 21) (ms := 244) (pc' := 55) d_Fa_init_52 rfl (sd_Pe_init a9) (fun _ _ _ => rfl) ci_Pe_init (Or.inl w_ml_Fa_30) rfl rfl (by decide) (Nat.le_of_ble_eq_true rfl) rfl rfl (sm_aast (t := 6) (ci := 4) ⟨by decide, by decide⟩ rfl rfl rfl (pc' := 56) d_Fa_init_55 rfl (sm_iinc (j := 0) (L' := [(1, .inl 4), (0, .inr (.inr (some a0)))]) (pc' := 59) d_Fa_init_56 rfl (v := 4) rfl (by decide) (Nat.le_of_ble_eq_true rfl) rfl (sm_goto (tgt := 37) d_Fa_init_59 rfl (sm_iload_n (i := 1) (j := 0) (pc' := 38) d_Fa_init_37 rfl rfl rfl (sm_bipush (pc' := 40) d_Fa_init_38 rfl ib_6 (sm_icmp_ge_f (tgt := 62) (pc' := 43) d_Fa_init_40 rfl rfl (by decide) (sm_aload_n (i := 0) (j := 1) (pc' := 44) d_Fa_init_43 rfl rfl rfl ?_))))))))
  refine sm_getR (pc' := 47) d_Fa_init_44 rfl fl_Fa_26 rfl rfl (fun v10 => ?_)
  refine sm_iload_n (i := 1) (j := 0) (pc' := 48) d_Fa_init_47 rfl rfl rfl ?_
  refine sm_new (mc := 20) (ms := 239) (pc' := 51) d_Fa_init_48 rfl nw_Fa_24 rfl rfl (fun a11 => ?_)
  refine sm_dup (pc' := 52) d_Fa_init_51 rfl rfl (sm_callI (av := []) (x := (some a11)) (st := [.inr (.inr (some a11)), .inl 4, .inr (.inr v10)]) (mc := 19) (ms := 231) (pc' := 55) d_Fa_init_52 rfl (sd_Pe_init a11) (fun _ _ _ => rfl) ci_Pe_init (Or.inl w_ml_Fa_30) rfl rfl (by decide) (Nat.le_of_ble_eq_true rfl) rfl rfl (sm_aast (t := 6) (ci := 4) ⟨by decide, by decide⟩ rfl rfl rfl (pc' := 56) d_Fa_init_55 rfl (sm_iinc (j := 0) (L' := [(1, .inl 5), (0, .inr (.inr (some a0)))]) (pc' := 59) d_Fa_init_56 rfl (v := 5) rfl (by decide) (Nat.le_of_ble_eq_true rfl) rfl (sm_goto (tgt := 37) d_Fa_init_59 rfl (sm_iload_n (i := 1) (j := 0) (pc' := 38) d_Fa_init_37 rfl rfl rfl (sm_bipush (pc' := 40) d_Fa_init_38 rfl ib_6 (sm_icmp_ge_f (tgt := 62) (pc' := 43) d_Fa_init_40 rfl rfl (by decide) (sm_aload_n (i := 0) (j := 1) (pc' := 44) d_Fa_init_43 rfl rfl rfl ?_))))))))
  refine sm_getR (pc' := 47) d_Fa_init_44 rfl fl_Fa_26 rfl rfl (fun v12 => ?_)
  refine sm_iload_n (i := 1) (j := 0) (pc' := 48) d_Fa_init_47 rfl rfl rfl ?_
  refine sm_new (mc := 18) (ms := 226) (pc' := 51) d_Fa_init_48 rfl nw_Fa_24 rfl rfl (fun a13 => ?_)
  refine sm_dup (pc' := 52) d_Fa_init_51 rfl rfl (sm_callI (av := []) (x := (some a13)) (st := [.inr (.inr (some a13)), .inl 5, .inr (.inr v12)]) (mc := 17) (ms := 218) (pc' := 55) d_Fa_init_52 rfl (sd_Pe_init a13) (fun _ _ _ => rfl) ci_Pe_init (Or.inl w_ml_Fa_30) rfl rfl (by decide) (Nat.le_of_ble_eq_true rfl) rfl rfl (sm_aast (t := 6) (ci := 4) ⟨by decide, by decide⟩ rfl rfl rfl (pc' := 56) d_Fa_init_55 rfl (sm_iinc (j := 0) (L' := [(1, .inl 6), (0, .inr (.inr (some a0)))]) (pc' := 59) d_Fa_init_56 rfl (v := 6) rfl (by decide) (Nat.le_of_ble_eq_true rfl) rfl (sm_goto (tgt := 37) d_Fa_init_59 rfl (sm_iload_n (i := 1) (j := 0) (pc' := 38) d_Fa_init_37 rfl rfl rfl (sm_bipush (pc' := 40) d_Fa_init_38 rfl ib_6 (sm_icmp_ge_t (tgt := 62) d_Fa_init_40 rfl (by decide) (sm_aload_n (i := 0) (j := 1) (pc' := 63) d_Fa_init_62 rfl rfl rfl (sm_bipush (pc' := 65) d_Fa_init_63 rfl ib_8 ?_)))))))))
  refine sm_neq (t := 7) (mc := 16) (ms := 210) (pc' := 68) d_Fa_init_65 rfl ⟨by decide, by decide⟩ rfl w_kl_Fa_31 (by decide) (by decide) (by decide) (by decide) rfl rfl (fun a14 => ?_)
  refine sm_putR (pc' := 71) d_Fa_init_68 rfl fl_Fa_33 rfl (Or.inr ⟨rfl, rfl⟩) rfl (sm_iconst (pc' := 72) d_Fa_init_71 rfl ic_0 (sm_istore_n (i := 1) (L' := [(1, .inl 0), (0, .inr (.inr (some a0)))]) (pc' := 73) d_Fa_init_72 rfl rfl (Nat.le_of_ble_eq_true rfl) rfl (sm_iload_n (i := 1) (j := 0) (pc' := 74) d_Fa_init_73 rfl rfl rfl (sm_bipush (pc' := 76) d_Fa_init_74 rfl ib_8 (sm_icmp_ge_f (tgt := 98) (pc' := 79) d_Fa_init_76 rfl rfl (by decide) (sm_aload_n (i := 0) (j := 1) (pc' := 80) d_Fa_init_79 rfl rfl rfl ?_))))))
  refine sm_getR (pc' := 83) d_Fa_init_80 rfl fl_Fa_33 rfl rfl (fun v15 => ?_)
  refine sm_iload_n (i := 1) (j := 0) (pc' := 84) d_Fa_init_83 rfl rfl rfl ?_
  refine sm_new (mc := 15) (ms := 205) (pc' := 87) d_Fa_init_84 rfl nw_Fa_31 rfl rfl (fun a16 => ?_)
  refine sm_dup (pc' := 88) d_Fa_init_87 rfl rfl (sm_callI (av := []) (x := (some a16)) (st := [.inr (.inr (some a16)), .inl 0, .inr (.inr v15)]) (mc := 15) (ms := 205) (pc' := 91) d_Fa_init_88 rfl (sd_Th_init a16) (fun _ _ _ => rfl) ci_Th_init (Or.inr ⟨"RustFamily", by decide⟩) rfl rfl (by decide) (Nat.le_of_ble_eq_true rfl) rfl rfl (sm_aast (t := 7) (ci := 5) ⟨by decide, by decide⟩ rfl rfl rfl (pc' := 92) d_Fa_init_91 rfl (sm_iinc (j := 0) (L' := [(1, .inl 1), (0, .inr (.inr (some a0)))]) (pc' := 95) d_Fa_init_92 rfl (v := 1) rfl (by decide) (Nat.le_of_ble_eq_true rfl) rfl (sm_goto (tgt := 73) d_Fa_init_95 rfl (sm_iload_n (i := 1) (j := 0) (pc' := 74) d_Fa_init_73 rfl rfl rfl (sm_bipush (pc' := 76) d_Fa_init_74 rfl ib_8 (sm_icmp_ge_f (tgt := 98) (pc' := 79) d_Fa_init_76 rfl rfl (by decide) (sm_aload_n (i := 0) (j := 1) (pc' := 80) d_Fa_init_79 rfl rfl rfl ?_))))))))
  refine sm_getR (pc' := 83) d_Fa_init_80 rfl fl_Fa_33 rfl rfl (fun v17 => ?_)
  refine sm_iload_n (i := 1) (j := 0) (pc' := 84) d_Fa_init_83 rfl rfl rfl ?_
  refine sm_new (mc := 14) (ms := 200) (pc' := 87) d_Fa_init_84 rfl nw_Fa_31 rfl rfl (fun a18 => ?_)
  refine sm_dup (pc' := 88) d_Fa_init_87 rfl rfl (sm_callI (av := []) (x := (some a18)) (st := [.inr (.inr (some a18)), .inl 1, .inr (.inr v17)]) (mc := 14) (ms := 200) (pc' := 91) d_Fa_init_88 rfl (sd_Th_init a18) (fun _ _ _ => rfl) ci_Th_init (Or.inr ⟨"RustFamily", by decide⟩) rfl rfl (by decide) (Nat.le_of_ble_eq_true rfl) rfl rfl (sm_aast (t := 7) (ci := 5) ⟨by decide, by decide⟩ rfl rfl rfl (pc' := 92) d_Fa_init_91 rfl (sm_iinc (j := 0) (L' := [(1, .inl 2), (0, .inr (.inr (some a0)))]) (pc' := 95) d_Fa_init_92 rfl (v := 2) rfl (by decide) (Nat.le_of_ble_eq_true rfl) rfl (sm_goto (tgt := 73) d_Fa_init_95 rfl (sm_iload_n (i := 1) (j := 0) (pc' := 74) d_Fa_init_73 rfl rfl rfl (sm_bipush (pc' := 76) d_Fa_init_74 rfl ib_8 (sm_icmp_ge_f (tgt := 98) (pc' := 79) d_Fa_init_76 rfl rfl (by decide) (sm_aload_n (i := 0) (j := 1) (pc' := 80) d_Fa_init_79 rfl rfl rfl ?_))))))))
  refine sm_getR (pc' := 83) d_Fa_init_80 rfl fl_Fa_33 rfl rfl (fun v19 => ?_)
  refine sm_iload_n (i := 1) (j := 0) (pc' := 84) d_Fa_init_83 rfl rfl rfl ?_
  refine sm_new (mc := 13) (ms := 195) (pc' := 87) d_Fa_init_84 rfl nw_Fa_31 rfl rfl (fun a20 => ?_)
  refine sm_dup (pc' := 88) d_Fa_init_87 rfl rfl (sm_callI (av := []) (x := (some a20)) (st := [.inr (.inr (some a20)), .inl 2, .inr (.inr v19)]) (mc := 13) (ms := 195) (pc' := 91) d_Fa_init_88 rfl (sd_Th_init a20) (fun _ _ _ => rfl) ci_Th_init (Or.inr ⟨"RustFamily", by decide⟩) rfl rfl (by decide) (Nat.le_of_ble_eq_true rfl) rfl rfl (sm_aast (t := 7) (ci := 5) ⟨by decide, by decide⟩ rfl rfl rfl (pc' := 92) d_Fa_init_91 rfl (sm_iinc (j := 0) (L' := [(1, .inl 3), (0, .inr (.inr (some a0)))]) (pc' := 95) d_Fa_init_92 rfl (v := 3) rfl (by decide) (Nat.le_of_ble_eq_true rfl) rfl (sm_goto (tgt := 73) d_Fa_init_95 rfl (sm_iload_n (i := 1) (j := 0) (pc' := 74) d_Fa_init_73 rfl rfl rfl (sm_bipush (pc' := 76) d_Fa_init_74 rfl ib_8 (sm_icmp_ge_f (tgt := 98) (pc' := 79) d_Fa_init_76 rfl rfl (by decide) (sm_aload_n (i := 0) (j := 1) (pc' := 80) d_Fa_init_79 rfl rfl rfl ?_))))))))
  refine sm_getR (pc' := 83) d_Fa_init_80 rfl fl_Fa_33 rfl rfl (fun v21 => ?_)
  refine sm_iload_n (i := 1) (j := 0) (pc' := 84) d_Fa_init_83 rfl rfl rfl ?_
  refine sm_new (mc := 12) (ms := 190) (pc' := 87) d_Fa_init_84 rfl nw_Fa_31 rfl rfl (fun a22 => ?_)
  refine sm_dup (pc' := 88) d_Fa_init_87 rfl rfl (sm_callI (av := []) (x := (some a22)) (st := [.inr (.inr (some a22)), .inl 3, .inr (.inr v21)]) (mc := 12) (ms := 190) (pc' := 91) d_Fa_init_88 rfl (sd_Th_init a22) (fun _ _ _ => rfl) ci_Th_init (Or.inr ⟨"RustFamily", by decide⟩) rfl rfl (by decide) (Nat.le_of_ble_eq_true rfl) rfl rfl (sm_aast (t := 7) (ci := 5) ⟨by decide, by decide⟩ rfl rfl rfl (pc' := 92) d_Fa_init_91 rfl (sm_iinc (j := 0) (L' := [(1, .inl 4), (0, .inr (.inr (some a0)))]) (pc' := 95) d_Fa_init_92 rfl (v := 4) rfl (by decide) (Nat.le_of_ble_eq_true rfl) rfl (sm_goto (tgt := 73) d_Fa_init_95 rfl (sm_iload_n (i := 1) (j := 0) (pc' := 74) d_Fa_init_73 rfl rfl rfl (sm_bipush (pc' := 76) d_Fa_init_74 rfl ib_8 (sm_icmp_ge_f (tgt := 98) (pc' := 79) d_Fa_init_76 rfl rfl (by decide) (sm_aload_n (i := 0) (j := 1) (pc' := 80) d_Fa_init_79 rfl rfl rfl ?_))))))))
  refine sm_getR (pc' := 83) d_Fa_init_80 rfl fl_Fa_33 rfl rfl (fun v23 => ?_)
  refine sm_iload_n (i := 1) (j := 0) (pc' := 84) d_Fa_init_83 rfl rfl rfl ?_
  refine sm_new (mc := 11) (ms := 185) (pc' := 87) d_Fa_init_84 rfl nw_Fa_31 rfl rfl (fun a24 => ?_)
  refine sm_dup (pc' := 88) d_Fa_init_87 rfl rfl (sm_callI (av := []) (x := (some a24)) (st := [.inr (.inr (some a24)), .inl 4, .inr (.inr v23)]) (mc := 11) (ms := 185) (pc' := 91) d_Fa_init_88 rfl (sd_Th_init a24) (fun _ _ _ => rfl) ci_Th_init (Or.inr ⟨"RustFamily", by decide⟩) rfl rfl (by decide) (Nat.le_of_ble_eq_true rfl) rfl rfl (sm_aast (t := 7) (ci := 5) ⟨by decide, by decide⟩ rfl rfl rfl (pc' := 92) d_Fa_init_91 rfl (sm_iinc (j := 0) (L' := [(1, .inl 5), (0, .inr (.inr (some a0)))]) (pc' := 95) d_Fa_init_92 rfl (v := 5) rfl (by decide) (Nat.le_of_ble_eq_true rfl) rfl (sm_goto (tgt := 73) d_Fa_init_95 rfl (sm_iload_n (i := 1) (j := 0) (pc' := 74) d_Fa_init_73 rfl rfl rfl (sm_bipush (pc' := 76) d_Fa_init_74 rfl ib_8 (sm_icmp_ge_f (tgt := 98) (pc' := 79) d_Fa_init_76 rfl rfl (by decide) (sm_aload_n (i := 0) (j := 1) (pc' := 80) d_Fa_init_79 rfl rfl rfl ?_))))))))
  refine sm_getR (pc' := 83) d_Fa_init_80 rfl fl_Fa_33 rfl rfl (fun v25 => ?_)
  refine sm_iload_n (i := 1) (j := 0) (pc' := 84) d_Fa_init_83 rfl rfl rfl ?_
  refine sm_new (mc := 10) (ms := 180) (pc' := 87) d_Fa_init_84 rfl nw_Fa_31 rfl rfl (fun a26 => ?_)
  refine sm_dup (pc' := 88) d_Fa_init_87 rfl rfl (sm_callI (av := []) (x := (some a26)) (st := [.inr (.inr (some a26)), .inl 5, .inr (.inr v25)]) (mc := 10) (ms := 180) (pc' := 91) d_Fa_init_88 rfl (sd_Th_init a26) (fun _ _ _ => rfl) ci_Th_init (Or.inr ⟨"RustFamily", by decide⟩) rfl rfl (by decide) (Nat.le_of_ble_eq_true rfl) rfl rfl (sm_aast (t := 7) (ci := 5) ⟨by decide, by decide⟩ rfl rfl rfl (pc' := 92) d_Fa_init_91 rfl (sm_iinc (j := 0) (L' := [(1, .inl 6), (0, .inr (.inr (some a0)))]) (pc' := 95) d_Fa_init_92 rfl (v := 6) rfl (by decide) (Nat.le_of_ble_eq_true rfl) rfl (sm_goto (tgt := 73) d_Fa_init_95 rfl (sm_iload_n (i := 1) (j := 0) (pc' := 74) d_Fa_init_73 rfl rfl rfl (sm_bipush (pc' := 76) d_Fa_init_74 rfl ib_8 (sm_icmp_ge_f (tgt := 98) (pc' := 79) d_Fa_init_76 rfl rfl (by decide) (sm_aload_n (i := 0) (j := 1) (pc' := 80) d_Fa_init_79 rfl rfl rfl ?_))))))))
  refine sm_getR (pc' := 83) d_Fa_init_80 rfl fl_Fa_33 rfl rfl (fun v27 => ?_)
  refine sm_iload_n (i := 1) (j := 0) (pc' := 84) d_Fa_init_83 rfl rfl rfl ?_
  refine sm_new (mc := 9) (ms := 175) (pc' := 87) d_Fa_init_84 rfl nw_Fa_31 rfl rfl (fun a28 => ?_)
  refine sm_dup (pc' := 88) d_Fa_init_87 rfl rfl (sm_callI (av := []) (x := (some a28)) (st := [.inr (.inr (some a28)), .inl 6, .inr (.inr v27)]) (mc := 9) (ms := 175) (pc' := 91) d_Fa_init_88 rfl (sd_Th_init a28) (fun _ _ _ => rfl) ci_Th_init (Or.inr ⟨"RustFamily", by decide⟩) rfl rfl (by decide) (Nat.le_of_ble_eq_true rfl) rfl rfl (sm_aast (t := 7) (ci := 5) ⟨by decide, by decide⟩ rfl rfl rfl (pc' := 92) d_Fa_init_91 rfl (sm_iinc (j := 0) (L' := [(1, .inl 7), (0, .inr (.inr (some a0)))]) (pc' := 95) d_Fa_init_92 rfl (v := 7) rfl (by decide) (Nat.le_of_ble_eq_true rfl) rfl (sm_goto (tgt := 73) d_Fa_init_95 rfl (sm_iload_n (i := 1) (j := 0) (pc' := 74) d_Fa_init_73 rfl rfl rfl (sm_bipush (pc' := 76) d_Fa_init_74 rfl ib_8 (sm_icmp_ge_f (tgt := 98) (pc' := 79) d_Fa_init_76 rfl rfl (by decide) (sm_aload_n (i := 0) (j := 1) (pc' := 80) d_Fa_init_79 rfl rfl rfl ?_))))))))
  refine sm_getR (pc' := 83) d_Fa_init_80 rfl fl_Fa_33 rfl rfl (fun v29 => ?_)
  refine sm_iload_n (i := 1) (j := 0) (pc' := 84) d_Fa_init_83 rfl rfl rfl ?_
  refine sm_new (mc := 8) (ms := 170) (pc' := 87) d_Fa_init_84 rfl nw_Fa_31 rfl rfl (fun a30 => ?_)
  refine sm_dup (pc' := 88) d_Fa_init_87 rfl rfl (sm_callI (av := []) (x := (some a30)) (st := [.inr (.inr (some a30)), .inl 7, .inr (.inr v29)]) (mc := 8) (ms := 170) (pc' := 91) d_Fa_init_88 rfl (sd_Th_init a30) (fun _ _ _ => rfl) ci_Th_init (Or.inr ⟨"RustFamily", by decide⟩) rfl rfl (by decide) (Nat.le_of_ble_eq_true rfl) rfl rfl (sm_aast (t := 7) (ci := 5) ⟨by decide, by decide⟩ rfl rfl rfl (pc' := 92) d_Fa_init_91 rfl (sm_iinc (j := 0) (L' := [(1, .inl 8), (0, .inr (.inr (some a0)))]) (pc' := 95) d_Fa_init_92 rfl (v := 8) rfl (by decide) (Nat.le_of_ble_eq_true rfl) rfl (sm_goto (tgt := 73) d_Fa_init_95 rfl (sm_iload_n (i := 1) (j := 0) (pc' := 74) d_Fa_init_73 rfl rfl rfl (sm_bipush (pc' := 76) d_Fa_init_74 rfl ib_8 (sm_icmp_ge_t (tgt := 98) d_Fa_init_76 rfl (by decide) (sm_aload_n (i := 0) (j := 1) (pc' := 99) d_Fa_init_98 rfl rfl rfl ?_))))))))
  refine sm_new (mc := 7) (ms := 156) (pc' := 102) d_Fa_init_99 rfl nw_Fa_38 rfl rfl (fun a31 => ?_)
  refine sm_dup (pc' := 103) d_Fa_init_102 rfl rfl (sm_callI (av := []) (x := (some a31)) (st := [.inr (.inr (some a31)), .inr (.inr (some a0))]) (mc := 0) (ms := 0) (pc' := 106) d_Fa_init_103 rfl (sd_Pl_init a31) (fun _ _ _ => rfl) ci_Pl_init (Or.inl w_ml_Fa_40) rfl rfl (by decide) (Nat.le_of_ble_eq_true rfl) rfl rfl (sm_putR (pc' := 109) d_Fa_init_106 rfl fl_Fa_41 rfl (Or.inl rfl) rfl ?_))
  exact sm_return d_Fa_init_109 rfl rfl
theorem d_Ga_init_0 : m_D k_Ga_init 0 (.aload_n 0) 1 := (by decide +kernel : decode prog_4_method_1_code 0 = .ok (.aload_n 0, 1))
theorem d_Ga_init_1 : m_D k_Ga_init 1 (.invokespecial 1) 3 := (by decide +kernel : decode prog_4_method_1_code 1 = .ok (.invokespecial 1, 3))
theorem d_Ga_init_4 : m_D k_Ga_init 4 (.aload_n 0) 1 := (by decide +kernel : decode prog_4_method_1_code 4 = .ok (.aload_n 0, 1))
theorem d_Ga_init_5 : m_D k_Ga_init 5 (.bipush 10) 2 := (by decide +kernel : decode prog_4_method_1_code 5 = .ok (.bipush 10, 2))
theorem d_Ga_init_7 : m_D k_Ga_init 7 (.anewarray 9) 3 := (by decide +kernel : decode prog_4_method_1_code 7 = .ok (.anewarray 9, 3))
theorem d_Ga_init_10 : m_D k_Ga_init 10 (.putfield 11) 3 := (by decide +kernel : decode prog_4_method_1_code 10 = .ok (.putfield 11, 3))
theorem d_Ga_init_13 : m_D k_Ga_init 13 (.iconst 0) 1 := (by decide +kernel : decode prog_4_method_1_code 13 = .ok (.iconst 0, 1))
theorem d_Ga_init_14 : m_D k_Ga_init 14 (.istore_n 1) 1 := (by decide +kernel : decode prog_4_method_1_code 14 = .ok (.istore_n 1, 1))
theorem d_Ga_init_15 : m_D k_Ga_init 15 (.iload_n 1) 1 := (by decide +kernel : decode prog_4_method_1_code 15 = .ok (.iload_n 1, 1))
theorem d_Ga_init_16 : m_D k_Ga_init 16 (.aload_n 0) 1 := (by decide +kernel : decode prog_4_method_1_code 16 = .ok (.aload_n 0, 1))
theorem d_Ga_init_17 : m_D k_Ga_init 17 (.getfield 11) 3 := (by decide +kernel : decode prog_4_method_1_code 17 = .ok (.getfield 11, 3))
theorem d_Ga_init_20 : m_D k_Ga_init 20 (.arraylength) 1 := (by decide +kernel : decode prog_4_method_1_code 20 = .ok (.arraylength, 1))
theorem d_Ga_init_21 : m_D k_Ga_init 21 (.if_icmp .ge 22) 3 := (by decide +kernel : decode prog_4_method_1_code 21 = .ok (.if_icmp .ge 22, 3))
theorem d_Ga_init_24 : m_D k_Ga_init 24 (.aload_n 0) 1 := (by decide +kernel : decode prog_4_method_1_code 24 = .ok (.aload_n 0, 1))
theorem d_Ga_init_25 : m_D k_Ga_init 25 (.getfield 11) 3 := (by decide +kernel : decode prog_4_method_1_code 25 = .ok (.getfield 11, 3))
theorem d_Ga_init_28 : m_D k_Ga_init 28 (.iload_n 1) 1 := (by decide +kernel : decode prog_4_method_1_code 28 = .ok (.iload_n 1, 1))
theorem d_Ga_init_29 : m_D k_Ga_init 29 (.new 9) 3 := (by decide +kernel : decode prog_4_method_1_code 29 = .ok (.new 9, 3))
theorem d_Ga_init_32 : m_D k_Ga_init 32 (.dup) 1 := (by decide +kernel : decode prog_4_method_1_code 32 = .ok (.dup, 1))
theorem d_Ga_init_33 : m_D k_Ga_init 33 (.invokespecial 15) 3 := (by decide +kernel : decode prog_4_method_1_code 33 = .ok (.invokespecial 15, 3))
theorem d_Ga_init_36 : m_D k_Ga_init 36 (.aastore) 1 := (by decide +kernel : decode prog_4_method_1_code 36 = .ok (.aastore, 1))
theorem d_Ga_init_37 : m_D k_Ga_init 37 (.iinc 1 1) 3 := (by decide +kernel : decode prog_4_method_1_code 37 = .ok (.iinc 1 1, 3))
theorem d_Ga_init_40 : m_D k_Ga_init 40 (.goto (-25)) 3 := (by decide +kernel : decode prog_4_method_1_code 40 = .ok (.goto (-25), 3))
theorem d_Ga_init_43 : m_D k_Ga_init 43 (.aload_n 0) 1 := (by decide +kernel : decode prog_4_method_1_code 43 = .ok (.aload_n 0, 1))
theorem d_Ga_init_44 : m_D k_Ga_init 44 (.bipush 10) 2 := (by decide +kernel : decode prog_4_method_1_code 44 = .ok (.bipush 10, 2))
theorem d_Ga_init_46 : m_D k_Ga_init 46 (.newarray .int) 2 := (by decide +kernel : decode prog_4_method_1_code 46 = .ok (.newarray .int, 2))
theorem d_Ga_init_48 : m_D k_Ga_init 48 (.putfield 16) 3 := (by decide +kernel : decode prog_4_method_1_code 48 = .ok (.putfield 16, 3))
theorem d_Ga_init_51 : m_D k_Ga_init 51 (.return_) 1 := (by decide +kernel : decode prog_4_method_1_code 51 = .ok (.return_, 1))
def fn_Ga_init (a0 : mA) : mP Unit :=
  m_th 10 (some a0) <|
  m_bd (m_nea 7 10) fun a1 =>
  m_bd (m_pR 10 1 (some a0) (some a1)) fun _ =>
  m_bd (m_gR 10 1 (some a0)) fun v2 =>
  m_bd (m_lk v2 10) fun _ =>
  m_bd (m_gR 10 1 (some a0)) fun v3 =>
  m_bd (m_new 5) fun a4 =>
  m_bd (fn_Th_init a4) fun _ =>
  m_bd (m_tR 7 5 v3 0 (some a4)) fun _ =>
  m_bd (m_gR 10 1 (some a0)) fun v5 =>
  m_bd (m_lk v5 10) fun _ =>
  m_bd (m_gR 10 1 (some a0)) fun v6 =>
  m_bd (m_new 5) fun a7 =>
  m_bd (fn_Th_init a7) fun _ =>
  m_bd (m_tR 7 5 v6 1 (some a7)) fun _ =>
  m_bd (m_gR 10 1 (some a0)) fun v8 =>
  m_bd (m_lk v8 10) fun _ =>
  m_bd (m_gR 10 1 (some a0)) fun v9 =>
  m_bd (m_new 5) fun a10 =>
  m_bd (fn_Th_init a10) fun _ =>
  m_bd (m_tR 7 5 v9 2 (some a10)) fun _ =>
  m_bd (m_gR 10 1 (some a0)) fun v11 =>
  m_bd (m_lk v11 10) fun _ =>
  m_bd (m_gR 10 1 (some a0)) fun v12 =>
  m_bd (m_new 5) fun a13 =>
  m_bd (fn_Th_init a13) fun _ =>
  m_bd (m_tR 7 5 v12 3 (some a13)) fun _ =>
  m_bd (m_gR 10 1 (some a0)) fun v14 =>
  m_bd (m_lk v14 10) fun _ =>
  m_bd (m_gR 10 1 (some a0)) fun v15 =>
  m_bd (m_new 5) fun a16 =>
  m_bd (fn_Th_init a16) fun _ =>
  m_bd (m_tR 7 5 v15 4 (some a16)) fun _ =>
  m_bd (m_gR 10 1 (some a0)) fun v17 =>
  m_bd (m_lk v17 10) fun _ =>
  m_bd (m_gR 10 1 (some a0)) fun v18 =>
  m_bd (m_new 5) fun a19 =>
  m_bd (fn_Th_init a19) fun _ =>
  m_bd (m_tR 7 5 v18 5 (some a19)) fun _ =>
  m_bd (m_gR 10 1 (some a0)) fun v20 =>
  m_bd (m_lk v20 10) fun _ =>
  m_bd (m_gR 10 1 (some a0)) fun v21 =>
  m_bd (m_new 5) fun a22 =>
  m_bd (fn_Th_init a22) fun _ =>
  m_bd (m_tR 7 5 v21 6 (some a22)) fun _ =>
  m_bd (m_gR 10 1 (some a0)) fun v23 =>
  m_bd (m_lk v23 10) fun _ =>
  m_bd (m_gR 10 1 (some a0)) fun v24 =>
  m_bd (m_new 5) fun a25 =>
  m_bd (fn_Th_init a25) fun _ =>
  m_bd (m_tR 7 5 v24 7 (some a25)) fun _ =>
  m_bd (m_gR 10 1 (some a0)) fun v26 =>
  m_bd (m_lk v26 10) fun _ =>
  m_bd (m_gR 10 1 (some a0)) fun v27 =>
  m_bd (m_new 5) fun a28 =>
  m_bd (fn_Th_init a28) fun _ =>
  m_bd (m_tR 7 5 v27 8 (some a28)) fun _ =>
  m_bd (m_gR 10 1 (some a0)) fun v29 =>
  m_bd (m_lk v29 10) fun _ =>
  m_bd (m_gR 10 1 (some a0)) fun v30 =>
  m_bd (m_new 5) fun a31 =>
  m_bd (fn_Th_init a31) fun _ =>
  m_bd (m_tR 7 5 v30 9 (some a31)) fun _ =>
  m_bd (m_gR 10 1 (some a0)) fun v32 =>
  m_bd (m_lk v32 10) fun _ =>
  m_bd (m_nea 0 10) fun a33 =>
  m_bd (m_pR 10 2 (some a0) (some a33)) fun _ =>
  m_rt ()
set_option maxHeartbeats 4000000 in
set_option maxRecDepth 100000 in
theorem sd_Ga_init (a0 : mA) : m_Sm k_Ga_init 2 12 70 [.inr (.inr (some a0))] (fn_Ga_init a0) (fun _ => none) := by
  refine ⟨Nat.le_of_ble_eq_true rfl, ?_⟩
  refine sm_th ?_
  refine sm_aload_n (i := 0) (j := 0) (pc' := 1) d_Ga_init_0 rfl rfl rfl (sm_objInit (pc' := 4) d_Ga_init_1 rfl w_ml_Ga_1 w_im_java_lang_Object__init_ w_co_java_lang_Object__init_ (by decide) rfl (sm_aload_n (i := 0) (j := 0) (pc' := 5) d_Ga_init_4 rfl rfl rfl (sm_bipush (pc' := 7) d_Ga_init_5 rfl ib_10 ?_)))
  refine sm_neq (t := 7) (mc := 11) (ms := 60) (pc' := 10) d_Ga_init_7 rfl ⟨by decide, by decide⟩ rfl w_kl_Ga_9 (by decide) (by decide) (by decide) (by decide) rfl rfl (fun a1 => ?_)
  refine sm_putR (pc' := 13) d_Ga_init_10 rfl fl_Ga_11 rfl (Or.inr ⟨rfl, rfl⟩) rfl (sm_iconst (pc' := 14) d_Ga_init_13 rfl ic_0 (sm_istore_n (i := 1) (L' := [(1, .inl 0), (0, .inr (.inr (some a0)))]) (pc' := 15) d_Ga_init_14 rfl rfl (Nat.le_of_ble_eq_true rfl) rfl (sm_iload_n (i := 1) (j := 0) (pc' := 16) d_Ga_init_15 rfl rfl rfl (sm_aload_n (i := 0) (j := 1) (pc' := 17) d_Ga_init_16 rfl rfl rfl ?_))))
  refine sm_getR (pc' := 20) d_Ga_init_17 rfl fl_Ga_11 rfl rfl (fun v2 => ?_)
  refine sm_alenK (v := 10) (pc' := 21) d_Ga_init_20 rfl (sm_icmp_ge_f (tgt := 43) (pc' := 24) d_Ga_init_21 rfl rfl (by decide) (sm_aload_n (i := 0) (j := 1) (pc' := 25) d_Ga_init_24 rfl rfl rfl ?_))
  refine sm_getR (pc' := 28) d_Ga_init_25 rfl fl_Ga_11 rfl rfl (fun v3 => ?_)
  refine sm_iload_n (i := 1) (j := 0) (pc' := 29) d_Ga_init_28 rfl rfl rfl ?_
  refine sm_new (mc := 10) (ms := 55) (pc' := 32) d_Ga_init_29 rfl nw_Ga_9 rfl rfl (fun a4 => ?_)
  refine sm_dup (pc' := 33) d_Ga_init_32 rfl rfl (sm_callI (av := []) (x := (some a4)) (st := [.inr (.inr (some a4)), .inl 0, .inr (.inr v3)]) (mc := 10) (ms := 55) (pc' := 36) d_Ga_init_33 rfl (sd_Th_init a4) (fun _ _ _ => rfl) ci_Th_init (Or.inr ⟨"RustFamily", by decide⟩) rfl rfl (by decide) (Nat.le_of_ble_eq_true rfl) rfl rfl (sm_aast (t := 7) (ci := 5) ⟨by decide, by decide⟩ rfl rfl rfl (pc' := 37) d_Ga_init_36 rfl (sm_iinc (j := 0) (L' := [(1, .inl 1), (0, .inr (.inr (some a0)))]) (pc' := 40) d_Ga_init_37 rfl (v := 1) rfl (by decide) (Nat.le_of_ble_eq_true rfl) rfl (sm_goto (tgt := 15) d_Ga_init_40 rfl (sm_iload_n (i := 1) (j := 0) (pc' := 16) d_Ga_init_15 rfl rfl rfl (sm_aload_n (i := 0) (j := 1) (pc' := 17) d_Ga_init_16 rfl rfl rfl ?_))))))
  refine sm_getR (pc' := 20) d_Ga_init_17 rfl fl_Ga_11 rfl rfl (fun v5 => ?_)
  refine sm_alenK (v := 10) (pc' := 21) d_Ga_init_20 rfl (sm_icmp_ge_f (tgt := 43) (pc' := 24) d_Ga_init_21 rfl rfl (by decide) (sm_aload_n (i := 0) (j := 1) (pc' := 25) d_Ga_init_24 rfl rfl rfl ?_))
  refine sm_getR (pc' := 28) d_Ga_init_25 rfl fl_Ga_11 rfl rfl (fun v6 => ?_)
  refine sm_iload_n (i := 1) (j := 0) (pc' := 29) d_Ga_init_28 rfl rfl rfl ?_
  refine sm_new (mc := 9) (ms := 50) (pc' := 32) d_Ga_init_29 rfl nw_Ga_9 rfl rfl (fun a7 => ?_)
  refine sm_dup (pc' := 33) d_Ga_init_32 rfl rfl (sm_callI (av := []) (x := (some a7)) (st := [.inr (.inr (some a7)), .inl 1, .inr (.inr v6)]) (mc := 9) (ms := 50) (pc' := 36) d_Ga_init_33 rfl (sd_Th_init a7) (fun _ _ _ => rfl) ci_Th_init (Or.inr ⟨"RustFamily", by decide⟩) rfl rfl (by decide) (Nat.le_of_ble_eq_true rfl) rfl rfl (sm_aast (t := 7) (ci := 5) ⟨by decide, by decide⟩ rfl rfl rfl (pc' := 37) d_Ga_init_36 rfl (sm_iinc (j := 0) (L' := [(1, .inl 2), (0, .inr (.inr (some a0)))]) (pc' := 40) d_Ga_init_37 rfl (v := 2) rfl (by decide) (Nat.le_of_ble_eq_true rfl) rfl (sm_goto (tgt := 15) d_Ga_init_40 rfl (sm_iload_n (i := 1) (j := 0) (pc' := 16) d_Ga_init_15 rfl rfl rfl (sm_aload_n (i := 0) (j := 1) (pc' := 17) d_Ga_init_16 rfl rfl rfl ?_))))))
  refine sm_getR (pc' := 20) d_Ga_init_17 rfl fl_Ga_11 rfl rfl (fun v8 => ?_)
  refine sm_alenK (v := 10) (pc' := 21) d_Ga_init_20 rfl (sm_icmp_ge_f (tgt := 43) (pc' := 24) d_Ga_init_21 rfl rfl (by decide) (sm_aload_n (i := 0) (j := 1) (pc' := 25) d_Ga_init_24 rfl rfl rfl ?_))
  refine sm_getR (pc' := 28) d_Ga_init_25 rfl fl_Ga_11 rfl rfl (fun v9 => ?_)
  refine sm_iload_n (i := 1) (j := 0) (pc' := 29) d_Ga_init_28 rfl rfl rfl ?_
  refine sm_new (mc := 8) (ms := 45) (pc' := 32) d_Ga_init_29 rfl nw_Ga_9 rfl rfl (fun a10 => ?_)
  refine sm_dup (pc' := 33) d_Ga_init_32 rfl rfl (sm_callI (av := []) (x := (some a10)) (st := [.inr (.inr (some a10)), .inl 2, .inr (.inr v9)]) (mc := 8) (ms := 45) (pc' := 36) d_Ga_init_33 rfl (sd_Th_init a10) (fun _ _ _ => rfl) ci_Th_init (Or.inr ⟨"RustFamily", by decide⟩) rfl rfl (by decide) (Nat.le_of_ble_eq_true rfl) rfl rfl (sm_aast (t := 7) (ci := 5) ⟨by decide, by decide⟩ rfl rfl rfl (pc' := 37) d_Ga_init_36 rfl (sm_iinc (j := 0) (L' := [(1, .inl 3), (0, .inr (.inr (some a0)))]) (pc' := 40) d_Ga_init_37 rfl (v := 3) rfl (by decide) (Nat.le_of_ble_eq_true rfl) rfl (sm_goto (tgt := 15) d_Ga_init_40 rfl (sm_iload_n (i := 1) (j := 0) (pc' := 16) d_Ga_init_15 rfl rfl rfl (sm_aload_n (i := 0) (j := 1) (pc' := 17) d_Ga_init_16 rfl rfl rfl ?_))))))
  refine sm_getR (pc' := 20) d_Ga_init_17 rfl fl_Ga_11 rfl rfl (fun v11 => ?_)
  refine sm_alenK (v := 10) (pc' := 21) d_Ga_init_20 rfl (sm_icmp_ge_f (tgt := 43) (pc' := 24) d_Ga_init_21 rfl rfl (by decide) (sm_aload_n (i := 0) (j := 1) (pc' := 25) d_Ga_init_24 rfl rfl rfl ?_))
  refine sm_getR (pc' := 28) d_Ga_init_25 rfl fl_Ga_11 rfl rfl (fun v12 => ?_)
  refine sm_iload_n (i := 1) (j := 0) (pc' := 29) d_Ga_init_28 rfl rfl rfl ?_
  refine sm_new (mc := 7) (ms := 40) (pc' := 32) d_Ga_init_29 rfl nw_Ga_9 rfl rfl (fun a13 => ?_)
  refine sm_dup (pc' := 33) d_Ga_init_32 rfl rfl (sm_callI (av := []) (x := (some a13)) (st := [.inr (.inr (some a13)), .inl 3, .inr (.inr v12)]) (mc := 7) (ms := 40) (pc' := 36) d_Ga_init_33 rfl (sd_Th_init a13) (fun _ _ _ => rfl) ci_Th_init (Or.inr ⟨"RustFamily", by decide⟩) rfl rfl (by decide) (Nat.le_of_ble_eq_true rfl) rfl rfl (sm_aast (t := 7) (ci := 5) ⟨by decide, by decide⟩ rfl rfl rfl (pc' := 37) d_Ga_init_36 rfl (sm_iinc (j := 0) (L' := [(1, .inl 4), (0, .inr (.inr (some a0)))]) (pc' := 40) d_Ga_init_37 rfl (v := 4) rfl (by decide) (Nat.le_of_ble_eq_true rfl) rfl (sm_goto (tgt := 15) d_Ga_init_40 rfl (sm_iload_n (i := 1) (j := 0) (pc' := 16) d_Ga_init_15 rfl rfl rfl (sm_aload_n (i := 0) (j := 1) (pc' := 17) d_Ga_init_16 rfl rfl rfl ?_))))))
  refine sm_getR (pc' := 20) d_Ga_init_17 rfl fl_Ga_11 rfl rfl (fun v14 => ?_)
  refine sm_alenK (v := 10) (pc' := 21) d_Ga_init_20 rfl (sm_icmp_ge_f (tgt := 43) (pc' := 24) d_Ga_init_21 rfl rfl (by decide) (sm_aload_n (i := 0) (j := 1) (pc' := 25) d_Ga_init_24 rfl rfl rfl ?_))
  refine sm_getR (pc' := 28) d_Ga_init_25 rfl fl_Ga_11 rfl rfl (fun v15 => ?_)
  refine sm_iload_n (i := 1) (j := 0) (pc' := 29) d_Ga_init_28 rfl rfl rfl ?_
  refine sm_new (mc := 6) (ms := 35) (pc' := 32) d_Ga_init_29 rfl nw_Ga_9 rfl rfl (fun a16 => ?_)
  refine sm_dup (pc' := 33) d_Ga_init_32 rfl rfl (sm_callI (av := []) (x := (some a16)) (st := [.inr (.inr (some a16)), .inl 4, .inr (.inr v15)]) (mc := 6) (ms := 35) (pc' := 36) d_Ga_init_33 rfl (sd_Th_init a16) (fun _ _ _ => rfl) ci_Th_init (Or.inr ⟨"RustFamily", by decide⟩) rfl rfl (by decide) (Nat.le_of_ble_eq_true rfl) rfl rfl (sm_aast (t := 7) (ci := 5) ⟨by decide, by decide⟩ rfl rfl rfl (pc' := 37) d_Ga_init_36 rfl (sm_iinc (j := 0) (L' := [(1, .inl 5), (0, .inr (.inr (some a0)))]) (pc' := 40) d_Ga_init_37 rfl (v := 5) rfl (by decide) (Nat.le_of_ble_eq_true rfl) rfl (sm_goto (tgt := 15) d_Ga_init_40 rfl (sm_iload_n (i := 1) (j := 0) (pc' := 16) d_Ga_init_15 rfl rfl rfl (sm_aload_n (i := 0) (j := 1) (pc' := 17) d_Ga_init_16 rfl rfl rfl ?_))))))
  refine sm_getR (pc' := 20) d_Ga_init_17 rfl fl_Ga_11 rfl rfl (fun v17 => ?_)
  refine sm_alenK (v := 10) (pc' := 21) d_Ga_init_20 rfl (sm_icmp_ge_f (tgt := 43) (pc' := 24) d_Ga_init_21 rfl rfl (by decide) (sm_aload_n (i := 0) (j := 1) (pc' := 25) d_Ga_init_24 rfl rfl rfl ?_))
  refine sm_getR (pc' := 28) d_Ga_init_25 rfl fl_Ga_11 rfl rfl (fun v18 => ?_)
  refine sm_iload_n (i := 1) (j := 0) (pc' := 29) d_Ga_init_28 rfl rfl rfl ?_
  refine sm_new (mc := 5) (ms := 30) (pc' := 32) d_Ga_init_29 rfl nw_Ga_9 rfl rfl (fun a19 => ?_)
  refine sm_dup (pc' := 33) d_Ga_init_32 rfl rfl (sm_callI (av := []) (x := (some a19)) (st := [.inr (.inr (some a19)), .inl 5, .inr (.inr v18)]) (mc := 5) (ms := 30) (pc' := 36) d_Ga_init_33 rfl (sd_Th_init a19) (fun _ _ _ => rfl) ci_Th_init (Or.inr ⟨"RustFamily", by decide⟩) rfl rfl (by decide) (Nat.le_of_ble_eq_true rfl) rfl rfl (sm_aast (t := 7) (ci := 5) ⟨by decide, by decide⟩ rfl rfl rfl (pc' := 37) d_Ga_init_36 rfl (sm_iinc (j := 0) (L' := [(1, .inl 6), (0, .inr (.inr (some a0)))]) (pc' := 40) d_Ga_init_37 rfl (v := 6) rfl (by decide) (Nat.le_of_ble_eq_true rfl) rfl (sm_goto (tgt := 15) d_Ga_init_40 rfl (sm_iload_n (i := 1) (j := 0) (pc' := 16) d_Ga_init_15 rfl rfl rfl (sm_aload_n (i := 0) (j := 1) (pc' := 17) d_Ga_init_16 rfl rfl rfl ?_))))))
  refine sm_getR (pc' := 20) d_Ga_init_17 rfl fl_Ga_11 rfl rfl (fun v20 => ?_)
  refine sm_alenK (v := 10) (pc' := 21) d_Ga_init_20 rfl (sm_icmp_ge_f (tgt := 43) (pc' := 24) d_Ga_init_21 rfl rfl (by decide) (sm_aload_n (i := 0) (j := 1) (pc' := 25) d_Ga_init_24 rfl rfl rfl ?_))
  refine sm_getR (pc' := 28) d_Ga_init_25 rfl fl_Ga_11 rfl rfl (fun v21 => ?_)
  refine sm_iload_n (i := 1) (j := 0) (pc' := 29) d_Ga_init_28 rfl rfl rfl ?_
  refine sm_new (mc := 4) (ms := 25) (pc' := 32) d_Ga_init_29 rfl nw_Ga_9 rfl rfl (fun a22 => ?_)
  refine sm_dup (pc' := 33) d_Ga_init_32 rfl rfl (sm_callI (av := []) (x := (some a22)) (st := [.inr (.inr (some a22)), .inl 6, .inr (.inr v21)]) (mc := 4) (ms := 25) (pc' := 36) d_Ga_init_33 rfl (sd_Th_init a22) (fun _ _ _ => rfl) ci_Th_init (Or.inr ⟨"RustFamily", by decide⟩) rfl rfl (by decide) (Nat.le_of_ble_eq_true rfl) rfl rfl (sm_aast (t := 7) (ci := 5) ⟨by decide, by decide⟩ rfl rfl rfl (pc' := 37) d_Ga_init_36 rfl (sm_iinc (j := 0) (L' := [(1, .inl 7), (0, .inr (.inr (some a0)))]) (pc' := 40) d_Ga_init_37 rfl (v := 7) rfl (by decide) (Nat.le_of_ble_eq_true rfl) rfl (sm_goto (tgt := 15) d_Ga_init_40 rfl (sm_iload_n (i := 1) (j := 0) (pc' := 16) d_Ga_init_15 rfl rfl rfl (sm_aload_n (i := 0) (j := 1) (pc' := 17) d_Ga_init_16 rfl rfl rfl ?_))))))
  refine sm_getR (pc' := 20) d_Ga_init_17 rfl fl_Ga_11 rfl rfl (fun v23 => ?_)
  refine sm_alenK (v := 10) (pc' := 21) d_Ga_init_20 rfl (sm_icmp_ge_f (tgt := 43) (pc' := 24) d_Ga_init_21 rfl rfl (by decide) (sm_aload_n (i := 0) (j := 1) (pc' := 25) d_Ga_init_24 rfl rfl rfl ?_))
  refine sm_getR (pc' := 28) d_Ga_init_25 rfl fl_Ga_11 rfl rfl (fun v24 => ?_)
  refine sm_iload_n (i := 1) (j := 0) (pc' := 29) d_Ga_init_28 rfl rfl rfl ?_
  refine sm_new (mc := 3) (ms := 20) (pc' := 32) d_Ga_init_29 rfl nw_Ga_9 rfl rfl (fun a25 => ?_)
  refine sm_dup (pc' := 33) d_Ga_init_32 rfl rfl (sm_callI (av := []) (x := (some a25)) (st := [.inr (.inr (some a25)), .inl 7, .inr (.inr v24)]) (mc := 3) (ms := 20) (pc' := 36) d_Ga_init_33 rfl (sd_Th_init a25) (fun _ _ _ => rfl) ci_Th_init (Or.inr ⟨"RustFamily", by decide⟩) rfl rfl (by decide) (Nat.le_of_ble_eq_true rfl) rfl rfl (sm_aast (t := 7) (ci := 5) ⟨by decide, by decide⟩ rfl rfl rfl (pc' := 37) d_Ga_init_36 rfl (sm_iinc (j := 0) (L' := [(1, .inl 8), (0, .inr (.inr (some a0)))]) (pc' := 40) d_Ga_init_37 rfl (v := 8) rfl (by decide) (Nat.le_of_ble_eq_true rfl) rfl (sm_goto (tgt := 15) d_Ga_init_40 rfl (sm_iload_n (i := 1) (j := 0) (pc' := 16) d_Ga_init_15 rfl rfl rfl (sm_aload_n (i := 0) (j := 1) (pc' := 17) d_Ga_init_16 rfl rfl rfl ?_))))))
  refine sm_getR (pc' := 20) d_Ga_init_17 rfl fl_Ga_11 rfl rfl (fun v26 => ?_)
  refine sm_alenK (v := 10) (pc' := 21) d_Ga_init_20 rfl (sm_icmp_ge_f (tgt := 43) (pc' := 24) d_Ga_init_21 rfl rfl (by decide) (sm_aload_n (i := 0) (j := 1) (pc' := 25) d_Ga_init_24 rfl rfl rfl ?_))
  refine sm_getR (pc' := 28) d_Ga_init_25 rfl fl_Ga_11 rfl rfl (fun v27 => ?_)
  refine sm_iload_n (i := 1) (j := 0) (pc' := 29) d_Ga_init_28 rfl rfl rfl ?_
  refine sm_new (mc := 2) (ms := 15) (pc' := 32) d_Ga_init_29 rfl nw_Ga_9 rfl rfl (fun a28 => ?_)
  refine sm_dup (pc' := 33) d_Ga_init_32 rfl rfl (sm_callI (av := []) (x := (some a28)) (st := [.inr (.inr (some a28)), .inl 8, .inr (.inr v27)]) (mc := 2) (ms := 15) (pc' := 36) d_Ga_init_33 rfl (sd_Th_init a28) (fun _ _ _ => rfl) ci_Th_init (Or.inr ⟨"RustFamily", by decide⟩) rfl rfl (by decide) (Nat.le_of_ble_eq_true rfl) rfl rfl (sm_aast (t := 7) (ci := 5) ⟨by decide, by decide⟩ rfl rfl rfl (pc' := 37) d_Ga_init_36 rfl (sm_iinc (j := 0) (L' := [(1, .inl 9), (0, .inr (.inr (some a0)))]) (pc' := 40) d_Ga_init_37 rfl (v := 9) rfl (by decide) (Nat.le_of_ble_eq_true rfl) rfl (sm_goto (tgt := 15) d_Ga_init_40 rfl (sm_iload_n (i := 1) (j := 0) (pc' := 16) d_Ga_init_15 rfl rfl rfl (sm_aload_n (i := 0) (j := 1) (pc' := 17) d_Ga_init_16 rfl rfl rfl ?_))))))
  refine sm_getR (pc' := 20) d_Ga_init_17 rfl fl_Ga_11 rfl rfl (fun v29 => ?_)
  refine sm_alenK (v := 10) (pc' := 21) d_Ga_init_20 rfl (sm_icmp_ge_f (tgt := 43) (pc' := 24) d_Ga_init_21 rfl rfl (by decide) (sm_aload_n (i := 0) (j := 1) (pc' := 25) d_Ga_init_24 rfl rfl rfl ?_))
  refine sm_getR (pc' := 28) d_Ga_init_25 rfl fl_Ga_11 rfl rfl (fun v30 => ?_)
  refine sm_iload_n (i := 1) (j := 0) (pc' := 29) d_Ga_init_28 rfl rfl rfl ?_
  refine sm_new (mc := 1) (ms := 10) (pc' := 32) d_Ga_init_29 rfl nw_Ga_9 rfl rfl (fun a31 => ?_)
  refine sm_dup (pc' := 33) d_Ga_init_32 rfl rfl (sm_callI (av := []) (x := (some a31)) (st := [.inr (.inr (some a31)), .inl 9, .inr (.inr v30)]) (mc := 1) (ms := 10) (pc' := 36) d_Ga_init_33 rfl (sd_Th_init a31) (fun _ _ _ => rfl) ci_Th_init (Or.inr ⟨"RustFamily", by decide⟩) rfl rfl (by decide) (Nat.le_of_ble_eq_true rfl) rfl rfl (sm_aast (t := 7) (ci := 5) ⟨by decide, by decide⟩ rfl rfl rfl (pc' := 37) d_Ga_init_36 rfl (sm_iinc (j := 0) (L' := [(1, .inl 10), (0, .inr (.inr (some a0)))]) (pc' := 40) d_Ga_init_37 rfl (v := 10) rfl (by decide) (Nat.le_of_ble_eq_true rfl) rfl (sm_goto (tgt := 15) d_Ga_init_40 rfl (sm_iload_n (i := 1) (j := 0) (pc' := 16) d_Ga_init_15 rfl rfl rfl (sm_aload_n (i := 0) (j := 1) (pc' := 17) d_Ga_init_16 rfl rfl rfl ?_))))))
  refine sm_getR (pc' := 20) d_Ga_init_17 rfl fl_Ga_11 rfl rfl (fun v32 => ?_)
  refine sm_alenK (v := 10) (pc' := 21) d_Ga_init_20 rfl (sm_icmp_ge_t (tgt := 43) d_Ga_init_21 rfl (by decide) (sm_aload_n (i := 0) (j := 1) (pc' := 44) d_Ga_init_43 rfl rfl rfl (sm_bipush (pc' := 46) d_Ga_init_44 rfl ib_10 ?_)))
  refine sm_nea (t := 0) (mc := 0) (ms := 0) (pc' := 48) d_Ga_init_46 rfl rfl (by decide) w_ac_int (by decide) (by decide) (by decide) rfl rfl (fun a33 => ?_)
  refine sm_putR (pc' := 51) d_Ga_init_48 rfl fl_Ga_16 rfl (Or.inr ⟨rfl, rfl⟩) rfl ?_
  exact sm_return d_Ga_init_51 rfl rfl
theorem d_Ke_init_0 : m_D k_Ke_init 0 (.aload_n 0) 1 := (by decide +kernel : decode prog_5_method_1_code 0 = .ok (.aload_n 0, 1))
theorem d_Ke_init_1 : m_D k_Ke_init 1 (.invokespecial 3) 3 := (by decide +kernel : decode prog_5_method_1_code 1 = .ok (.invokespecial 3, 3))
theorem d_Ke_init_4 : m_D k_Ke_init 4 (.aload_n 0) 1 := (by decide +kernel : decode prog_5_method_1_code 4 = .ok (.aload_n 0, 1))
theorem d_Ke_init_5 : m_D k_Ke_init 5 (.bipush 6) 2 := (by decide +kernel : decode prog_5_method_1_code 5 = .ok (.bipush 6, 2))
theorem d_Ke_init_7 : m_D k_Ke_init 7 (.newarray .int) 2 := (by decide +kernel : decode prog_5_method_1_code 7 = .ok (.newarray .int, 2))
theorem d_Ke_init_9 : m_D k_Ke_init 9 (.putfield 9) 3 := (by decide +kernel : decode prog_5_method_1_code 9 = .ok (.putfield 9, 3))
theorem d_Ke_init_12 : m_D k_Ke_init 12 (.aload_n 0) 1 := (by decide +kernel : decode prog_5_method_1_code 12 = .ok (.aload_n 0, 1))
theorem d_Ke_init_13 : m_D k_Ke_init 13 (.bipush 8) 2 := (by decide +kernel : decode prog_5_method_1_code 13 = .ok (.bipush 8, 2))
theorem d_Ke_init_15 : m_D k_Ke_init 15 (.newarray .int) 2 := (by decide +kernel : decode prog_5_method_1_code 15 = .ok (.newarray .int, 2))
theorem d_Ke_init_17 : m_D k_Ke_init 17 (.putfield 15) 3 := (by decide +kernel : decode prog_5_method_1_code 17 = .ok (.putfield 15, 3))
theorem d_Ke_init_20 : m_D k_Ke_init 20 (.aload_n 0) 1 := (by decide +kernel : decode prog_5_method_1_code 20 = .ok (.aload_n 0, 1))
theorem d_Ke_init_21 : m_D k_Ke_init 21 (.bipush 6) 2 := (by decide +kernel : decode prog_5_method_1_code 21 = .ok (.bipush 6, 2))
theorem d_Ke_init_23 : m_D k_Ke_init 23 (.newarray .int) 2 := (by decide +kernel : decode prog_5_method_1_code 23 = .ok (.newarray .int, 2))
theorem d_Ke_init_25 : m_D k_Ke_init 25 (.putfield 18) 3 := (by decide +kernel : decode prog_5_method_1_code 25 = .ok (.putfield 18, 3))
theorem d_Ke_init_28 : m_D k_Ke_init 28 (.aload_n 0) 1 := (by decide +kernel : decode prog_5_method_1_code 28 = .ok (.aload_n 0, 1))
theorem d_Ke_init_29 : m_D k_Ke_init 29 (.bipush 6) 2 := (by decide +kernel : decode prog_5_method_1_code 29 = .ok (.bipush 6, 2))
theorem d_Ke_init_31 : m_D k_Ke_init 31 (.newarray .int) 2 := (by decide +kernel : decode prog_5_method_1_code 31 = .ok (.newarray .int, 2))
theorem d_Ke_init_33 : m_D k_Ke_init 33 (.putfield 21) 3 := (by decide +kernel : decode prog_5_method_1_code 33 = .ok (.putfield 21, 3))
theorem d_Ke_init_36 : m_D k_Ke_init 36 (.aload_n 0) 1 := (by decide +kernel : decode prog_5_method_1_code 36 = .ok (.aload_n 0, 1))
theorem d_Ke_init_37 : m_D k_Ke_init 37 (.sipush 256) 3 := (by decide +kernel : decode prog_5_method_1_code 37 = .ok (.sipush 256, 3))
theorem d_Ke_init_40 : m_D k_Ke_init 40 (.newarray .int) 2 := (by decide +kernel : decode prog_5_method_1_code 40 = .ok (.newarray .int, 2))
theorem d_Ke_init_42 : m_D k_Ke_init 42 (.putfield 24) 3 := (by decide +kernel : decode prog_5_method_1_code 42 = .ok (.putfield 24, 3))
theorem d_Ke_init_45 : m_D k_Ke_init 45 (.return_) 1 := (by decide +kernel : decode prog_5_method_1_code 45 = .ok (.return_, 1))
def fn_Ke_init (a0 : mA) : mP Unit :=
  m_th 9 (some a0) <|
  m_bd (m_nea 0 6) fun a1 =>
  m_bd (m_pR 9 0 (some a0) (some a1)) fun _ =>
  m_bd (m_nea 0 8) fun a2 =>
  m_bd (m_pR 9 1 (some a0) (some a2)) fun _ =>
  m_bd (m_nea 0 6) fun a3 =>
  m_bd (m_pR 9 2 (some a0) (some a3)) fun _ =>
  m_bd (m_nea 0 6) fun a4 =>
  m_bd (m_pR 9 3 (some a0) (some a4)) fun _ =>
  m_bd (m_nea 0 256) fun a5 =>
  m_bd (m_pR 9 5 (some a0) (some a5)) fun _ =>
  m_rt ()
set_option maxHeartbeats 4000000 in
set_option maxRecDepth 100000 in
theorem sd_Ke_init (a0 : mA) : m_Sm k_Ke_init 1 5 282 [.inr (.inr (some a0))] (fn_Ke_init a0) (fun _ => none) := by
  refine ⟨Nat.le_of_ble_eq_true rfl, ?_⟩
  refine sm_th ?_
  refine sm_aload_n (i := 0) (j := 0) (pc' := 1) d_Ke_init_0 rfl rfl rfl (sm_objInit (pc' := 4) d_Ke_init_1 rfl w_ml_Ke_3 w_im_java_lang_Object__init_ w_co_java_lang_Object__init_ (by decide) rfl (sm_aload_n (i := 0) (j := 0) (pc' := 5) d_Ke_init_4 rfl rfl rfl (sm_bipush (pc' := 7) d_Ke_init_5 rfl ib_6 ?_)))
  refine sm_nea (t := 0) (mc := 4) (ms := 276) (pc' := 9) d_Ke_init_7 rfl rfl (by decide) w_ac_int (by decide) (by decide) (by decide) rfl rfl (fun a1 => ?_)
  refine sm_putR (pc' := 12) d_Ke_init_9 rfl fl_Ke_9 rfl (Or.inr ⟨rfl, rfl⟩) rfl (sm_aload_n (i := 0) (j := 0) (pc' := 13) d_Ke_init_12 rfl rfl rfl (sm_bipush (pc' := 15) d_Ke_init_13 rfl ib_8 ?_))
  refine sm_nea (t := 0) (mc := 3) (ms := 268) (pc' := 17) d_Ke_init_15 rfl rfl (by decide) w_ac_int (by decide) (by decide) (by decide) rfl rfl (fun a2 => ?_)
  refine sm_putR (pc' := 20) d_Ke_init_17 rfl fl_Ke_15 rfl (Or.inr ⟨rfl, rfl⟩) rfl (sm_aload_n (i := 0) (j := 0) (pc' := 21) d_Ke_init_20 rfl rfl rfl (sm_bipush (pc' := 23) d_Ke_init_21 rfl ib_6 ?_))
  refine sm_nea (t := 0) (mc := 2) (ms := 262) (pc' := 25) d_Ke_init_23 rfl rfl (by decide) w_ac_int (by decide) (by decide) (by decide) rfl rfl (fun a3 => ?_)
  refine sm_putR (pc' := 28) d_Ke_init_25 rfl fl_Ke_18 rfl (Or.inr ⟨rfl, rfl⟩) rfl (sm_aload_n (i := 0) (j := 0) (pc' := 29) d_Ke_init_28 rfl rfl rfl (sm_bipush (pc' := 31) d_Ke_init_29 rfl ib_6 ?_))
  refine sm_nea (t := 0) (mc := 1) (ms := 256) (pc' := 33) d_Ke_init_31 rfl rfl (by decide) w_ac_int (by decide) (by decide) (by decide) rfl rfl (fun a4 => ?_)
  refine sm_putR (pc' := 36) d_Ke_init_33 rfl fl_Ke_21 rfl (Or.inr ⟨rfl, rfl⟩) rfl (sm_aload_n (i := 0) (j := 0) (pc' := 37) d_Ke_init_36 rfl rfl rfl (sm_sipush (pc' := 40) d_Ke_init_37 rfl is_256 ?_))
  refine sm_nea (t := 0) (mc := 0) (ms := 0) (pc' := 42) d_Ke_init_40 rfl rfl (by decide) w_ac_int (by decide) (by decide) (by decide) rfl rfl (fun a5 => ?_)
  refine sm_putR (pc' := 45) d_Ke_init_42 rfl fl_Ke_24 rfl (Or.inr ⟨rfl, rfl⟩) rfl ?_
  exact sm_return d_Ke_init_45 rfl rfl
theorem d_Si_init_0 : m_D k_Si_init 0 (.aload_n 0) 1 := (by decide +kernel : decode prog_9_method_1_code 0 = .ok (.aload_n 0, 1))
theorem d_Si_init_1 : m_D k_Si_init 1 (.invokespecial 5) 3 := (by decide +kernel : decode prog_9_method_1_code 1 = .ok (.invokespecial 5, 3))
theorem d_Si_init_4 : m_D k_Si_init 4 (.aload_n 0) 1 := (by decide +kernel : decode prog_9_method_1_code 4 = .ok (.aload_n 0, 1))
theorem d_Si_init_5 : m_D k_Si_init 5 (.bipush 19) 2 := (by decide +kernel : decode prog_9_method_1_code 5 = .ok (.bipush 19, 2))
theorem d_Si_init_7 : m_D k_Si_init 7 (.newarray .boolean) 2 := (by decide +kernel : decode prog_9_method_1_code 7 = .ok (.newarray .boolean, 2))
theorem d_Si_init_9 : m_D k_Si_init 9 (.putfield 11) 3 := (by decide +kernel : decode prog_9_method_1_code 9 = .ok (.putfield 11, 3))
theorem d_Si_init_12 : m_D k_Si_init 12 (.aload_n 0) 1 := (by decide +kernel : decode prog_9_method_1_code 12 = .ok (.aload_n 0, 1))
theorem d_Si_init_13 : m_D k_Si_init 13 (.bipush 19) 2 := (by decide +kernel : decode prog_9_method_1_code 13 = .ok (.bipush 19, 2))
theorem d_Si_init_15 : m_D k_Si_init 15 (.newarray .int) 2 := (by decide +kernel : decode prog_9_method_1_code 15 = .ok (.newarray .int, 2))
theorem d_Si_init_17 : m_D k_Si_init 17 (.putfield 15) 3 := (by decide +kernel : decode prog_9_method_1_code 17 = .ok (.putfield 15, 3))
theorem d_Si_init_20 : m_D k_Si_init 20 (.return_) 1 := (by decide +kernel : decode prog_9_method_1_code 20 = .ok (.return_, 1))
def fn_Si_init (a0 : mA) : mP Unit :=
  m_th 8 (some a0) <|
  m_bd (m_nea 3 19) fun a1 =>
  m_bd (m_pR 8 0 (some a0) (some a1)) fun _ =>
  m_bd (m_nea 0 19) fun a2 =>
  m_bd (m_pR 8 1 (some a0) (some a2)) fun _ =>
  m_rt ()
set_option maxHeartbeats 4000000 in
set_option maxRecDepth 100000 in
theorem sd_Si_init (a0 : mA) : m_Sm k_Si_init 1 2 38 [.inr (.inr (some a0))] (fn_Si_init a0) (fun _ => none) := by
  refine ⟨Nat.le_of_ble_eq_true rfl, ?_⟩
  refine sm_th ?_
  refine sm_aload_n (i := 0) (j := 0) (pc' := 1) d_Si_init_0 rfl rfl rfl (sm_objInit (pc' := 4) d_Si_init_1 rfl w_ml_Si_5 w_im_java_lang_Object__init_ w_co_java_lang_Object__init_ (by decide) rfl (sm_aload_n (i := 0) (j := 0) (pc' := 5) d_Si_init_4 rfl rfl rfl (sm_bipush (pc' := 7) d_Si_init_5 rfl ib_19 ?_)))
  refine sm_nea (t := 3) (mc := 1) (ms := 19) (pc' := 9) d_Si_init_7 rfl rfl (by decide) w_ac_boolean (by decide) (by decide) (by decide) rfl rfl (fun a1 => ?_)
  refine sm_putR (pc' := 12) d_Si_init_9 rfl fl_Si_11 rfl (Or.inr ⟨rfl, rfl⟩) rfl (sm_aload_n (i := 0) (j := 0) (pc' := 13) d_Si_init_12 rfl rfl rfl (sm_bipush (pc' := 15) d_Si_init_13 rfl ib_19 ?_))
  refine sm_nea (t := 0) (mc := 0) (ms := 0) (pc' := 17) d_Si_init_15 rfl rfl (by decide) w_ac_int (by decide) (by decide) (by decide) rfl rfl (fun a2 => ?_)
  refine sm_putR (pc' := 20) d_Si_init_17 rfl fl_Si_15 rfl (Or.inr ⟨rfl, rfl⟩) rfl ?_
  exact sm_return d_Si_init_20 rfl rfl
theorem d_Tx_init_0 : m_D k_Tx_init 0 (.aload_n 0) 1 := (by decide +kernel : decode prog_10_method_1_code 0 = .ok (.aload_n 0, 1))
theorem d_Tx_init_1 : m_D k_Tx_init 1 (.invokespecial 3) 3 := (by decide +kernel : decode prog_10_method_1_code 1 = .ok (.invokespecial 3, 3))
theorem d_Tx_init_4 : m_D k_Tx_init 4 (.aload_n 0) 1 := (by decide +kernel : decode prog_10_method_1_code 4 = .ok (.aload_n 0, 1))
theorem d_Tx_init_5 : m_D k_Tx_init 5 (.sipush 900) 3 := (by decide +kernel : decode prog_10_method_1_code 5 = .ok (.sipush 900, 3))
theorem d_Tx_init_8 : m_D k_Tx_init 8 (.newarray .byte) 2 := (by decide +kernel : decode prog_10_method_1_code 8 = .ok (.newarray .byte, 2))
theorem d_Tx_init_10 : m_D k_Tx_init 10 (.putfield 9) 3 := (by decide +kernel : decode prog_10_method_1_code 10 = .ok (.putfield 9, 3))
theorem d_Tx_init_13 : m_D k_Tx_init 13 (.aload_n 0) 1 := (by decide +kernel : decode prog_10_method_1_code 13 = .ok (.aload_n 0, 1))
theorem d_Tx_init_14 : m_D k_Tx_init 14 (.iconst (-1)) 1 := (by decide +kernel : decode prog_10_method_1_code 14 = .ok (.iconst (-1), 1))
theorem d_Tx_init_15 : m_D k_Tx_init 15 (.putfield 15) 3 := (by decide +kernel : decode prog_10_method_1_code 15 = .ok (.putfield 15, 3))
theorem d_Tx_init_18 : m_D k_Tx_init 18 (.aload_n 0) 1 := (by decide +kernel : decode prog_10_method_1_code 18 = .ok (.aload_n 0, 1))
theorem d_Tx_init_19 : m_D k_Tx_init 19 (.iconst (-1)) 1 := (by decide +kernel : decode prog_10_method_1_code 19 = .ok (.iconst (-1), 1))
theorem d_Tx_init_20 : m_D k_Tx_init 20 (.putfield 19) 3 := (by decide +kernel : decode prog_10_method_1_code 20 = .ok (.putfield 19, 3))
theorem d_Tx_init_23 : m_D k_Tx_init 23 (.return_) 1 := (by decide +kernel : decode prog_10_method_1_code 23 = .ok (.return_, 1))
def fn_Tx_init (a0 : mA) : mP Unit :=
  m_th 2 (some a0) <|
  m_bd (m_nea 2 900) fun a1 =>
  m_bd (m_pR 2 0 (some a0) (some a1)) fun _ =>
  m_bd (m_pI 2 10 (some a0) (-1)) fun _ =>
  m_bd (m_pI 2 11 (some a0) (-1)) fun _ =>
  m_rt ()
set_option maxHeartbeats 4000000 in
set_option maxRecDepth 100000 in
theorem sd_Tx_init (a0 : mA) : m_Sm k_Tx_init 1 1 900 [.inr (.inr (some a0))] (fn_Tx_init a0) (fun _ => none) := by
  refine ⟨Nat.le_of_ble_eq_true rfl, ?_⟩
  refine sm_th ?_
  refine sm_aload_n (i := 0) (j := 0) (pc' := 1) d_Tx_init_0 rfl rfl rfl (sm_objInit (pc' := 4) d_Tx_init_1 rfl w_ml_Tx_3 w_im_java_lang_Object__init_ w_co_java_lang_Object__init_ (by decide) rfl (sm_aload_n (i := 0) (j := 0) (pc' := 5) d_Tx_init_4 rfl rfl rfl (sm_sipush (pc' := 8) d_Tx_init_5 rfl is_900 ?_)))
  refine sm_nea (t := 2) (mc := 0) (ms := 0) (pc' := 10) d_Tx_init_8 rfl rfl (by decide) w_ac_byte (by decide) (by decide) (by decide) rfl rfl (fun a1 => ?_)
  refine sm_putR (pc' := 13) d_Tx_init_10 rfl fl_Tx_9 rfl (Or.inr ⟨rfl, rfl⟩) rfl (sm_aload_n (i := 0) (j := 0) (pc' := 14) d_Tx_init_13 rfl rfl rfl (sm_iconst (pc' := 15) d_Tx_init_14 rfl ic_m1 (sm_putI (pc' := 18) d_Tx_init_15 rfl fl_Tx_15 (Or.inl rfl) rfl (sm_aload_n (i := 0) (j := 0) (pc' := 19) d_Tx_init_18 rfl rfl rfl (sm_iconst (pc' := 20) d_Tx_init_19 rfl ic_m1 (sm_putI (pc' := 23) d_Tx_init_20 rfl fl_Tx_19 (Or.inl rfl) rfl ?_))))))
  exact sm_return d_Tx_init_23 rfl rfl
theorem d_Tr_init_0 : m_D k_Tr_init 0 (.aload_n 0) 1 := (by decide +kernel : decode prog_12_method_1_code 0 = .ok (.aload_n 0, 1))
theorem d_Tr_init_1 : m_D k_Tr_init 1 (.invokespecial 3) 3 := (by decide +kernel : decode prog_12_method_1_code 1 = .ok (.invokespecial 3, 3))
theorem d_Tr_init_4 : m_D k_Tr_init 4 (.aload_n 0) 1 := (by decide +kernel : decode prog_12_method_1_code 4 = .ok (.aload_n 0, 1))
theorem d_Tr_init_5 : m_D k_Tr_init 5 (.iconst (-1)) 1 := (by decide +kernel : decode prog_12_method_1_code 5 = .ok (.iconst (-1), 1))
theorem d_Tr_init_6 : m_D k_Tr_init 6 (.putfield 9) 3 := (by decide +kernel : decode prog_12_method_1_code 6 = .ok (.putfield 9, 3))
theorem d_Tr_init_9 : m_D k_Tr_init 9 (.aload_n 0) 1 := (by decide +kernel : decode prog_12_method_1_code 9 = .ok (.aload_n 0, 1))
theorem d_Tr_init_10 : m_D k_Tr_init 10 (.iconst 0) 1 := (by decide +kernel : decode prog_12_method_1_code 10 = .ok (.iconst 0, 1))
theorem d_Tr_init_11 : m_D k_Tr_init 11 (.putfield 15) 3 := (by decide +kernel : decode prog_12_method_1_code 11 = .ok (.putfield 15, 3))
theorem d_Tr_init_14 : m_D k_Tr_init 14 (.aload_n 0) 1 := (by decide +kernel : decode prog_12_method_1_code 14 = .ok (.aload_n 0, 1))
theorem d_Tr_init_15 : m_D k_Tr_init 15 (.bipush 60) 2 := (by decide +kernel : decode prog_12_method_1_code 15 = .ok (.bipush 60, 2))
theorem d_Tr_init_17 : m_D k_Tr_init 17 (.newarray .long) 2 := (by decide +kernel : decode prog_12_method_1_code 17 = .ok (.newarray .long, 2))
theorem d_Tr_init_19 : m_D k_Tr_init 19 (.putfield 18) 3 := (by decide +kernel : decode prog_12_method_1_code 19 = .ok (.putfield 18, 3))
theorem d_Tr_init_22 : m_D k_Tr_init 22 (.return_) 1 := (by decide +kernel : decode prog_12_method_1_code 22 = .ok (.return_, 1))
def fn_Tr_init (a0 : mA) : mP Unit :=
  m_th 1 (some a0) <|
  m_bd (m_pI 1 0 (some a0) (-1)) fun _ =>
  m_bd (m_pI 1 1 (some a0) 0) fun _ =>
  m_bd (m_nea 1 60) fun a1 =>
  m_bd (m_pR 1 2 (some a0) (some a1)) fun _ =>
  m_rt ()
set_option maxHeartbeats 4000000 in
set_option maxRecDepth 100000 in
theorem sd_Tr_init (a0 : mA) : m_Sm k_Tr_init 1 1 60 [.inr (.inr (some a0))] (fn_Tr_init a0) (fun _ => none) := by
  refine ⟨Nat.le_of_ble_eq_true rfl, ?_⟩
  refine sm_th ?_
  refine sm_aload_n (i := 0) (j := 0) (pc' := 1) d_Tr_init_0 rfl rfl rfl (sm_objInit (pc' := 4) d_Tr_init_1 rfl w_ml_Tr_3 w_im_java_lang_Object__init_ w_co_java_lang_Object__init_ (by decide) rfl (sm_aload_n (i := 0) (j := 0) (pc' := 5) d_Tr_init_4 rfl rfl rfl (sm_iconst (pc' := 6) d_Tr_init_5 rfl ic_m1 (sm_putI (pc' := 9) d_Tr_init_6 rfl fl_Tr_9 (Or.inl rfl) rfl (sm_aload_n (i := 0) (j := 0) (pc' := 10) d_Tr_init_9 rfl rfl rfl (sm_iconst (pc' := 11) d_Tr_init_10 rfl ic_0 (sm_putI (pc' := 14) d_Tr_init_11 rfl fl_Tr_15 (Or.inl rfl) rfl (sm_aload_n (i := 0) (j := 0) (pc' := 15) d_Tr_init_14 rfl rfl rfl (sm_bipush (pc' := 17) d_Tr_init_15 rfl ib_60 ?_)))))))))
  refine sm_nea (t := 1) (mc := 0) (ms := 0) (pc' := 19) d_Tr_init_17 rfl rfl (by decide) w_ac_long (by decide) (by decide) (by decide) rfl rfl (fun a1 => ?_)
  refine sm_putR (pc' := 22) d_Tr_init_19 rfl fl_Tr_18 rfl (Or.inr ⟨rfl, rfl⟩) rfl ?_
  exact sm_return d_Tr_init_22 rfl rfl
theorem d_C_init_0 : m_D k_C_init 0 (.aload_n 0) 1 := (by decide +kernel : decode prog_1_method_1_code 0 = .ok (.aload_n 0, 1))
theorem d_C_init_1 : m_D k_C_init 1 (.invokespecial 1) 3 := (by decide +kernel : decode prog_1_method_1_code 1 = .ok (.invokespecial 1, 3))
theorem d_C_init_4 : m_D k_C_init 4 (.aload_n 0) 1 := (by decide +kernel : decode prog_1_method_1_code 4 = .ok (.aload_n 0, 1))
theorem d_C_init_5 : m_D k_C_init 5 (.iconst 0) 1 := (by decide +kernel : decode prog_1_method_1_code 5 = .ok (.iconst 0, 1))
theorem d_C_init_6 : m_D k_C_init 6 (.putfield 9) 3 := (by decide +kernel : decode prog_1_method_1_code 6 = .ok (.putfield 9, 3))
theorem d_C_init_9 : m_D k_C_init 9 (.aload_n 0) 1 := (by decide +kernel : decode prog_1_method_1_code 9 = .ok (.aload_n 0, 1))
theorem d_C_init_10 : m_D k_C_init 10 (.lconst 0) 1 := (by decide +kernel : decode prog_1_method_1_code 10 = .ok (.lconst 0, 1))
theorem d_C_init_11 : m_D k_C_init 11 (.putfield 13) 3 := (by decide +kernel : decode prog_1_method_1_code 11 = .ok (.putfield 13, 3))
theorem d_C_init_14 : m_D k_C_init 14 (.aload_n 0) 1 := (by decide +kernel : decode prog_1_method_1_code 14 = .ok (.aload_n 0, 1))
theorem d_C_init_15 : m_D k_C_init 15 (.lconst 1) 1 := (by decide +kernel : decode prog_1_method_1_code 15 = .ok (.lconst 1, 1))
theorem d_C_init_16 : m_D k_C_init 16 (.putfield 17) 3 := (by decide +kernel : decode prog_1_method_1_code 16 = .ok (.putfield 17, 3))
theorem d_C_init_19 : m_D k_C_init 19 (.aload_n 0) 1 := (by decide +kernel : decode prog_1_method_1_code 19 = .ok (.aload_n 0, 1))
theorem d_C_init_20 : m_D k_C_init 20 (.iconst 4) 1 := (by decide +kernel : decode prog_1_method_1_code 20 = .ok (.iconst 4, 1))
theorem d_C_init_21 : m_D k_C_init 21 (.anewarray 20) 3 := (by decide +kernel : decode prog_1_method_1_code 21 = .ok (.anewarray 20, 3))
theorem d_C_init_24 : m_D k_C_init 24 (.putfield 22) 3 := (by decide +kernel : decode prog_1_method_1_code 24 = .ok (.putfield 22, 3))
theorem d_C_init_27 : m_D k_C_init 27 (.iconst 0) 1 := (by decide +kernel : decode prog_1_method_1_code 27 = .ok (.iconst 0, 1))
theorem d_C_init_28 : m_D k_C_init 28 (.istore_n 1) 1 := (by decide +kernel : decode prog_1_method_1_code 28 = .ok (.istore_n 1, 1))
theorem d_C_init_29 : m_D k_C_init 29 (.iload_n 1) 1 := (by decide +kernel : decode prog_1_method_1_code 29 = .ok (.iload_n 1, 1))
theorem d_C_init_30 : m_D k_C_init 30 (.iconst 4) 1 := (by decide +kernel : decode prog_1_method_1_code 30 = .ok (.iconst 4, 1))
theorem d_C_init_31 : m_D k_C_init 31 (.if_icmp .ge 22) 3 := (by decide +kernel : decode prog_1_method_1_code 31 = .ok (.if_icmp .ge 22, 3))
theorem d_C_init_34 : m_D k_C_init 34 (.aload_n 0) 1 := (by decide +kernel : decode prog_1_method_1_code 34 = .ok (.aload_n 0, 1))
theorem d_C_init_35 : m_D k_C_init 35 (.getfield 22) 3 := (by decide +kernel : decode prog_1_method_1_code 35 = .ok (.getfield 22, 3))
theorem d_C_init_38 : m_D k_C_init 38 (.iload_n 1) 1 := (by decide +kernel : decode prog_1_method_1_code 38 = .ok (.iload_n 1, 1))
theorem d_C_init_39 : m_D k_C_init 39 (.new 20) 3 := (by decide +kernel : decode prog_1_method_1_code 39 = .ok (.new 20, 3))
theorem d_C_init_42 : m_D k_C_init 42 (.dup) 1 := (by decide +kernel : decode prog_1_method_1_code 42 = .ok (.dup, 1))
theorem d_C_init_43 : m_D k_C_init 43 (.invokespecial 26) 3 := (by decide +kernel : decode prog_1_method_1_code 43 = .ok (.invokespecial 26, 3))
theorem d_C_init_46 : m_D k_C_init 46 (.aastore) 1 := (by decide +kernel : decode prog_1_method_1_code 46 = .ok (.aastore, 1))
theorem d_C_init_47 : m_D k_C_init 47 (.iinc 1 1) 3 := (by decide +kernel : decode prog_1_method_1_code 47 = .ok (.iinc 1 1, 3))
theorem d_C_init_50 : m_D k_C_init 50 (.goto (-21)) 3 := (by decide +kernel : decode prog_1_method_1_code 50 = .ok (.goto (-21), 3))
theorem d_C_init_53 : m_D k_C_init 53 (.aload_n 0) 1 := (by decide +kernel : decode prog_1_method_1_code 53 = .ok (.aload_n 0, 1))
theorem d_C_init_54 : m_D k_C_init 54 (.new 27) 3 := (by decide +kernel : decode prog_1_method_1_code 54 = .ok (.new 27, 3))
theorem d_C_init_57 : m_D k_C_init 57 (.dup) 1 := (by decide +kernel : decode prog_1_method_1_code 57 = .ok (.dup, 1))
theorem d_C_init_58 : m_D k_C_init 58 (.invokespecial 29) 3 := (by decide +kernel : decode prog_1_method_1_code 58 = .ok (.invokespecial 29, 3))
theorem d_C_init_61 : m_D k_C_init 61 (.putfield 30) 3 := (by decide +kernel : decode prog_1_method_1_code 61 = .ok (.putfield 30, 3))
theorem d_C_init_64 : m_D k_C_init 64 (.aload_n 0) 1 := (by decide +kernel : decode prog_1_method_1_code 64 = .ok (.aload_n 0, 1))
theorem d_C_init_65 : m_D k_C_init 65 (.new 34) 3 := (by decide +kernel : decode prog_1_method_1_code 65 = .ok (.new 34, 3))
theorem d_C_init_68 : m_D k_C_init 68 (.dup) 1 := (by decide +kernel : decode prog_1_method_1_code 68 = .ok (.dup, 1))
theorem d_C_init_69 : m_D k_C_init 69 (.invokespecial 36) 3 := (by decide +kernel : decode prog_1_method_1_code 69 = .ok (.invokespecial 36, 3))
theorem d_C_init_72 : m_D k_C_init 72 (.putfield 37) 3 := (by decide +kernel : decode prog_1_method_1_code 72 = .ok (.putfield 37, 3))
theorem d_C_init_75 : m_D k_C_init 75 (.aload_n 0) 1 := (by decide +kernel : decode prog_1_method_1_code 75 = .ok (.aload_n 0, 1))
theorem d_C_init_76 : m_D k_C_init 76 (.new 34) 3 := (by decide +kernel : decode prog_1_method_1_code 76 = .ok (.new 34, 3))
theorem d_C_init_79 : m_D k_C_init 79 (.dup) 1 := (by decide +kernel : decode prog_1_method_1_code 79 = .ok (.dup, 1))
theorem d_C_init_80 : m_D k_C_init 80 (.invokespecial 36) 3 := (by decide +kernel : decode prog_1_method_1_code 80 = .ok (.invokespecial 36, 3))
theorem d_C_init_83 : m_D k_C_init 83 (.putfield 41) 3 := (by decide +kernel : decode prog_1_method_1_code 83 = .ok (.putfield 41, 3))
theorem d_C_init_86 : m_D k_C_init 86 (.aload_n 0) 1 := (by decide +kernel : decode prog_1_method_1_code 86 = .ok (.aload_n 0, 1))
theorem d_C_init_87 : m_D k_C_init 87 (.new 44) 3 := (by decide +kernel : decode prog_1_method_1_code 87 = .ok (.new 44, 3))
theorem d_C_init_90 : m_D k_C_init 90 (.dup) 1 := (by decide +kernel : decode prog_1_method_1_code 90 = .ok (.dup, 1))
theorem d_C_init_91 : m_D k_C_init 91 (.invokespecial 46) 3 := (by decide +kernel : decode prog_1_method_1_code 91 = .ok (.invokespecial 46, 3))
theorem d_C_init_94 : m_D k_C_init 94 (.putfield 47) 3 := (by decide +kernel : decode prog_1_method_1_code 94 = .ok (.putfield 47, 3))
theorem d_C_init_97 : m_D k_C_init 97 (.aload_n 0) 1 := (by decide +kernel : decode prog_1_method_1_code 97 = .ok (.aload_n 0, 1))
theorem d_C_init_98 : m_D k_C_init 98 (.iconst 3) 1 := (by decide +kernel : decode prog_1_method_1_code 98 = .ok (.iconst 3, 1))
theorem d_C_init_99 : m_D k_C_init 99 (.anewarray 34) 3 := (by decide +kernel : decode prog_1_method_1_code 99 = .ok (.anewarray 34, 3))
theorem d_C_init_102 : m_D k_C_init 102 (.putfield 51) 3 := (by decide +kernel : decode prog_1_method_1_code 102 = .ok (.putfield 51, 3))
theorem d_C_init_105 : m_D k_C_init 105 (.aload_n 0) 1 := (by decide +kernel : decode prog_1_method_1_code 105 = .ok (.aload_n 0, 1))
theorem d_C_init_106 : m_D k_C_init 106 (.iconst 0) 1 := (by decide +kernel : decode prog_1_method_1_code 106 = .ok (.iconst 0, 1))
theorem d_C_init_107 : m_D k_C_init 107 (.putfield 55) 3 := (by decide +kernel : decode prog_1_method_1_code 107 = .ok (.putfield 55, 3))
theorem d_C_init_110 : m_D k_C_init 110 (.aload_n 0) 1 := (by decide +kernel : decode prog_1_method_1_code 110 = .ok (.aload_n 0, 1))
theorem d_C_init_111 : m_D k_C_init 111 (.new 58) 3 := (by decide +kernel : decode prog_1_method_1_code 111 = .ok (.new 58, 3))
theorem d_C_init_114 : m_D k_C_init 114 (.dup) 1 := (by decide +kernel : decode prog_1_method_1_code 114 = .ok (.dup, 1))
theorem d_C_init_115 : m_D k_C_init 115 (.invokespecial 60) 3 := (by decide +kernel : decode prog_1_method_1_code 115 = .ok (.invokespecial 60, 3))
theorem d_C_init_118 : m_D k_C_init 118 (.putfield 61) 3 := (by decide +kernel : decode prog_1_method_1_code 118 = .ok (.putfield 61, 3))
theorem d_C_init_121 : m_D k_C_init 121 (.aload_n 0) 1 := (by decide +kernel : decode prog_1_method_1_code 121 = .ok (.aload_n 0, 1))
theorem d_C_init_122 : m_D k_C_init 122 (.new 65) 3 := (by decide +kernel : decode prog_1_method_1_code 122 = .ok (.new 65, 3))
theorem d_C_init_125 : m_D k_C_init 125 (.dup) 1 := (by decide +kernel : decode prog_1_method_1_code 125 = .ok (.dup, 1))
theorem d_C_init_126 : m_D k_C_init 126 (.invokespecial 67) 3 := (by decide +kernel : decode prog_1_method_1_code 126 = .ok (.invokespecial 67, 3))
theorem d_C_init_129 : m_D k_C_init 129 (.putfield 68) 3 := (by decide +kernel : decode prog_1_method_1_code 129 = .ok (.putfield 68, 3))
theorem d_C_init_132 : m_D k_C_init 132 (.aload_n 0) 1 := (by decide +kernel : decode prog_1_method_1_code 132 = .ok (.aload_n 0, 1))
theorem d_C_init_133 : m_D k_C_init 133 (.new 72) 3 := (by decide +kernel : decode prog_1_method_1_code 133 = .ok (.new 72, 3))
theorem d_C_init_136 : m_D k_C_init 136 (.dup) 1 := (by decide +kernel : decode prog_1_method_1_code 136 = .ok (.dup, 1))
theorem d_C_init_137 : m_D k_C_init 137 (.invokespecial 74) 3 := (by decide +kernel : decode prog_1_method_1_code 137 = .ok (.invokespecial 74, 3))
theorem d_C_init_140 : m_D k_C_init 140 (.putfield 75) 3 := (by decide +kernel : decode prog_1_method_1_code 140 = .ok (.putfield 75, 3))
theorem d_C_init_143 : m_D k_C_init 143 (.aload_n 0) 1 := (by decide +kernel : decode prog_1_method_1_code 143 = .ok (.aload_n 0, 1))
theorem d_C_init_144 : m_D k_C_init 144 (.new 79) 3 := (by decide +kernel : decode prog_1_method_1_code 144 = .ok (.new 79, 3))
theorem d_C_init_147 : m_D k_C_init 147 (.dup) 1 := (by decide +kernel : decode prog_1_method_1_code 147 = .ok (.dup, 1))
theorem d_C_init_148 : m_D k_C_init 148 (.invokespecial 81) 3 := (by decide +kernel : decode prog_1_method_1_code 148 = .ok (.invokespecial 81, 3))
theorem d_C_init_151 : m_D k_C_init 151 (.putfield 82) 3 := (by decide +kernel : decode prog_1_method_1_code 151 = .ok (.putfield 82, 3))
theorem d_C_init_154 : m_D k_C_init 154 (.aload_n 0) 1 := (by decide +kernel : decode prog_1_method_1_code 154 = .ok (.aload_n 0, 1))
theorem d_C_init_155 : m_D k_C_init 155 (.iconst 5) 1 := (by decide +kernel : decode prog_1_method_1_code 155 = .ok (.iconst 5, 1))
theorem d_C_init_156 : m_D k_C_init 156 (.newarray .int) 2 := (by decide +kernel : decode prog_1_method_1_code 156 = .ok (.newarray .int, 2))
theorem d_C_init_158 : m_D k_C_init 158 (.putfield 86) 3 := (by decide +kernel : decode prog_1_method_1_code 158 = .ok (.putfield 86, 3))
theorem d_C_init_161 : m_D k_C_init 161 (.aload_n 0) 1 := (by decide +kernel : decode prog_1_method_1_code 161 = .ok (.aload_n 0, 1))
theorem d_C_init_162 : m_D k_C_init 162 (.iconst 0) 1 := (by decide +kernel : decode prog_1_method_1_code 162 = .ok (.iconst 0, 1))
theorem d_C_init_163 : m_D k_C_init 163 (.putfield 90) 3 := (by decide +kernel : decode prog_1_method_1_code 163 = .ok (.putfield 90, 3))
theorem d_C_init_166 : m_D k_C_init 166 (.return_) 1 := (by decide +kernel : decode prog_1_method_1_code 166 = .ok (.return_, 1))
def fn_C_init (a0 : mA) : mP Unit :=
  m_th 0 (some a0) <|
  m_bd (m_pI 0 0 (some a0) 0) fun _ =>
  m_bd (m_pJ 0 1 (some a0) 0) fun _ =>
  m_bd (m_pJ 0 2 (some a0) 1) fun _ =>
  m_bd (m_nea 4 4) fun a1 =>
  m_bd (m_pR 0 3 (some a0) (some a1)) fun _ =>
  m_bd (m_gR 0 3 (some a0)) fun v2 =>
  m_bd (m_new 1) fun a3 =>
  m_bd (fn_Tr_init a3) fun _ =>
  m_bd (m_tR 4 1 v2 0 (some a3)) fun _ =>
  m_bd (m_gR 0 3 (some a0)) fun v4 =>
  m_bd (m_new 1) fun a5 =>
  m_bd (fn_Tr_init a5) fun _ =>
  m_bd (m_tR 4 1 v4 1 (some a5)) fun _ =>
  m_bd (m_gR 0 3 (some a0)) fun v6 =>
  m_bd (m_new 1) fun a7 =>
  m_bd (fn_Tr_init a7) fun _ =>
  m_bd (m_tR 4 1 v6 2 (some a7)) fun _ =>
  m_bd (m_gR 0 3 (some a0)) fun v8 =>
  m_bd (m_new 1) fun a9 =>
  m_bd (fn_Tr_init a9) fun _ =>
  m_bd (m_tR 4 1 v8 3 (some a9)) fun _ =>
  m_bd (m_new 2) fun a10 =>
  m_bd (fn_Tx_init a10) fun _ =>
  m_bd (m_pR 0 4 (some a0) (some a10)) fun _ =>
  m_bd (m_new 3) fun a11 =>
  m_bd (fn_Fa_init a11) fun _ =>
  m_bd (m_pR 0 5 (some a0) (some a11)) fun _ =>
  m_bd (m_new 3) fun a12 =>
  m_bd (fn_Fa_init a12) fun _ =>
  m_bd (m_pR 0 6 (some a0) (some a12)) fun _ =>
  m_bd (m_new 6) fun a13 =>
  m_bd (fn_Pl_init a13) fun _ =>
  m_bd (m_pR 0 7 (some a0) (some a13)) fun _ =>
  m_bd (m_nea 5 3) fun a14 =>
  m_bd (m_pR 0 8 (some a0) (some a14)) fun _ =>
  m_bd (m_pI 0 9 (some a0) 0) fun _ =>
  m_bd (m_new 7) fun a15 =>
  m_bd (fn_Ah_init a15) fun _ =>
  m_bd (m_pR 0 10 (some a0) (some a15)) fun _ =>
  m_bd (m_new 8) fun a16 =>
  m_bd (fn_Si_init a16) fun _ =>
  m_bd (m_pR 0 11 (some a0) (some a16)) fun _ =>
  m_bd (m_new 9) fun a17 =>
  m_bd (fn_Ke_init a17) fun _ =>
  m_bd (m_pR 0 12 (some a0) (some a17)) fun _ =>
  m_bd (m_new 10) fun a18 =>
  m_bd (fn_Ga_init a18) fun _ =>
  m_bd (m_pR 0 13 (some a0) (some a18)) fun _ =>
  m_bd (m_nea 0 5) fun a19 =>
  m_bd (m_pR 0 14 (some a0) (some a19)) fun _ =>
  m_bd (m_pZ 0 15 (some a0) 0) fun _ =>
  m_rt ()
set_option maxHeartbeats 4000000 in
set_option maxRecDepth 100000 in
theorem sd_C_init (a0 : mA) : m_Sm k_C_init 3 109 3117 [.inr (.inr (some a0))] (fn_C_init a0) (fun _ => none) := by
  refine ⟨Nat.le_of_ble_eq_true rfl, ?_⟩
  refine sm_th ?_
  refine sm_aload_n (i := 0) (j := 0) (pc' := 1) d_C_init_0 rfl rfl rfl (sm_objInit (pc' := 4) d_C_init_1 rfl w_ml_C_1 w_im_java_lang_Object__init_ w_co_java_lang_Object__init_ (by decide) rfl (sm_aload_n (i := 0) (j := 0) (pc' := 5) d_C_init_4 rfl rfl rfl (sm_iconst (pc' := 6) d_C_init_5 rfl ic_0 (sm_putI (pc' := 9) d_C_init_6 rfl fl_C_9 (Or.inl rfl) rfl (sm_aload_n (i := 0) (j := 0) (pc' := 10) d_C_init_9 rfl rfl rfl (sm_lconst (pc' := 11) (v := 0) d_C_init_10 rfl rfl (sm_putJ (pc' := 14) d_C_init_11 rfl fl_C_13 (Or.inl rfl) rfl (sm_aload_n (i := 0) (j := 0) (pc' := 15) d_C_init_14 rfl rfl rfl (sm_lconst (pc' := 16) (v := 1) d_C_init_15 rfl rfl ?_)))))))))
  refine sm_putJ (pc' := 19) d_C_init_16 rfl fl_C_17 (Or.inl rfl) rfl (sm_aload_n (i := 0) (j := 0) (pc' := 20) d_C_init_19 rfl rfl rfl (sm_iconst (pc' := 21) d_C_init_20 rfl ic_4 ?_))
  refine sm_neq (t := 4) (mc := 108) (ms := 3113) (pc' := 24) d_C_init_21 rfl ⟨by decide, by decide⟩ rfl w_kl_C_20 (by decide) (by decide) (by decide) (by decide) rfl rfl (fun a1 => ?_)
  refine sm_putR (pc' := 27) d_C_init_24 rfl fl_C_22 rfl (Or.inr ⟨rfl, rfl⟩) rfl (sm_iconst (pc' := 28) d_C_init_27 rfl ic_0 (sm_istore_n (i := 1) (L' := [(1, .inl 0), (0, .inr (.inr (some a0)))]) (pc' := 29) d_C_init_28 rfl rfl (Nat.le_of_ble_eq_true rfl) rfl (sm_iload_n (i := 1) (j := 0) (pc' := 30) d_C_init_29 rfl rfl rfl (sm_iconst (pc' := 31) d_C_init_30 rfl ic_4 (sm_icmp_ge_f (tgt := 53) (pc' := 34) d_C_init_31 rfl rfl (by decide) (sm_aload_n (i := 0) (j := 1) (pc' := 35) d_C_init_34 rfl rfl rfl ?_))))))
  refine sm_getR (pc' := 38) d_C_init_35 rfl fl_C_22 rfl rfl (fun v2 => ?_)
  refine sm_iload_n (i := 1) (j := 0) (pc' := 39) d_C_init_38 rfl rfl rfl ?_
  refine sm_new (mc := 107) (ms := 3110) (pc' := 42) d_C_init_39 rfl nw_C_20 rfl rfl (fun a3 => ?_)
  refine sm_dup (pc' := 43) d_C_init_42 rfl rfl (sm_callI (av := []) (x := (some a3)) (st := [.inr (.inr (some a3)), .inl 0, .inr (.inr v2)]) (mc := 106) (ms := 3050) (pc' := 46) d_C_init_43 rfl (sd_Tr_init a3) (fun _ _ _ => rfl) ci_Tr_init (Or.inl w_ml_C_26) rfl rfl (by decide) (Nat.le_of_ble_eq_true rfl) rfl rfl (sm_aast (t := 4) (ci := 1) ⟨by decide, by decide⟩ rfl rfl rfl (pc' := 47) d_C_init_46 rfl (sm_iinc (j := 0) (L' := [(1, .inl 1), (0, .inr (.inr (some a0)))]) (pc' := 50) d_C_init_47 rfl (v := 1) rfl (by decide) (Nat.le_of_ble_eq_true rfl) rfl (sm_goto (tgt := 29) d_C_init_50 rfl (sm_iload_n (i := 1) (j := 0) (pc' := 30) d_C_init_29 rfl rfl rfl (sm_iconst (pc' := 31) d_C_init_30 rfl ic_4 (sm_icmp_ge_f (tgt := 53) (pc' := 34) d_C_init_31 rfl rfl (by decide) (sm_aload_n (i := 0) (j := 1) (pc' := 35) d_C_init_34 rfl rfl rfl ?_))))))))
  refine sm_getR (pc' := 38) d_C_init_35 rfl fl_C_22 rfl rfl (fun v4 => ?_)
  refine sm_iload_n (i := 1) (j := 0) (pc' := 39) d_C_init_38 rfl rfl rfl ?_
  refine sm_new (mc := 105) (ms := 3047) (pc' := 42) d_C_init_39 rfl nw_C_20 rfl rfl (fun a5 => ?_)
  refine sm_dup (pc' := 43) d_C_init_42 rfl rfl (sm_callI (av := []) (x := (some a5)) (st := [.inr (.inr (some a5)), .inl 1, .inr (.inr v4)]) (mc := 104) (ms := 2987) (pc' := 46) d_C_init_43 rfl (sd_Tr_init a5) (fun _ _ _ => rfl) ci_Tr_init (Or.inl w_ml_C_26) rfl rfl (by decide) (Nat.le_of_ble_eq_true rfl) rfl rfl (sm_aast (t := 4) (ci := 1) ⟨by decide, by decide⟩ rfl rfl rfl (pc' := 47) d_C_init_46 rfl (sm_iinc (j := 0) (L' := [(1, .inl 2), (0, .inr (.inr (some a0)))]) (pc' := 50) d_C_init_47 rfl (v := 2) rfl (by decide) (Nat.le_of_ble_eq_true rfl) rfl (sm_goto (tgt := 29) d_C_init_50 rfl (sm_iload_n (i := 1) (j := 0) (pc' := 30) d_C_init_29 rfl rfl rfl (sm_iconst (pc' := 31) d_C_init_30 rfl ic_4 (sm_icmp_ge_f (tgt := 53) (pc' := 34) d_C_init_31 rfl rfl (by decide) (sm_aload_n (i := 0) (j := 1) (pc' := 35) d_C_init_34 rfl rfl rfl ?_))))))))
  refine sm_getR (pc' := 38) d_C_init_35 rfl fl_C_22 rfl rfl (fun v6 => ?_)
  refine sm_iload_n (i := 1) (j := 0) (pc' := 39) d_C_init_38 rfl rfl rfl ?_
  refine sm_new (mc := 103) (ms := 2984) (pc' := 42) d_C_init_39 rfl nw_C_20 rfl rfl (fun a7 => ?_)
  refine sm_dup (pc' := 43) d_C_init_42 rfl rfl (sm_callI (av := []) (x := (some a7)) (st := [.inr (.inr (some a7)), .inl 2, .inr (.inr v6)]) (mc := 102) (ms := 2924) (pc' := 46) d_C_init_43 rfl (sd_Tr_init a7) (fun _ _ _ => rfl) ci_Tr_init (Or.inl w_ml_C_26) rfl rfl (by decide) (Nat.le_of_ble_eq_true rfl) rfl rfl (sm_aast (t := 4) (ci := 1) ⟨by decide, by decide⟩ rfl rfl rfl (pc' := 47) d_C_init_46 rfl (sm_iinc (j := 0) (L' := [(1, .inl 3), (0, .inr (.inr (some a0)))]) (pc' := 50) d_C_init_47 rfl (v := 3) rfl (by decide) (Nat.le_of_ble_eq_true rfl) rfl (sm_goto (tgt := 29) d_C_init_50 rfl (sm_iload_n (i := 1) (j := 0) (pc' := 30) d_C_init_29 rfl rfl rfl (sm_iconst (pc' := 31) d_C_init_30 rfl ic_4 (sm_icmp_ge_f (tgt := 53) (pc' := 34) d_C_init_31 rfl rfl (by decide) (sm_aload_n (i := 0) (j := 1) (pc' := 35) d_C_init_34 rfl rfl rfl ?_))))))))
  refine sm_getR (pc' := 38) d_C_init_35 rfl fl_C_22 rfl rfl (fun v8 => ?_)
  refine sm_iload_n (i := 1) (j := 0) (pc' := 39) d_C_init_38 rfl rfl rfl ?_
  refine sm_new (mc := 101) (ms := 2921) (pc' := 42) d_C_init_39 rfl nw_C_20 rfl rfl (fun a9 => ?_)
  refine sm_dup (pc' := 43) d_C_init_42 rfl rfl (sm_callI (av := []) (x := (some a9)) (st := [.inr (.inr (some a9)), .inl 3, .inr (.inr v8)]) (mc := 100) (ms := 2861) (pc' := 46) d_C_init_43 rfl (sd_Tr_init a9) (fun _ _ _ => rfl) ci_Tr_init (Or.inl w_ml_C_26) rfl rfl (by decide) (Nat.le_of_ble_eq_true rfl) rfl rfl (sm_aast (t := 4) (ci := 1) ⟨by decide, by decide⟩ rfl rfl rfl (pc' := 47) d_C_init_46 rfl (sm_iinc (j := 0) (L' := [(1, .inl 4), (0, .inr (.inr (some a0)))]) (pc' := 50) d_C_init_47 rfl (v := 4) rfl (by decide) (Nat.le_of_ble_eq_true rfl) rfl (sm_goto (tgt := 29) d_C_init_50 rfl (sm_iload_n (i := 1) (j := 0) (pc' := 30) d_C_init_29 rfl rfl rfl (sm_iconst (pc' := 31) d_C_init_30 rfl ic_4 (sm_icmp_ge_t (tgt := 53) d_C_init_31 rfl (by decide) (sm_aload_n (i := 0) (j := 1) (pc' := 54) d_C_init_53 rfl rfl rfl ?_))))))))
  refine sm_new (mc := 99) (ms := 2849) (pc' := 57) d_C_init_54 rfl nw_C_27 rfl rfl (fun a10 => ?_)
  refine sm_dup (pc' := 58) d_C_init_57 rfl rfl (sm_callI (av := []) (x := (some a10)) (st := [.inr (.inr (some a10)), .inr (.inr (some a0))]) (mc := 98) (ms := 1949) (pc' := 61) d_C_init_58 rfl (sd_Tx_init a10) (fun _ _ _ => rfl) ci_Tx_init (Or.inl w_ml_C_29) rfl rfl (by decide) (Nat.le_of_ble_eq_true rfl) rfl rfl (sm_putR (pc' := 64) d_C_init_61 rfl fl_C_30 rfl (Or.inr ⟨rfl, rfl⟩) rfl (sm_aload_n (i := 0) (j := 1) (pc' := 65) d_C_init_64 rfl rfl rfl ?_)))
  refine sm_new (mc := 97) (ms := 1939) (pc' := 68) d_C_init_65 rfl nw_C_34 rfl rfl (fun a11 => ?_)
  refine sm_dup (pc' := 69) d_C_init_68 rfl rfl (sm_callI (av := []) (x := (some a11)) (st := [.inr (.inr (some a11)), .inr (.inr (some a0))]) (mc := 67) (ms := 1637) (pc' := 72) d_C_init_69 rfl (sd_Fa_init a11) (fun _ _ _ => rfl) ci_Fa_init (Or.inl w_ml_C_36) rfl rfl (by decide) (Nat.le_of_ble_eq_true rfl) rfl rfl (sm_putR (pc' := 75) d_C_init_72 rfl fl_C_37 rfl (Or.inl rfl) rfl (sm_aload_n (i := 0) (j := 1) (pc' := 76) d_C_init_75 rfl rfl rfl ?_)))
  refine sm_new (mc := 66) (ms := 1627) (pc' := 79) d_C_init_76 rfl nw_C_34 rfl rfl (fun a12 => ?_)
  refine sm_dup (pc' := 80) d_C_init_79 rfl rfl (sm_callI (av := []) (x := (some a12)) (st := [.inr (.inr (some a12)), .inr (.inr (some a0))]) (mc := 36) (ms := 1325) (pc' := 83) d_C_init_80 rfl (sd_Fa_init a12) (fun _ _ _ => rfl) ci_Fa_init (Or.inl w_ml_C_36) rfl rfl (by decide) (Nat.le_of_ble_eq_true rfl) rfl rfl (sm_putR (pc' := 86) d_C_init_83 rfl fl_C_41 rfl (Or.inl rfl) rfl (sm_aload_n (i := 0) (j := 1) (pc' := 87) d_C_init_86 rfl rfl rfl ?_)))
  refine sm_new (mc := 35) (ms := 1311) (pc' := 90) d_C_init_87 rfl nw_C_44 rfl rfl (fun a13 => ?_)
  refine sm_dup (pc' := 91) d_C_init_90 rfl rfl (sm_callI (av := []) (x := (some a13)) (st := [.inr (.inr (some a13)), .inr (.inr (some a0))]) (mc := 28) (ms := 1155) (pc' := 94) d_C_init_91 rfl (sd_Pl_init a13) (fun _ _ _ => rfl) ci_Pl_init (Or.inl w_ml_C_46) rfl rfl (by decide) (Nat.le_of_ble_eq_true rfl) rfl rfl (sm_putR (pc' := 97) d_C_init_94 rfl fl_C_47 rfl (Or.inl rfl) rfl (sm_aload_n (i := 0) (j := 1) (pc' := 98) d_C_init_97 rfl rfl rfl (sm_iconst (pc' := 99) d_C_init_98 rfl ic_3 ?_))))
  refine sm_neq (t := 5) (mc := 27) (ms := 1152) (pc' := 102) d_C_init_99 rfl ⟨by decide, by decide⟩ rfl w_kl_C_34 (by decide) (by decide) (by decide) (by decide) rfl rfl (fun a14 => ?_)
  refine sm_putR (pc' := 105) d_C_init_102 rfl fl_C_51 rfl (Or.inr ⟨rfl, rfl⟩) rfl (sm_aload_n (i := 0) (j := 1) (pc' := 106) d_C_init_105 rfl rfl rfl (sm_iconst (pc' := 107) d_C_init_106 rfl ic_0 (sm_putI (pc' := 110) d_C_init_107 rfl fl_C_55 (Or.inl rfl) rfl (sm_aload_n (i := 0) (j := 1) (pc' := 111) d_C_init_110 rfl rfl rfl ?_))))
  refine sm_new (mc := 26) (ms := 1147) (pc' := 114) d_C_init_111 rfl nw_C_58 rfl rfl (fun a15 => ?_)
  refine sm_dup (pc' := 115) d_C_init_114 rfl rfl (sm_callI (av := []) (x := (some a15)) (st := [.inr (.inr (some a15)), .inr (.inr (some a0))]) (mc := 23) (ms := 407) (pc' := 118) d_C_init_115 rfl (sd_Ah_init a15) (fun _ _ _ => rfl) ci_Ah_init (Or.inl w_ml_C_60) rfl rfl (by decide) (Nat.le_of_ble_eq_true rfl) rfl rfl (sm_putR (pc' := 121) d_C_init_118 rfl fl_C_61 rfl (Or.inr ⟨rfl, rfl⟩) rfl (sm_aload_n (i := 0) (j := 1) (pc' := 122) d_C_init_121 rfl rfl rfl ?_)))
  refine sm_new (mc := 22) (ms := 404) (pc' := 125) d_C_init_122 rfl nw_C_65 rfl rfl (fun a16 => ?_)
  refine sm_dup (pc' := 126) d_C_init_125 rfl rfl (sm_callI (av := []) (x := (some a16)) (st := [.inr (.inr (some a16)), .inr (.inr (some a0))]) (mc := 20) (ms := 366) (pc' := 129) d_C_init_126 rfl (sd_Si_init a16) (fun _ _ _ => rfl) ci_Si_init (Or.inl w_ml_C_67) rfl rfl (by decide) (Nat.le_of_ble_eq_true rfl) rfl rfl (sm_putR (pc' := 132) d_C_init_129 rfl fl_C_68 rfl (Or.inr ⟨rfl, rfl⟩) rfl (sm_aload_n (i := 0) (j := 1) (pc' := 133) d_C_init_132 rfl rfl rfl ?_)))
  refine sm_new (mc := 19) (ms := 360) (pc' := 136) d_C_init_133 rfl nw_C_72 rfl rfl (fun a17 => ?_)
  refine sm_dup (pc' := 137) d_C_init_136 rfl rfl (sm_callI (av := []) (x := (some a17)) (st := [.inr (.inr (some a17)), .inr (.inr (some a0))]) (mc := 14) (ms := 78) (pc' := 140) d_C_init_137 rfl (sd_Ke_init a17) (fun _ _ _ => rfl) ci_Ke_init (Or.inl w_ml_C_74) rfl rfl (by decide) (Nat.le_of_ble_eq_true rfl) rfl rfl (sm_putR (pc' := 143) d_C_init_140 rfl fl_C_75 rfl (Or.inr ⟨rfl, rfl⟩) rfl (sm_aload_n (i := 0) (j := 1) (pc' := 144) d_C_init_143 rfl rfl rfl ?_)))
  refine sm_new (mc := 13) (ms := 75) (pc' := 147) d_C_init_144 rfl nw_C_79 rfl rfl (fun a18 => ?_)
  refine sm_dup (pc' := 148) d_C_init_147 rfl rfl (sm_callI (av := []) (x := (some a18)) (st := [.inr (.inr (some a18)), .inr (.inr (some a0))]) (mc := 1) (ms := 5) (pc' := 151) d_C_init_148 rfl (sd_Ga_init a18) (fun _ _ _ => rfl) ci_Ga_init (Or.inl w_ml_C_81) rfl rfl (by decide) (Nat.le_of_ble_eq_true rfl) rfl rfl (sm_putR (pc' := 154) d_C_init_151 rfl fl_C_82 rfl (Or.inr ⟨rfl, rfl⟩) rfl (sm_aload_n (i := 0) (j := 1) (pc' := 155) d_C_init_154 rfl rfl rfl (sm_iconst (pc' := 156) d_C_init_155 rfl ic_5 ?_))))
  refine sm_nea (t := 0) (mc := 0) (ms := 0) (pc' := 158) d_C_init_156 rfl rfl (by decide) w_ac_int (by decide) (by decide) (by decide) rfl rfl (fun a19 => ?_)
  refine sm_putR (pc' := 161) d_C_init_158 rfl fl_C_86 rfl (Or.inr ⟨rfl, rfl⟩) rfl (sm_aload_n (i := 0) (j := 1) (pc' := 162) d_C_init_161 rfl rfl rfl (sm_iconst (pc' := 163) d_C_init_162 rfl ic_0 (sm_putZ (pc' := 166) d_C_init_163 rfl fl_C_90 (Or.inl rfl) rfl ?_)))
  exact sm_return d_C_init_166 rfl rfl
theorem d_C_status_0 : m_D k_C_status 0 (.aload_n 0) 1 := (by decide +kernel : decode prog_1_method_2_code 0 = .ok (.aload_n 0, 1))
theorem d_C_status_1 : m_D k_C_status 1 (.getfield 9) 3 := (by decide +kernel : decode prog_1_method_2_code 1 = .ok (.getfield 9, 3))
theorem d_C_status_4 : m_D k_C_status 4 (.ireturn) 1 := (by decide +kernel : decode prog_1_method_2_code 4 = .ok (.ireturn, 1))
def fn_C_status (x0 : Option mA) : mP Int32 :=
  m_th 0 x0 <|
  m_bd (m_gI 0 0 x0) fun v1 =>
  m_rt v1
set_option maxHeartbeats 4000000 in
set_option maxRecDepth 100000 in
theorem sd_C_status (x0 : Option mA) : m_Sm k_C_status 1 0 0 [.inr (.inr x0)] (fn_C_status x0) (fun b => some (.inl b)) := by
  refine ⟨Nat.le_of_ble_eq_true rfl, ?_⟩
  refine sm_th ?_
  refine sm_aload_n (i := 0) (j := 0) (pc' := 1) d_C_status_0 rfl rfl rfl ?_
  refine sm_getI (pc' := 4) d_C_status_1 rfl fl_C_9 rfl ⟨by decide, by decide⟩ (fun v1 => ?_)
  exact sm_ireturn d_C_status_4 rfl rfl
theorem d_C_top_0 : m_D k_C_top 0 (.aload_n 0) 1 := (by decide +kernel : decode prog_1_method_3_code 0 = .ok (.aload_n 0, 1))
theorem d_C_top_1 : m_D k_C_top 1 (.getfield 13) 3 := (by decide +kernel : decode prog_1_method_3_code 1 = .ok (.getfield 13, 3))
theorem d_C_top_4 : m_D k_C_top 4 (.lreturn) 1 := (by decide +kernel : decode prog_1_method_3_code 4 = .ok (.lreturn, 1))
def fn_C_top (x0 : Option mA) : mP Int64 :=
  m_th 0 x0 <|
  m_bd (m_gJ 0 1 x0) fun v1 =>
  m_rt v1
set_option maxHeartbeats 4000000 in
set_option maxRecDepth 100000 in
theorem sd_C_top (x0 : Option mA) : m_Sm k_C_top 1 0 0 [.inr (.inr x0)] (fn_C_top x0) (fun b => some (.inr (.inl b))) := by
  refine ⟨Nat.le_of_ble_eq_true rfl, ?_⟩
  refine sm_th ?_
  refine sm_aload_n (i := 0) (j := 0) (pc' := 1) d_C_top_0 rfl rfl rfl ?_
  refine sm_getJ (pc' := 4) d_C_top_1 rfl fl_C_13 rfl rfl (fun v1 => ?_)
  exact sm_lreturn d_C_top_4 rfl rfl
theorem d_C_bottom_0 : m_D k_C_bottom 0 (.aload_n 0) 1 := (by decide +kernel : decode prog_1_method_4_code 0 = .ok (.aload_n 0, 1))
theorem d_C_bottom_1 : m_D k_C_bottom 1 (.getfield 17) 3 := (by decide +kernel : decode prog_1_method_4_code 1 = .ok (.getfield 17, 3))
theorem d_C_bottom_4 : m_D k_C_bottom 4 (.lreturn) 1 := (by decide +kernel : decode prog_1_method_4_code 4 = .ok (.lreturn, 1))
def fn_C_bottom (x0 : Option mA) : mP Int64 :=
  m_th 0 x0 <|
  m_bd (m_gJ 0 2 x0) fun v1 =>
  m_rt v1
set_option maxHeartbeats 4000000 in
set_option maxRecDepth 100000 in
theorem sd_C_bottom (x0 : Option mA) : m_Sm k_C_bottom 1 0 0 [.inr (.inr x0)] (fn_C_bottom x0) (fun b => some (.inr (.inl b))) := by
  refine ⟨Nat.le_of_ble_eq_true rfl, ?_⟩
  refine sm_th ?_
  refine sm_aload_n (i := 0) (j := 0) (pc' := 1) d_C_bottom_0 rfl rfl rfl ?_
  refine sm_getJ (pc' := 4) d_C_bottom_1 rfl fl_C_17 rfl rfl (fun v1 => ?_)
  exact sm_lreturn d_C_bottom_4 rfl rfl
theorem d_C_isTray_0 : m_D k_C_isTray 0 (.iload_n 0) 1 := (by decide +kernel : decode prog_1_method_10_code 0 = .ok (.iload_n 0, 1))
theorem d_C_isTray_1 : m_D k_C_isTray 1 (.ifCond .lt 12) 3 := (by decide +kernel : decode prog_1_method_10_code 1 = .ok (.ifCond .lt 12, 3))
theorem d_C_isTray_4 : m_D k_C_isTray 4 (.iload_n 0) 1 := (by decide +kernel : decode prog_1_method_10_code 4 = .ok (.iload_n 0, 1))
theorem d_C_isTray_5 : m_D k_C_isTray 5 (.iconst 4) 1 := (by decide +kernel : decode prog_1_method_10_code 5 = .ok (.iconst 4, 1))
theorem d_C_isTray_6 : m_D k_C_isTray 6 (.if_icmp .ge 7) 3 := (by decide +kernel : decode prog_1_method_10_code 6 = .ok (.if_icmp .ge 7, 3))
theorem d_C_isTray_9 : m_D k_C_isTray 9 (.iconst 1) 1 := (by decide +kernel : decode prog_1_method_10_code 9 = .ok (.iconst 1, 1))
theorem d_C_isTray_10 : m_D k_C_isTray 10 (.goto 4) 3 := (by decide +kernel : decode prog_1_method_10_code 10 = .ok (.goto 4, 3))
theorem d_C_isTray_13 : m_D k_C_isTray 13 (.iconst 0) 1 := (by decide +kernel : decode prog_1_method_10_code 13 = .ok (.iconst 0, 1))
theorem d_C_isTray_14 : m_D k_C_isTray 14 (.ireturn) 1 := (by decide +kernel : decode prog_1_method_10_code 14 = .ok (.ireturn, 1))
def fn_C_isTray (x0 : Int32) : mP Int32 :=
  if x0 < 0 then
    m_rt 0
  else
    if 4 ≤ x0 then
      m_rt 0
    else
      m_rt 1
set_option maxHeartbeats 4000000 in
set_option maxRecDepth 100000 in
theorem sd_C_isTray (x0 : Int32) : m_Sm k_C_isTray 1 0 0 [.inl x0] (fn_C_isTray x0) (fun b => some (.inl b)) := by
  refine ⟨Nat.le_of_ble_eq_true rfl, ?_⟩
  refine sm_iload_n (i := 0) (j := 0) (pc' := 1) d_C_isTray_0 rfl rfl rfl ?_
  refine sm_if_lt (tgt := 13) (pc' := 4) d_C_isTray_1 rfl rfl ?_ ?_
  · refine sm_iconst (pc' := 14) d_C_isTray_13 rfl ic_0 ?_
    exact sm_zreturn d_C_isTray_14 rfl (by decide) rfl
  · refine sm_iload_n (i := 0) (j := 0) (pc' := 5) d_C_isTray_4 rfl rfl rfl (sm_iconst (pc' := 6) d_C_isTray_5 rfl ic_4 ?_)
    refine sm_icmp_ge (tgt := 13) (pc' := 9) d_C_isTray_6 rfl rfl ?_ ?_
    · refine sm_iconst (pc' := 14) d_C_isTray_13 rfl ic_0 ?_
      exact sm_zreturn d_C_isTray_14 rfl (by decide) rfl
    · refine sm_iconst (pc' := 10) d_C_isTray_9 rfl ic_1 (sm_goto (tgt := 14) d_C_isTray_10 rfl ?_)
      exact sm_zreturn d_C_isTray_14 rfl (by decide) rfl
theorem d_Tr_lay_0 : m_D k_Tr_lay 0 (.aload_n 0) 1 := (by decide +kernel : decode prog_12_method_3_code 0 = .ok (.aload_n 0, 1))
theorem d_Tr_lay_1 : m_D k_Tr_lay 1 (.iload_n 1) 1 := (by decide +kernel : decode prog_12_method_3_code 1 = .ok (.iload_n 1, 1))
theorem d_Tr_lay_2 : m_D k_Tr_lay 2 (.putfield 9) 3 := (by decide +kernel : decode prog_12_method_3_code 2 = .ok (.putfield 9, 3))
theorem d_Tr_lay_5 : m_D k_Tr_lay 5 (.aload_n 0) 1 := (by decide +kernel : decode prog_12_method_3_code 5 = .ok (.aload_n 0, 1))
theorem d_Tr_lay_6 : m_D k_Tr_lay 6 (.iload_n 2) 1 := (by decide +kernel : decode prog_12_method_3_code 6 = .ok (.iload_n 2, 1))
theorem d_Tr_lay_7 : m_D k_Tr_lay 7 (.putfield 15) 3 := (by decide +kernel : decode prog_12_method_3_code 7 = .ok (.putfield 15, 3))
theorem d_Tr_lay_10 : m_D k_Tr_lay 10 (.aload_n 0) 1 := (by decide +kernel : decode prog_12_method_3_code 10 = .ok (.aload_n 0, 1))
theorem d_Tr_lay_11 : m_D k_Tr_lay 11 (.getfield 18) 3 := (by decide +kernel : decode prog_12_method_3_code 11 = .ok (.getfield 18, 3))
theorem d_Tr_lay_14 : m_D k_Tr_lay 14 (.lconst 0) 1 := (by decide +kernel : decode prog_12_method_3_code 14 = .ok (.lconst 0, 1))
theorem d_Tr_lay_15 : m_D k_Tr_lay 15 (.invokestatic 22) 3 := (by decide +kernel : decode prog_12_method_3_code 15 = .ok (.invokestatic 22, 3))
theorem d_Tr_lay_18 : m_D k_Tr_lay 18 (.return_) 1 := (by decide +kernel : decode prog_12_method_3_code 18 = .ok (.return_, 1))
def fn_Tr_lay (x0 : Option mA) (x1 : Int32) (x2 : Int32) : mP Unit :=
  m_th 1 x0 <|
  m_bd (m_pI 1 0 x0 x1) fun _ =>
  m_bd (m_pI 1 1 x0 x2) fun _ =>
  m_bd (m_gR 1 2 x0) fun v1 =>
  m_bd (fn_JA_fill_aJJ v1 0) fun _ =>
  m_rt ()
set_option maxHeartbeats 4000000 in
set_option maxRecDepth 100000 in
theorem sd_Tr_lay (x0 : Option mA) (x1 : Int32) (x2 : Int32) : m_Sm k_Tr_lay 2 0 0 [.inr (.inr x0), .inl x1, .inl x2] (fn_Tr_lay x0 x1 x2) (fun _ => none) := by
  refine ⟨Nat.le_of_ble_eq_true rfl, ?_⟩
  refine sm_th ?_
  refine sm_aload_n (i := 0) (j := 0) (pc' := 1) d_Tr_lay_0 rfl rfl rfl (sm_iload_n (i := 1) (j := 1) (pc' := 2) d_Tr_lay_1 rfl rfl rfl (sm_putI (pc' := 5) d_Tr_lay_2 rfl fl_Tr_9 (Or.inl rfl) rfl (sm_aload_n (i := 0) (j := 0) (pc' := 6) d_Tr_lay_5 rfl rfl rfl (sm_iload_n (i := 2) (j := 2) (pc' := 7) d_Tr_lay_6 rfl rfl rfl (sm_putI (pc' := 10) d_Tr_lay_7 rfl fl_Tr_15 (Or.inl rfl) rfl (sm_aload_n (i := 0) (j := 0) (pc' := 11) d_Tr_lay_10 rfl rfl rfl ?_))))))
  refine sm_getR (pc' := 14) d_Tr_lay_11 rfl fl_Tr_18 rfl rfl (fun v1 => ?_)
  refine sm_lconst (pc' := 15) (v := 0) d_Tr_lay_14 rfl rfl ?_
  refine sm_callSv (av := [.inr (.inr v1), .inr (.inl 0)]) (st := []) (mc := 0) (ms := 0) (pc' := 18) d_Tr_lay_15 rfl (sd_JA_fill_aJJ v1 0) cs_JA_fill_aJJ w_ml_Tr_22 rfl rfl (by decide) (Nat.le_of_ble_eq_true rfl) rfl rfl ?_
  exact sm_return d_Tr_lay_18 rfl rfl
theorem d_C_tray_0 : m_D k_C_tray 0 (.aload_n 0) 1 := (by decide +kernel : decode prog_1_method_5_code 0 = .ok (.aload_n 0, 1))
theorem d_C_tray_1 : m_D k_C_tray 1 (.iload_n 1) 1 := (by decide +kernel : decode prog_1_method_5_code 1 = .ok (.iload_n 1, 1))
theorem d_C_tray_2 : m_D k_C_tray 2 (.invokestatic 94) 3 := (by decide +kernel : decode prog_1_method_5_code 2 = .ok (.invokestatic 94, 3))
theorem d_C_tray_5 : m_D k_C_tray 5 (.ifCond .eq 12) 3 := (by decide +kernel : decode prog_1_method_5_code 5 = .ok (.ifCond .eq 12, 3))
theorem d_C_tray_8 : m_D k_C_tray 8 (.iload_n 2) 1 := (by decide +kernel : decode prog_1_method_5_code 8 = .ok (.iload_n 2, 1))
theorem d_C_tray_9 : m_D k_C_tray 9 (.ifCond .lt 8) 3 := (by decide +kernel : decode prog_1_method_5_code 9 = .ok (.ifCond .lt 8, 3))
theorem d_C_tray_12 : m_D k_C_tray 12 (.iload_n 2) 1 := (by decide +kernel : decode prog_1_method_5_code 12 = .ok (.iload_n 2, 1))
theorem d_C_tray_13 : m_D k_C_tray 13 (.iconst 3) 1 := (by decide +kernel : decode prog_1_method_5_code 13 = .ok (.iconst 3, 1))
theorem d_C_tray_14 : m_D k_C_tray 14 (.if_icmp .le 7) 3 := (by decide +kernel : decode prog_1_method_5_code 14 = .ok (.if_icmp .le 7, 3))
theorem d_C_tray_17 : m_D k_C_tray 17 (.iconst 1) 1 := (by decide +kernel : decode prog_1_method_5_code 17 = .ok (.iconst 1, 1))
theorem d_C_tray_18 : m_D k_C_tray 18 (.goto 23) 3 := (by decide +kernel : decode prog_1_method_5_code 18 = .ok (.goto 23, 3))
theorem d_C_tray_21 : m_D k_C_tray 21 (.iload_n 3) 1 := (by decide +kernel : decode prog_1_method_5_code 21 = .ok (.iload_n 3, 1))
theorem d_C_tray_22 : m_D k_C_tray 22 (.bipush 60) 2 := (by decide +kernel : decode prog_1_method_5_code 22 = .ok (.bipush 60, 2))
theorem d_C_tray_24 : m_D k_C_tray 24 (.if_icmp .le 7) 3 := (by decide +kernel : decode prog_1_method_5_code 24 = .ok (.if_icmp .le 7, 3))
theorem d_C_tray_27 : m_D k_C_tray 27 (.iconst 5) 1 := (by decide +kernel : decode prog_1_method_5_code 27 = .ok (.iconst 5, 1))
theorem d_C_tray_28 : m_D k_C_tray 28 (.goto 13) 3 := (by decide +kernel : decode prog_1_method_5_code 28 = .ok (.goto 13, 3))
theorem d_C_tray_31 : m_D k_C_tray 31 (.iload_n 3) 1 := (by decide +kernel : decode prog_1_method_5_code 31 = .ok (.iload_n 3, 1))
theorem d_C_tray_32 : m_D k_C_tray 32 (.ifCond .ge 8) 3 := (by decide +kernel : decode prog_1_method_5_code 32 = .ok (.ifCond .ge 8, 3))
theorem d_C_tray_35 : m_D k_C_tray 35 (.bipush 6) 2 := (by decide +kernel : decode prog_1_method_5_code 35 = .ok (.bipush 6, 2))
theorem d_C_tray_37 : m_D k_C_tray 37 (.goto 4) 3 := (by decide +kernel : decode prog_1_method_5_code 37 = .ok (.goto 4, 3))
theorem d_C_tray_40 : m_D k_C_tray 40 (.iconst 0) 1 := (by decide +kernel : decode prog_1_method_5_code 40 = .ok (.iconst 0, 1))
theorem d_C_tray_41 : m_D k_C_tray 41 (.putfield 9) 3 := (by decide +kernel : decode prog_1_method_5_code 41 = .ok (.putfield 9, 3))
theorem d_C_tray_44 : m_D k_C_tray 44 (.aload_n 0) 1 := (by decide +kernel : decode prog_1_method_5_code 44 = .ok (.aload_n 0, 1))
theorem d_C_tray_45 : m_D k_C_tray 45 (.getfield 9) 3 := (by decide +kernel : decode prog_1_method_5_code 45 = .ok (.getfield 9, 3))
theorem d_C_tray_48 : m_D k_C_tray 48 (.ifCond .eq 5) 3 := (by decide +kernel : decode prog_1_method_5_code 48 = .ok (.ifCond .eq 5, 3))
theorem d_C_tray_51 : m_D k_C_tray 51 (.iconst 0) 1 := (by decide +kernel : decode prog_1_method_5_code 51 = .ok (.iconst 0, 1))
theorem d_C_tray_52 : m_D k_C_tray 52 (.ireturn) 1 := (by decide +kernel : decode prog_1_method_5_code 52 = .ok (.ireturn, 1))
theorem d_C_tray_53 : m_D k_C_tray 53 (.aload_n 0) 1 := (by decide +kernel : decode prog_1_method_5_code 53 = .ok (.aload_n 0, 1))
theorem d_C_tray_54 : m_D k_C_tray 54 (.getfield 22) 3 := (by decide +kernel : decode prog_1_method_5_code 54 = .ok (.getfield 22, 3))
theorem d_C_tray_57 : m_D k_C_tray 57 (.iload_n 1) 1 := (by decide +kernel : decode prog_1_method_5_code 57 = .ok (.iload_n 1, 1))
theorem d_C_tray_58 : m_D k_C_tray 58 (.aaload) 1 := (by decide +kernel : decode prog_1_method_5_code 58 = .ok (.aaload, 1))
theorem d_C_tray_59 : m_D k_C_tray 59 (.iload_n 2) 1 := (by decide +kernel : decode prog_1_method_5_code 59 = .ok (.iload_n 2, 1))
theorem d_C_tray_60 : m_D k_C_tray 60 (.iload_n 3) 1 := (by decide +kernel : decode prog_1_method_5_code 60 = .ok (.iload_n 3, 1))
theorem d_C_tray_61 : m_D k_C_tray 61 (.invokevirtual 98) 3 := (by decide +kernel : decode prog_1_method_5_code 61 = .ok (.invokevirtual 98, 3))
theorem d_C_tray_64 : m_D k_C_tray 64 (.iconst 1) 1 := (by decide +kernel : decode prog_1_method_5_code 64 = .ok (.iconst 1, 1))
theorem d_C_tray_65 : m_D k_C_tray 65 (.ireturn) 1 := (by decide +kernel : decode prog_1_method_5_code 65 = .ok (.ireturn, 1))
def fn_C_tray (x0 : Option mA) (x1 : Int32) (x2 : Int32) (x3 : Int32) : mP Int32 :=
  m_th 0 x0 <|
  m_bd (fn_C_isTray x1) fun v1 =>
  m_bd (α := Int32) (
    if v1 = 0 then
      m_rt 1
    else
      if x2 < 0 then
        m_rt 1
      else
        if x2 ≤ 3 then
          if x3 ≤ 60 then
            if 0 ≤ x3 then
              m_rt 0
            else
              m_rt 6
          else
            m_rt 5
        else
          m_rt 1
    ) fun (t2 : Int32) =>
  m_bd (m_pI 0 0 x0 t2) fun _ =>
  m_bd (m_gI 0 0 x0) fun v3 =>
  if v3 = 0 then
    m_bd (m_gR 0 3 x0) fun v4 =>
    m_bd (m_aR 4 v4 x1) fun v5 =>
    m_bd (fn_Tr_lay v5 x2 x3) fun _ =>
    m_rt 1
  else
    m_rt 0
set_option maxHeartbeats 4000000 in
set_option maxRecDepth 100000 in
theorem sd_C_tray (x0 : Option mA) (x1 : Int32) (x2 : Int32) (x3 : Int32) : m_Sm k_C_tray 3 0 0 [.inr (.inr x0), .inl x1, .inl x2, .inl x3] (fn_C_tray x0 x1 x2 x3) (fun b => some (.inl b)) := by
  refine ⟨Nat.le_of_ble_eq_true rfl, ?_⟩
  refine sm_th ?_
  refine sm_aload_n (i := 0) (j := 0) (pc' := 1) d_C_tray_0 rfl rfl rfl (sm_iload_n (i := 1) (j := 1) (pc' := 2) d_C_tray_1 rfl rfl rfl ?_)
  refine sm_callSi (av := [.inl x1]) (st := [.inr (.inr x0)]) (mc := 0) (ms := 0) (pc' := 5) d_C_tray_2 rfl (sd_C_isTray x1) cs_C_isTray w_ml_C_94 rfl rfl (by decide) (Nat.le_of_ble_eq_true rfl) rfl rfl (fun v1 => ?_)
  refine sm_bd (mid := fun (t2 : Int32) => .inl (41, [(0, .inr (.inr x0)), (1, .inl x1), (2, .inl x2), (3, .inl x3)], [.inl t2, .inr (.inr x0)])) ?_ (fun t2 => ?_)
  · refine sm_if_eq (tgt := 17) (pc' := 8) d_C_tray_5 rfl rfl ?_ ?_
    · refine sm_iconst (pc' := 18) d_C_tray_17 rfl ic_1 (sm_goto (tgt := 41) d_C_tray_18 rfl (sm_sub [0, 1, 2, 3] rfl ?_))
      exact sm_rt rfl
    · refine sm_iload_n (i := 2) (j := 2) (pc' := 9) d_C_tray_8 rfl rfl rfl ?_
      refine sm_if_lt (tgt := 17) (pc' := 12) d_C_tray_9 rfl rfl ?_ ?_
      · refine sm_iconst (pc' := 18) d_C_tray_17 rfl ic_1 (sm_goto (tgt := 41) d_C_tray_18 rfl (sm_sub [0, 1, 2, 3] rfl ?_))
        exact sm_rt rfl
      · refine sm_iload_n (i := 2) (j := 2) (pc' := 13) d_C_tray_12 rfl rfl rfl (sm_iconst (pc' := 14) d_C_tray_13 rfl ic_3 ?_)
        refine sm_icmp_le (tgt := 21) (pc' := 17) d_C_tray_14 rfl rfl ?_ ?_
        · refine sm_iload_n (i := 3) (j := 3) (pc' := 22) d_C_tray_21 rfl rfl rfl (sm_bipush (pc' := 24) d_C_tray_22 rfl ib_60 ?_)
          refine sm_icmp_le (tgt := 31) (pc' := 27) d_C_tray_24 rfl rfl ?_ ?_
          · refine sm_iload_n (i := 3) (j := 3) (pc' := 32) d_C_tray_31 rfl rfl rfl ?_
            refine sm_if_ge (tgt := 40) (pc' := 35) d_C_tray_32 rfl rfl ?_ ?_
            · refine sm_iconst (pc' := 41) d_C_tray_40 rfl ic_0 (sm_sub [0, 1, 2, 3] rfl ?_)
              exact sm_rt rfl
            · refine sm_bipush (pc' := 37) d_C_tray_35 rfl ib_6 (sm_goto (tgt := 41) d_C_tray_37 rfl (sm_sub [0, 1, 2, 3] rfl ?_))
              exact sm_rt rfl
          · refine sm_iconst (pc' := 28) d_C_tray_27 rfl ic_5 (sm_goto (tgt := 41) d_C_tray_28 rfl (sm_sub [0, 1, 2, 3] rfl ?_))
            exact sm_rt rfl
        · refine sm_iconst (pc' := 18) d_C_tray_17 rfl ic_1 (sm_goto (tgt := 41) d_C_tray_18 rfl (sm_sub [0, 1, 2, 3] rfl ?_))
          exact sm_rt rfl
  · refine sm_putI (pc' := 44) d_C_tray_41 rfl fl_C_9 (Or.inl rfl) rfl (sm_aload_n (i := 0) (j := 0) (pc' := 45) d_C_tray_44 rfl rfl rfl ?_)
    refine sm_getI (pc' := 48) d_C_tray_45 rfl fl_C_9 rfl ⟨by decide, by decide⟩ (fun v3 => ?_)
    refine sm_if_eq (tgt := 53) (pc' := 51) d_C_tray_48 rfl rfl ?_ ?_
    · refine sm_aload_n (i := 0) (j := 0) (pc' := 54) d_C_tray_53 rfl rfl rfl ?_
      refine sm_getR (pc' := 57) d_C_tray_54 rfl fl_C_22 rfl rfl (fun v4 => ?_)
      refine sm_iload_n (i := 1) (j := 1) (pc' := 58) d_C_tray_57 rfl rfl rfl ?_
      refine sm_aald (t := 4) ⟨by decide, by decide⟩ rfl (pc' := 59) d_C_tray_58 rfl (fun v5 => ?_)
      refine sm_iload_n (i := 2) (j := 2) (pc' := 60) d_C_tray_59 rfl rfl rfl (sm_iload_n (i := 3) (j := 3) (pc' := 61) d_C_tray_60 rfl rfl rfl ?_)
      refine sm_callVv (ci := 1) (x := v5) (av := [.inl x2, .inl x3]) (st := []) (mc := 0) (ms := 0) (pc' := 64) d_C_tray_61 rfl (sd_Tr_lay v5 x2 x3) m_lv rfl cv_Tr_lay w_ml_C_98 rfl rfl (by decide) (Nat.le_of_ble_eq_true rfl) rfl rfl ?_
      refine sm_iconst (pc' := 65) d_C_tray_64 rfl ic_1 ?_
      exact sm_zreturn d_C_tray_65 rfl (by decide) rfl
    · refine sm_iconst (pc' := 52) d_C_tray_51 rfl ic_0 ?_
      exact sm_zreturn d_C_tray_52 rfl (by decide) rfl
theorem d_Tr_isMissing_0 : m_D k_Tr_isMissing 0 (.aload_n 0) 1 := (by decide +kernel : decode prog_12_method_2_code 0 = .ok (.aload_n 0, 1))
theorem d_Tr_isMissing_1 : m_D k_Tr_isMissing 1 (.getfield 9) 3 := (by decide +kernel : decode prog_12_method_2_code 1 = .ok (.getfield 9, 3))
theorem d_Tr_isMissing_4 : m_D k_Tr_isMissing 4 (.iconst (-1)) 1 := (by decide +kernel : decode prog_12_method_2_code 4 = .ok (.iconst (-1), 1))
theorem d_Tr_isMissing_5 : m_D k_Tr_isMissing 5 (.if_icmp .ne 7) 3 := (by decide +kernel : decode prog_12_method_2_code 5 = .ok (.if_icmp .ne 7, 3))
theorem d_Tr_isMissing_8 : m_D k_Tr_isMissing 8 (.iconst 1) 1 := (by decide +kernel : decode prog_12_method_2_code 8 = .ok (.iconst 1, 1))
theorem d_Tr_isMissing_9 : m_D k_Tr_isMissing 9 (.goto 4) 3 := (by decide +kernel : decode prog_12_method_2_code 9 = .ok (.goto 4, 3))
theorem d_Tr_isMissing_12 : m_D k_Tr_isMissing 12 (.iconst 0) 1 := (by decide +kernel : decode prog_12_method_2_code 12 = .ok (.iconst 0, 1))
theorem d_Tr_isMissing_13 : m_D k_Tr_isMissing 13 (.ireturn) 1 := (by decide +kernel : decode prog_12_method_2_code 13 = .ok (.ireturn, 1))
def fn_Tr_isMissing (x0 : Option mA) : mP Int32 :=
  m_th 1 x0 <|
  m_bd (m_gI 1 0 x0) fun v1 =>
  if v1 = (-1) then
    m_rt 1
  else
    m_rt 0
set_option maxHeartbeats 4000000 in
set_option maxRecDepth 100000 in
theorem sd_Tr_isMissing (x0 : Option mA) : m_Sm k_Tr_isMissing 1 0 0 [.inr (.inr x0)] (fn_Tr_isMissing x0) (fun b => some (.inl b)) := by
  refine ⟨Nat.le_of_ble_eq_true rfl, ?_⟩
  refine sm_th ?_
  refine sm_aload_n (i := 0) (j := 0) (pc' := 1) d_Tr_isMissing_0 rfl rfl rfl ?_
  refine sm_getI (pc' := 4) d_Tr_isMissing_1 rfl fl_Tr_9 rfl ⟨by decide, by decide⟩ (fun v1 => ?_)
  refine sm_iconst (pc' := 5) d_Tr_isMissing_4 rfl ic_m1 ?_
  refine sm_icmp_ne (tgt := 12) (pc' := 8) d_Tr_isMissing_5 rfl rfl ?_ ?_
  · refine sm_iconst (pc' := 13) d_Tr_isMissing_12 rfl ic_0 ?_
    exact sm_zreturn d_Tr_isMissing_13 rfl (by decide) rfl
  · refine sm_iconst (pc' := 9) d_Tr_isMissing_8 rfl ic_1 (sm_goto (tgt := 13) d_Tr_isMissing_9 rfl ?_)
    exact sm_zreturn d_Tr_isMissing_13 rfl (by decide) rfl
theorem d_C_trayStatus_0 : m_D k_C_trayStatus 0 (.iload_n 1) 1 := (by decide +kernel : decode prog_1_method_11_code 0 = .ok (.iload_n 1, 1))
theorem d_C_trayStatus_1 : m_D k_C_trayStatus 1 (.invokestatic 94) 3 := (by decide +kernel : decode prog_1_method_11_code 1 = .ok (.invokestatic 94, 3))
theorem d_C_trayStatus_4 : m_D k_C_trayStatus 4 (.ifCond .ne 7) 3 := (by decide +kernel : decode prog_1_method_11_code 4 = .ok (.ifCond .ne 7, 3))
theorem d_C_trayStatus_7 : m_D k_C_trayStatus 7 (.iconst 1) 1 := (by decide +kernel : decode prog_1_method_11_code 7 = .ok (.iconst 1, 1))
theorem d_C_trayStatus_8 : m_D k_C_trayStatus 8 (.goto 20) 3 := (by decide +kernel : decode prog_1_method_11_code 8 = .ok (.goto 20, 3))
theorem d_C_trayStatus_11 : m_D k_C_trayStatus 11 (.aload_n 0) 1 := (by decide +kernel : decode prog_1_method_11_code 11 = .ok (.aload_n 0, 1))
theorem d_C_trayStatus_12 : m_D k_C_trayStatus 12 (.getfield 22) 3 := (by decide +kernel : decode prog_1_method_11_code 12 = .ok (.getfield 22, 3))
theorem d_C_trayStatus_15 : m_D k_C_trayStatus 15 (.iload_n 1) 1 := (by decide +kernel : decode prog_1_method_11_code 15 = .ok (.iload_n 1, 1))
theorem d_C_trayStatus_16 : m_D k_C_trayStatus 16 (.aaload) 1 := (by decide +kernel : decode prog_1_method_11_code 16 = .ok (.aaload, 1))
theorem d_C_trayStatus_17 : m_D k_C_trayStatus 17 (.invokevirtual 126) 3 := (by decide +kernel : decode prog_1_method_11_code 17 = .ok (.invokevirtual 126, 3))
theorem d_C_trayStatus_20 : m_D k_C_trayStatus 20 (.ifCond .eq 7) 3 := (by decide +kernel : decode prog_1_method_11_code 20 = .ok (.ifCond .eq 7, 3))
theorem d_C_trayStatus_23 : m_D k_C_trayStatus 23 (.iconst 3) 1 := (by decide +kernel : decode prog_1_method_11_code 23 = .ok (.iconst 3, 1))
theorem d_C_trayStatus_24 : m_D k_C_trayStatus 24 (.goto 4) 3 := (by decide +kernel : decode prog_1_method_11_code 24 = .ok (.goto 4, 3))
theorem d_C_trayStatus_27 : m_D k_C_trayStatus 27 (.iconst 0) 1 := (by decide +kernel : decode prog_1_method_11_code 27 = .ok (.iconst 0, 1))
theorem d_C_trayStatus_28 : m_D k_C_trayStatus 28 (.ireturn) 1 := (by decide +kernel : decode prog_1_method_11_code 28 = .ok (.ireturn, 1))
def fn_C_trayStatus (x0 : Option mA) (x1 : Int32) : mP Int32 :=
  m_th 0 x0 <|
  m_bd (fn_C_isTray x1) fun v1 =>
  if v1 = 0 then
    m_rt 1
  else
    m_bd (m_gR 0 3 x0) fun v2 =>
    m_bd (m_aR 4 v2 x1) fun v3 =>
    m_bd (fn_Tr_isMissing v3) fun v4 =>
    if v4 = 0 then
      m_rt 0
    else
      m_rt 3
set_option maxHeartbeats 4000000 in
set_option maxRecDepth 100000 in
theorem sd_C_trayStatus (x0 : Option mA) (x1 : Int32) : m_Sm k_C_trayStatus 2 0 0 [.inr (.inr x0), .inl x1] (fn_C_trayStatus x0 x1) (fun b => some (.inl b)) := by
  refine ⟨Nat.le_of_ble_eq_true rfl, ?_⟩
  refine sm_th ?_
  refine sm_iload_n (i := 1) (j := 1) (pc' := 1) d_C_trayStatus_0 rfl rfl rfl ?_
  refine sm_callSi (av := [.inl x1]) (st := []) (mc := 0) (ms := 0) (pc' := 4) d_C_trayStatus_1 rfl (sd_C_isTray x1) cs_C_isTray w_ml_C_94 rfl rfl (by decide) (Nat.le_of_ble_eq_true rfl) rfl rfl (fun v1 => ?_)
  refine sm_if_ne (tgt := 11) (pc' := 7) d_C_trayStatus_4 rfl rfl ?_ ?_
  · refine sm_aload_n (i := 0) (j := 0) (pc' := 12) d_C_trayStatus_11 rfl rfl rfl ?_
    refine sm_getR (pc' := 15) d_C_trayStatus_12 rfl fl_C_22 rfl rfl (fun v2 => ?_)
    refine sm_iload_n (i := 1) (j := 1) (pc' := 16) d_C_trayStatus_15 rfl rfl rfl ?_
    refine sm_aald (t := 4) ⟨by decide, by decide⟩ rfl (pc' := 17) d_C_trayStatus_16 rfl (fun v3 => ?_)
    refine sm_callVi (ci := 1) (x := v3) (av := []) (st := []) (mc := 0) (ms := 0) (pc' := 20) d_C_trayStatus_17 rfl (sd_Tr_isMissing v3) m_lv rfl cv_Tr_isMissing w_ml_C_126 rfl rfl (by decide) (Nat.le_of_ble_eq_true rfl) rfl rfl (fun v4 => ?_)
    refine sm_if_eq (tgt := 27) (pc' := 23) d_C_trayStatus_20 rfl rfl ?_ ?_
    · refine sm_iconst (pc' := 28) d_C_trayStatus_27 rfl ic_0 ?_
      exact sm_ireturn d_C_trayStatus_28 rfl rfl
    · refine sm_iconst (pc' := 24) d_C_trayStatus_23 rfl ic_3 (sm_goto (tgt := 28) d_C_trayStatus_24 rfl ?_)
      exact sm_ireturn d_C_trayStatus_28 rfl rfl
  · refine sm_iconst (pc' := 8) d_C_trayStatus_7 rfl ic_1 (sm_goto (tgt := 28) d_C_trayStatus_8 rfl ?_)
    exact sm_ireturn d_C_trayStatus_28 rfl rfl
theorem d_Tr_holds_0 : m_D k_Tr_holds 0 (.iload_n 1) 1 := (by decide +kernel : decode prog_12_method_4_code 0 = .ok (.iload_n 1, 1))
theorem d_Tr_holds_1 : m_D k_Tr_holds 1 (.ifCond .lt 21) 3 := (by decide +kernel : decode prog_12_method_4_code 1 = .ok (.ifCond .lt 21, 3))
theorem d_Tr_holds_4 : m_D k_Tr_holds 4 (.iload_n 1) 1 := (by decide +kernel : decode prog_12_method_4_code 4 = .ok (.iload_n 1, 1))
theorem d_Tr_holds_5 : m_D k_Tr_holds 5 (.i2l) 1 := (by decide +kernel : decode prog_12_method_4_code 5 = .ok (.i2l, 1))
theorem d_Tr_holds_6 : m_D k_Tr_holds 6 (.iload_n 2) 1 := (by decide +kernel : decode prog_12_method_4_code 6 = .ok (.iload_n 2, 1))
theorem d_Tr_holds_7 : m_D k_Tr_holds 7 (.i2l) 1 := (by decide +kernel : decode prog_12_method_4_code 7 = .ok (.i2l, 1))
theorem d_Tr_holds_8 : m_D k_Tr_holds 8 (.ladd) 1 := (by decide +kernel : decode prog_12_method_4_code 8 = .ok (.ladd, 1))
theorem d_Tr_holds_9 : m_D k_Tr_holds 9 (.aload_n 0) 1 := (by decide +kernel : decode prog_12_method_4_code 9 = .ok (.aload_n 0, 1))
theorem d_Tr_holds_10 : m_D k_Tr_holds 10 (.getfield 15) 3 := (by decide +kernel : decode prog_12_method_4_code 10 = .ok (.getfield 15, 3))
theorem d_Tr_holds_13 : m_D k_Tr_holds 13 (.i2l) 1 := (by decide +kernel : decode prog_12_method_4_code 13 = .ok (.i2l, 1))
theorem d_Tr_holds_14 : m_D k_Tr_holds 14 (.lcmp) 1 := (by decide +kernel : decode prog_12_method_4_code 14 = .ok (.lcmp, 1))
theorem d_Tr_holds_15 : m_D k_Tr_holds 15 (.ifCond .gt 7) 3 := (by decide +kernel : decode prog_12_method_4_code 15 = .ok (.ifCond .gt 7, 3))
theorem d_Tr_holds_18 : m_D k_Tr_holds 18 (.iconst 1) 1 := (by decide +kernel : decode prog_12_method_4_code 18 = .ok (.iconst 1, 1))
theorem d_Tr_holds_19 : m_D k_Tr_holds 19 (.goto 4) 3 := (by decide +kernel : decode prog_12_method_4_code 19 = .ok (.goto 4, 3))
theorem d_Tr_holds_22 : m_D k_Tr_holds 22 (.iconst 0) 1 := (by decide +kernel : decode prog_12_method_4_code 22 = .ok (.iconst 0, 1))
theorem d_Tr_holds_23 : m_D k_Tr_holds 23 (.ireturn) 1 := (by decide +kernel : decode prog_12_method_4_code 23 = .ok (.ireturn, 1))
def fn_Tr_holds (x0 : Option mA) (x1 : Int32) (x2 : Int32) : mP Int32 :=
  m_th 1 x0 <|
  if x1 < 0 then
    m_rt 0
  else
    m_bd (m_gI 1 1 x0) fun v1 =>
    if 0 < (lg_cmp ((x1).toInt64 + (x2).toInt64) (v1).toInt64) then
      m_rt 0
    else
      m_rt 1
set_option maxHeartbeats 4000000 in
set_option maxRecDepth 100000 in
theorem sd_Tr_holds (x0 : Option mA) (x1 : Int32) (x2 : Int32) : m_Sm k_Tr_holds 1 0 0 [.inr (.inr x0), .inl x1, .inl x2] (fn_Tr_holds x0 x1 x2) (fun b => some (.inl b)) := by
  refine ⟨Nat.le_of_ble_eq_true rfl, ?_⟩
  refine sm_th ?_
  refine sm_iload_n (i := 1) (j := 1) (pc' := 1) d_Tr_holds_0 rfl rfl rfl ?_
  refine sm_if_lt (tgt := 22) (pc' := 4) d_Tr_holds_1 rfl rfl ?_ ?_
  · refine sm_iconst (pc' := 23) d_Tr_holds_22 rfl ic_0 ?_
    exact sm_zreturn d_Tr_holds_23 rfl (by decide) rfl
  · refine sm_iload_n (i := 1) (j := 1) (pc' := 5) d_Tr_holds_4 rfl rfl rfl (sm_i2l (pc' := 6) d_Tr_holds_5 rfl (sm_iload_n (i := 2) (j := 2) (pc' := 7) d_Tr_holds_6 rfl rfl rfl (sm_i2l (pc' := 8) d_Tr_holds_7 rfl (sm_ladd (pc' := 9) d_Tr_holds_8 rfl (sm_aload_n (i := 0) (j := 0) (pc' := 10) d_Tr_holds_9 rfl rfl rfl ?_)))))
    refine sm_getI (pc' := 13) d_Tr_holds_10 rfl fl_Tr_15 rfl ⟨by decide, by decide⟩ (fun v1 => ?_)
    refine sm_i2l (pc' := 14) d_Tr_holds_13 rfl (sm_lcmp (pc' := 15) d_Tr_holds_14 rfl ?_)
    refine sm_if_gt (tgt := 22) (pc' := 18) d_Tr_holds_15 rfl rfl ?_ ?_
    · refine sm_iconst (pc' := 23) d_Tr_holds_22 rfl ic_0 ?_
      exact sm_zreturn d_Tr_holds_23 rfl (by decide) rfl
    · refine sm_iconst (pc' := 19) d_Tr_holds_18 rfl ic_1 (sm_goto (tgt := 23) d_Tr_holds_19 rfl ?_)
      exact sm_zreturn d_Tr_holds_23 rfl (by decide) rfl
theorem d_C_placeStatus_0 : m_D k_C_placeStatus 0 (.aload_n 0) 1 := (by decide +kernel : decode prog_1_method_12_code 0 = .ok (.aload_n 0, 1))
theorem d_C_placeStatus_1 : m_D k_C_placeStatus 1 (.iload_n 1) 1 := (by decide +kernel : decode prog_1_method_12_code 1 = .ok (.iload_n 1, 1))
theorem d_C_placeStatus_2 : m_D k_C_placeStatus 2 (.invokevirtual 137) 3 := (by decide +kernel : decode prog_1_method_12_code 2 = .ok (.invokevirtual 137, 3))
theorem d_C_placeStatus_5 : m_D k_C_placeStatus 5 (.istore_n 3) 1 := (by decide +kernel : decode prog_1_method_12_code 5 = .ok (.istore_n 3, 1))
theorem d_C_placeStatus_6 : m_D k_C_placeStatus 6 (.iload_n 3) 1 := (by decide +kernel : decode prog_1_method_12_code 6 = .ok (.iload_n 3, 1))
theorem d_C_placeStatus_7 : m_D k_C_placeStatus 7 (.ifCond .eq 7) 3 := (by decide +kernel : decode prog_1_method_12_code 7 = .ok (.ifCond .eq 7, 3))
theorem d_C_placeStatus_10 : m_D k_C_placeStatus 10 (.iload_n 3) 1 := (by decide +kernel : decode prog_1_method_12_code 10 = .ok (.iload_n 3, 1))
theorem d_C_placeStatus_11 : m_D k_C_placeStatus 11 (.goto 22) 3 := (by decide +kernel : decode prog_1_method_12_code 11 = .ok (.goto 22, 3))
theorem d_C_placeStatus_14 : m_D k_C_placeStatus 14 (.aload_n 0) 1 := (by decide +kernel : decode prog_1_method_12_code 14 = .ok (.aload_n 0, 1))
theorem d_C_placeStatus_15 : m_D k_C_placeStatus 15 (.getfield 22) 3 := (by decide +kernel : decode prog_1_method_12_code 15 = .ok (.getfield 22, 3))
theorem d_C_placeStatus_18 : m_D k_C_placeStatus 18 (.iload_n 1) 1 := (by decide +kernel : decode prog_1_method_12_code 18 = .ok (.iload_n 1, 1))
theorem d_C_placeStatus_19 : m_D k_C_placeStatus 19 (.aaload) 1 := (by decide +kernel : decode prog_1_method_12_code 19 = .ok (.aaload, 1))
theorem d_C_placeStatus_20 : m_D k_C_placeStatus 20 (.iload_n 2) 1 := (by decide +kernel : decode prog_1_method_12_code 20 = .ok (.iload_n 2, 1))
theorem d_C_placeStatus_21 : m_D k_C_placeStatus 21 (.iconst 1) 1 := (by decide +kernel : decode prog_1_method_12_code 21 = .ok (.iconst 1, 1))
theorem d_C_placeStatus_22 : m_D k_C_placeStatus 22 (.invokevirtual 133) 3 := (by decide +kernel : decode prog_1_method_12_code 22 = .ok (.invokevirtual 133, 3))
theorem d_C_placeStatus_25 : m_D k_C_placeStatus 25 (.ifCond .eq 7) 3 := (by decide +kernel : decode prog_1_method_12_code 25 = .ok (.ifCond .eq 7, 3))
theorem d_C_placeStatus_28 : m_D k_C_placeStatus 28 (.iconst 0) 1 := (by decide +kernel : decode prog_1_method_12_code 28 = .ok (.iconst 0, 1))
theorem d_C_placeStatus_29 : m_D k_C_placeStatus 29 (.goto 4) 3 := (by decide +kernel : decode prog_1_method_12_code 29 = .ok (.goto 4, 3))
theorem d_C_placeStatus_32 : m_D k_C_placeStatus 32 (.iconst 4) 1 := (by decide +kernel : decode prog_1_method_12_code 32 = .ok (.iconst 4, 1))
theorem d_C_placeStatus_33 : m_D k_C_placeStatus 33 (.ireturn) 1 := (by decide +kernel : decode prog_1_method_12_code 33 = .ok (.ireturn, 1))
def fn_C_placeStatus (x0 : Option mA) (x1 : Int32) (x2 : Int32) : mP Int32 :=
  m_th 0 x0 <|
  m_bd (fn_C_trayStatus x0 x1) fun v1 =>
  if v1 = 0 then
    m_bd (m_gR 0 3 x0) fun v2 =>
    m_bd (m_aR 4 v2 x1) fun v3 =>
    m_bd (fn_Tr_holds v3 x2 1) fun v4 =>
    if v4 = 0 then
      m_rt 4
    else
      m_rt 0
  else
    m_rt v1
set_option maxHeartbeats 4000000 in
set_option maxRecDepth 100000 in
theorem sd_C_placeStatus (x0 : Option mA) (x1 : Int32) (x2 : Int32) : m_Sm k_C_placeStatus 3 0 0 [.inr (.inr x0), .inl x1, .inl x2] (fn_C_placeStatus x0 x1 x2) (fun b => some (.inl b)) := by
  refine ⟨Nat.le_of_ble_eq_true rfl, ?_⟩
  refine sm_th ?_
  refine sm_aload_n (i := 0) (j := 0) (pc' := 1) d_C_placeStatus_0 rfl rfl rfl (sm_iload_n (i := 1) (j := 1) (pc' := 2) d_C_placeStatus_1 rfl rfl rfl ?_)
  refine sm_callVi (ci := 0) (x := x0) (av := [.inl x1]) (st := []) (mc := 0) (ms := 0) (pc' := 5) d_C_placeStatus_2 rfl (sd_C_trayStatus x0 x1) m_lv rfl cv_C_trayStatus w_ml_C_137 rfl rfl (by decide) (Nat.le_of_ble_eq_true rfl) rfl rfl (fun v1 => ?_)
  refine sm_istore_n (i := 3) (L' := [(3, .inl v1), (0, .inr (.inr x0)), (1, .inl x1), (2, .inl x2)]) (pc' := 6) d_C_placeStatus_5 rfl rfl (Nat.le_of_ble_eq_true rfl) rfl (sm_iload_n (i := 3) (j := 0) (pc' := 7) d_C_placeStatus_6 rfl rfl rfl ?_)
  refine sm_if_eq (tgt := 14) (pc' := 10) d_C_placeStatus_7 rfl rfl ?_ ?_
  · refine sm_aload_n (i := 0) (j := 1) (pc' := 15) d_C_placeStatus_14 rfl rfl rfl ?_
    refine sm_getR (pc' := 18) d_C_placeStatus_15 rfl fl_C_22 rfl rfl (fun v2 => ?_)
    refine sm_iload_n (i := 1) (j := 2) (pc' := 19) d_C_placeStatus_18 rfl rfl rfl ?_
    refine sm_aald (t := 4) ⟨by decide, by decide⟩ rfl (pc' := 20) d_C_placeStatus_19 rfl (fun v3 => ?_)
    refine sm_iload_n (i := 2) (j := 3) (pc' := 21) d_C_placeStatus_20 rfl rfl rfl (sm_iconst (pc' := 22) d_C_placeStatus_21 rfl ic_1 ?_)
    refine sm_callVi (ci := 1) (x := v3) (av := [.inl x2, .inl 1]) (st := []) (mc := 0) (ms := 0) (pc' := 25) d_C_placeStatus_22 rfl (sd_Tr_holds v3 x2 1) m_lv rfl cv_Tr_holds w_ml_C_133 rfl rfl (by decide) (Nat.le_of_ble_eq_true rfl) rfl rfl (fun v4 => ?_)
    refine sm_if_eq (tgt := 32) (pc' := 28) d_C_placeStatus_25 rfl rfl ?_ ?_
    · refine sm_iconst (pc' := 33) d_C_placeStatus_32 rfl ic_4 ?_
      exact sm_ireturn d_C_placeStatus_33 rfl rfl
    · refine sm_iconst (pc' := 29) d_C_placeStatus_28 rfl ic_0 (sm_goto (tgt := 33) d_C_placeStatus_29 rfl ?_)
      exact sm_ireturn d_C_placeStatus_33 rfl rfl
  · refine sm_iload_n (i := 3) (j := 0) (pc' := 11) d_C_placeStatus_10 rfl rfl rfl (sm_goto (tgt := 33) d_C_placeStatus_11 rfl ?_)
    exact sm_ireturn d_C_placeStatus_33 rfl rfl
theorem d_Tr_put_0 : m_D k_Tr_put 0 (.aload_n 0) 1 := (by decide +kernel : decode prog_12_method_5_code 0 = .ok (.aload_n 0, 1))
theorem d_Tr_put_1 : m_D k_Tr_put 1 (.getfield 9) 3 := (by decide +kernel : decode prog_12_method_5_code 1 = .ok (.getfield 9, 3))
theorem d_Tr_put_4 : m_D k_Tr_put 4 (.tableswitch 66 0 2 #[28, 41, 54]) 28 := (by decide +kernel : decode prog_12_method_5_code 4 = .ok (.tableswitch 66 0 2 #[28, 41, 54], 28))
theorem d_Tr_put_32 : m_D k_Tr_put 32 (.aload_n 0) 1 := (by decide +kernel : decode prog_12_method_5_code 32 = .ok (.aload_n 0, 1))
theorem d_Tr_put_33 : m_D k_Tr_put 33 (.getfield 18) 3 := (by decide +kernel : decode prog_12_method_5_code 33 = .ok (.getfield 18, 3))
theorem d_Tr_put_36 : m_D k_Tr_put 36 (.iload_n 1) 1 := (by decide +kernel : decode prog_12_method_5_code 36 = .ok (.iload_n 1, 1))
theorem d_Tr_put_37 : m_D k_Tr_put 37 (.lload_n 2) 1 := (by decide +kernel : decode prog_12_method_5_code 37 = .ok (.lload_n 2, 1))
theorem d_Tr_put_38 : m_D k_Tr_put 38 (.l2i) 1 := (by decide +kernel : decode prog_12_method_5_code 38 = .ok (.l2i, 1))
theorem d_Tr_put_39 : m_D k_Tr_put 39 (.i2b) 1 := (by decide +kernel : decode prog_12_method_5_code 39 = .ok (.i2b, 1))
theorem d_Tr_put_40 : m_D k_Tr_put 40 (.i2l) 1 := (by decide +kernel : decode prog_12_method_5_code 40 = .ok (.i2l, 1))
theorem d_Tr_put_41 : m_D k_Tr_put 41 (.lastore) 1 := (by decide +kernel : decode prog_12_method_5_code 41 = .ok (.lastore, 1))
theorem d_Tr_put_42 : m_D k_Tr_put 42 (.goto 35) 3 := (by decide +kernel : decode prog_12_method_5_code 42 = .ok (.goto 35, 3))
theorem d_Tr_put_45 : m_D k_Tr_put 45 (.aload_n 0) 1 := (by decide +kernel : decode prog_12_method_5_code 45 = .ok (.aload_n 0, 1))
theorem d_Tr_put_46 : m_D k_Tr_put 46 (.getfield 18) 3 := (by decide +kernel : decode prog_12_method_5_code 46 = .ok (.getfield 18, 3))
theorem d_Tr_put_49 : m_D k_Tr_put 49 (.iload_n 1) 1 := (by decide +kernel : decode prog_12_method_5_code 49 = .ok (.iload_n 1, 1))
theorem d_Tr_put_50 : m_D k_Tr_put 50 (.lload_n 2) 1 := (by decide +kernel : decode prog_12_method_5_code 50 = .ok (.lload_n 2, 1))
theorem d_Tr_put_51 : m_D k_Tr_put 51 (.l2i) 1 := (by decide +kernel : decode prog_12_method_5_code 51 = .ok (.l2i, 1))
theorem d_Tr_put_52 : m_D k_Tr_put 52 (.i2s) 1 := (by decide +kernel : decode prog_12_method_5_code 52 = .ok (.i2s, 1))
theorem d_Tr_put_53 : m_D k_Tr_put 53 (.i2l) 1 := (by decide +kernel : decode prog_12_method_5_code 53 = .ok (.i2l, 1))
theorem d_Tr_put_54 : m_D k_Tr_put 54 (.lastore) 1 := (by decide +kernel : decode prog_12_method_5_code 54 = .ok (.lastore, 1))
theorem d_Tr_put_55 : m_D k_Tr_put 55 (.goto 22) 3 := (by decide +kernel : decode prog_12_method_5_code 55 = .ok (.goto 22, 3))
theorem d_Tr_put_58 : m_D k_Tr_put 58 (.aload_n 0) 1 := (by decide +kernel : decode prog_12_method_5_code 58 = .ok (.aload_n 0, 1))
theorem d_Tr_put_59 : m_D k_Tr_put 59 (.getfield 18) 3 := (by decide +kernel : decode prog_12_method_5_code 59 = .ok (.getfield 18, 3))
theorem d_Tr_put_62 : m_D k_Tr_put 62 (.iload_n 1) 1 := (by decide +kernel : decode prog_12_method_5_code 62 = .ok (.iload_n 1, 1))
theorem d_Tr_put_63 : m_D k_Tr_put 63 (.lload_n 2) 1 := (by decide +kernel : decode prog_12_method_5_code 63 = .ok (.lload_n 2, 1))
theorem d_Tr_put_64 : m_D k_Tr_put 64 (.l2i) 1 := (by decide +kernel : decode prog_12_method_5_code 64 = .ok (.l2i, 1))
theorem d_Tr_put_65 : m_D k_Tr_put 65 (.i2l) 1 := (by decide +kernel : decode prog_12_method_5_code 65 = .ok (.i2l, 1))
theorem d_Tr_put_66 : m_D k_Tr_put 66 (.lastore) 1 := (by decide +kernel : decode prog_12_method_5_code 66 = .ok (.lastore, 1))
theorem d_Tr_put_67 : m_D k_Tr_put 67 (.goto 10) 3 := (by decide +kernel : decode prog_12_method_5_code 67 = .ok (.goto 10, 3))
theorem d_Tr_put_70 : m_D k_Tr_put 70 (.aload_n 0) 1 := (by decide +kernel : decode prog_12_method_5_code 70 = .ok (.aload_n 0, 1))
theorem d_Tr_put_71 : m_D k_Tr_put 71 (.getfield 18) 3 := (by decide +kernel : decode prog_12_method_5_code 71 = .ok (.getfield 18, 3))
theorem d_Tr_put_74 : m_D k_Tr_put 74 (.iload_n 1) 1 := (by decide +kernel : decode prog_12_method_5_code 74 = .ok (.iload_n 1, 1))
theorem d_Tr_put_75 : m_D k_Tr_put 75 (.lload_n 2) 1 := (by decide +kernel : decode prog_12_method_5_code 75 = .ok (.lload_n 2, 1))
theorem d_Tr_put_76 : m_D k_Tr_put 76 (.lastore) 1 := (by decide +kernel : decode prog_12_method_5_code 76 = .ok (.lastore, 1))
theorem d_Tr_put_77 : m_D k_Tr_put 77 (.return_) 1 := (by decide +kernel : decode prog_12_method_5_code 77 = .ok (.return_, 1))
def fn_Tr_put (x0 : Option mA) (x1 : Int32) (x2 : Int64) : mP Unit :=
  m_th 1 x0 <|
  m_bd (m_gI 1 0 x0) fun v1 =>
  if v1 = 0 then
    m_bd (m_gR 1 2 x0) fun v2 =>
    m_bd (m_tJ v2 x1 (((x2).toInt32).toInt8.toInt32).toInt64) fun _ =>
    m_rt ()
  else if v1 = 1 then
    m_bd (m_gR 1 2 x0) fun v3 =>
    m_bd (m_tJ v3 x1 (((x2).toInt32).toInt16.toInt32).toInt64) fun _ =>
    m_rt ()
  else if v1 = 2 then
    m_bd (m_gR 1 2 x0) fun v4 =>
    m_bd (m_tJ v4 x1 ((x2).toInt32).toInt64) fun _ =>
    m_rt ()
  else
    m_bd (m_gR 1 2 x0) fun v5 =>
    m_bd (m_tJ v5 x1 x2) fun _ =>
    m_rt ()
set_option maxHeartbeats 4000000 in
set_option maxRecDepth 100000 in
theorem sd_Tr_put (x0 : Option mA) (x1 : Int32) (x2 : Int64) : m_Sm k_Tr_put 1 0 0 [.inr (.inr x0), .inl x1, .inr (.inl x2)] (fn_Tr_put x0 x1 x2) (fun _ => none) := by
  refine ⟨Nat.le_of_ble_eq_true rfl, ?_⟩
  refine sm_th ?_
  refine sm_aload_n (i := 0) (j := 0) (pc' := 1) d_Tr_put_0 rfl rfl rfl ?_
  refine sm_getI (pc' := 4) d_Tr_put_1 rfl fl_Tr_9 rfl ⟨by decide, by decide⟩ (fun v1 => ?_)
  refine sm_ite (fun hs4_0 => ?_) (fun hs4_0 => ?_)
  · refine sm_tabIn (off := 28) (tgt := 32) d_Tr_put_4 (by rw [hs4_0]; decide) (by rw [hs4_0]; decide) (by rw [hs4_0]; rfl) rfl ?_
    refine sm_aload_n (i := 0) (j := 0) (pc' := 33) d_Tr_put_32 rfl rfl rfl ?_
    refine sm_getR (pc' := 36) d_Tr_put_33 rfl fl_Tr_18 rfl rfl (fun v2 => ?_)
    refine sm_iload_n (i := 1) (j := 1) (pc' := 37) d_Tr_put_36 rfl rfl rfl (sm_lload_n (i := 2) (j := 2) (pc' := 38) d_Tr_put_37 rfl rfl rfl (sm_l2i (pc' := 39) d_Tr_put_38 rfl (sm_i2b (pc' := 40) d_Tr_put_39 rfl (sm_i2l (pc' := 41) d_Tr_put_40 rfl (sm_last (pc' := 42) d_Tr_put_41 rfl (sm_goto (tgt := 77) d_Tr_put_42 rfl ?_))))))
    exact sm_return d_Tr_put_77 rfl rfl
  refine sm_ite (fun hs4_1 => ?_) (fun hs4_1 => ?_)
  · refine sm_tabIn (off := 41) (tgt := 45) d_Tr_put_4 (by rw [hs4_1]; decide) (by rw [hs4_1]; decide) (by rw [hs4_1]; rfl) rfl ?_
    refine sm_aload_n (i := 0) (j := 0) (pc' := 46) d_Tr_put_45 rfl rfl rfl ?_
    refine sm_getR (pc' := 49) d_Tr_put_46 rfl fl_Tr_18 rfl rfl (fun v3 => ?_)
    refine sm_iload_n (i := 1) (j := 1) (pc' := 50) d_Tr_put_49 rfl rfl rfl (sm_lload_n (i := 2) (j := 2) (pc' := 51) d_Tr_put_50 rfl rfl rfl (sm_l2i (pc' := 52) d_Tr_put_51 rfl (sm_i2s (pc' := 53) d_Tr_put_52 rfl (sm_i2l (pc' := 54) d_Tr_put_53 rfl (sm_last (pc' := 55) d_Tr_put_54 rfl (sm_goto (tgt := 77) d_Tr_put_55 rfl ?_))))))
    exact sm_return d_Tr_put_77 rfl rfl
  refine sm_ite (fun hs4_2 => ?_) (fun hs4_2 => ?_)
  · refine sm_tabIn (off := 54) (tgt := 58) d_Tr_put_4 (by rw [hs4_2]; decide) (by rw [hs4_2]; decide) (by rw [hs4_2]; rfl) rfl ?_
    refine sm_aload_n (i := 0) (j := 0) (pc' := 59) d_Tr_put_58 rfl rfl rfl ?_
    refine sm_getR (pc' := 62) d_Tr_put_59 rfl fl_Tr_18 rfl rfl (fun v4 => ?_)
    refine sm_iload_n (i := 1) (j := 1) (pc' := 63) d_Tr_put_62 rfl rfl rfl (sm_lload_n (i := 2) (j := 2) (pc' := 64) d_Tr_put_63 rfl rfl rfl (sm_l2i (pc' := 65) d_Tr_put_64 rfl (sm_i2l (pc' := 66) d_Tr_put_65 rfl (sm_last (pc' := 67) d_Tr_put_66 rfl (sm_goto (tgt := 77) d_Tr_put_67 rfl ?_)))))
    exact sm_return d_Tr_put_77 rfl rfl
  refine sm_tabOut (tgt := 70) d_Tr_put_4 (by have z0 : (v1).toInt ≠ 0 := fun e => hs4_0 (Int32.toInt_inj.mp (by rw [e]; rfl)); have z1 : (v1).toInt ≠ 1 := fun e => hs4_1 (Int32.toInt_inj.mp (by rw [e]; rfl)); have z2 : (v1).toInt ≠ 2 := fun e => hs4_2 (Int32.toInt_inj.mp (by rw [e]; rfl)); omega) rfl ?_
  refine sm_aload_n (i := 0) (j := 0) (pc' := 71) d_Tr_put_70 rfl rfl rfl ?_
  refine sm_getR (pc' := 74) d_Tr_put_71 rfl fl_Tr_18 rfl rfl (fun v5 => ?_)
  refine sm_iload_n (i := 1) (j := 1) (pc' := 75) d_Tr_put_74 rfl rfl rfl (sm_lload_n (i := 2) (j := 2) (pc' := 76) d_Tr_put_75 rfl rfl rfl (sm_last (pc' := 77) d_Tr_put_76 rfl ?_))
  exact sm_return d_Tr_put_77 rfl rfl
theorem d_C_write_0 : m_D k_C_write 0 (.aload_n 0) 1 := (by decide +kernel : decode prog_1_method_6_code 0 = .ok (.aload_n 0, 1))
theorem d_C_write_1 : m_D k_C_write 1 (.aload_n 0) 1 := (by decide +kernel : decode prog_1_method_6_code 1 = .ok (.aload_n 0, 1))
theorem d_C_write_2 : m_D k_C_write 2 (.iload_n 1) 1 := (by decide +kernel : decode prog_1_method_6_code 2 = .ok (.iload_n 1, 1))
theorem d_C_write_3 : m_D k_C_write 3 (.iload_n 2) 1 := (by decide +kernel : decode prog_1_method_6_code 3 = .ok (.iload_n 2, 1))
theorem d_C_write_4 : m_D k_C_write 4 (.invokevirtual 102) 3 := (by decide +kernel : decode prog_1_method_6_code 4 = .ok (.invokevirtual 102, 3))
theorem d_C_write_7 : m_D k_C_write 7 (.putfield 9) 3 := (by decide +kernel : decode prog_1_method_6_code 7 = .ok (.putfield 9, 3))
theorem d_C_write_10 : m_D k_C_write 10 (.aload_n 0) 1 := (by decide +kernel : decode prog_1_method_6_code 10 = .ok (.aload_n 0, 1))
theorem d_C_write_11 : m_D k_C_write 11 (.getfield 9) 3 := (by decide +kernel : decode prog_1_method_6_code 11 = .ok (.getfield 9, 3))
theorem d_C_write_14 : m_D k_C_write 14 (.ifCond .eq 5) 3 := (by decide +kernel : decode prog_1_method_6_code 14 = .ok (.ifCond .eq 5, 3))
theorem d_C_write_17 : m_D k_C_write 17 (.iconst 0) 1 := (by decide +kernel : decode prog_1_method_6_code 17 = .ok (.iconst 0, 1))
theorem d_C_write_18 : m_D k_C_write 18 (.ireturn) 1 := (by decide +kernel : decode prog_1_method_6_code 18 = .ok (.ireturn, 1))
theorem d_C_write_19 : m_D k_C_write 19 (.aload_n 0) 1 := (by decide +kernel : decode prog_1_method_6_code 19 = .ok (.aload_n 0, 1))
theorem d_C_write_20 : m_D k_C_write 20 (.getfield 22) 3 := (by decide +kernel : decode prog_1_method_6_code 20 = .ok (.getfield 22, 3))
theorem d_C_write_23 : m_D k_C_write 23 (.iload_n 1) 1 := (by decide +kernel : decode prog_1_method_6_code 23 = .ok (.iload_n 1, 1))
theorem d_C_write_24 : m_D k_C_write 24 (.aaload) 1 := (by decide +kernel : decode prog_1_method_6_code 24 = .ok (.aaload, 1))
theorem d_C_write_25 : m_D k_C_write 25 (.iload_n 2) 1 := (by decide +kernel : decode prog_1_method_6_code 25 = .ok (.iload_n 2, 1))
theorem d_C_write_26 : m_D k_C_write 26 (.lload_n 3) 1 := (by decide +kernel : decode prog_1_method_6_code 26 = .ok (.lload_n 3, 1))
theorem d_C_write_27 : m_D k_C_write 27 (.invokevirtual 106) 3 := (by decide +kernel : decode prog_1_method_6_code 27 = .ok (.invokevirtual 106, 3))
theorem d_C_write_30 : m_D k_C_write 30 (.iconst 1) 1 := (by decide +kernel : decode prog_1_method_6_code 30 = .ok (.iconst 1, 1))
theorem d_C_write_31 : m_D k_C_write 31 (.ireturn) 1 := (by decide +kernel : decode prog_1_method_6_code 31 = .ok (.ireturn, 1))
def fn_C_write (x0 : Option mA) (x1 : Int32) (x2 : Int32) (x3 : Int64) : mP Int32 :=
  m_th 0 x0 <|
  m_bd (fn_C_placeStatus x0 x1 x2) fun v1 =>
  m_bd (m_pI 0 0 x0 v1) fun _ =>
  m_bd (m_gI 0 0 x0) fun v2 =>
  if v2 = 0 then
    m_bd (m_gR 0 3 x0) fun v3 =>
    m_bd (m_aR 4 v3 x1) fun v4 =>
    m_bd (fn_Tr_put v4 x2 x3) fun _ =>
    m_rt 1
  else
    m_rt 0
set_option maxHeartbeats 4000000 in
set_option maxRecDepth 100000 in
theorem sd_C_write (x0 : Option mA) (x1 : Int32) (x2 : Int32) (x3 : Int64) : m_Sm k_C_write 4 0 0 [.inr (.inr x0), .inl x1, .inl x2, .inr (.inl x3)] (fn_C_write x0 x1 x2 x3) (fun b => some (.inl b)) := by
  refine ⟨Nat.le_of_ble_eq_true rfl, ?_⟩
  refine sm_th ?_
  refine sm_aload_n (i := 0) (j := 0) (pc' := 1) d_C_write_0 rfl rfl rfl (sm_aload_n (i := 0) (j := 0) (pc' := 2) d_C_write_1 rfl rfl rfl (sm_iload_n (i := 1) (j := 1) (pc' := 3) d_C_write_2 rfl rfl rfl (sm_iload_n (i := 2) (j := 2) (pc' := 4) d_C_write_3 rfl rfl rfl ?_)))
  refine sm_callVi (ci := 0) (x := x0) (av := [.inl x1, .inl x2]) (st := [.inr (.inr x0)]) (mc := 0) (ms := 0) (pc' := 7) d_C_write_4 rfl (sd_C_placeStatus x0 x1 x2) m_lv rfl cv_C_placeStatus w_ml_C_102 rfl rfl (by decide) (Nat.le_of_ble_eq_true rfl) rfl rfl (fun v1 => ?_)
  refine sm_putI (pc' := 10) d_C_write_7 rfl fl_C_9 (Or.inl rfl) rfl (sm_aload_n (i := 0) (j := 0) (pc' := 11) d_C_write_10 rfl rfl rfl ?_)
  refine sm_getI (pc' := 14) d_C_write_11 rfl fl_C_9 rfl ⟨by decide, by decide⟩ (fun v2 => ?_)
  refine sm_if_eq (tgt := 19) (pc' := 17) d_C_write_14 rfl rfl ?_ ?_
  · refine sm_aload_n (i := 0) (j := 0) (pc' := 20) d_C_write_19 rfl rfl rfl ?_
    refine sm_getR (pc' := 23) d_C_write_20 rfl fl_C_22 rfl rfl (fun v3 => ?_)
    refine sm_iload_n (i := 1) (j := 1) (pc' := 24) d_C_write_23 rfl rfl rfl ?_
    refine sm_aald (t := 4) ⟨by decide, by decide⟩ rfl (pc' := 25) d_C_write_24 rfl (fun v4 => ?_)
    refine sm_iload_n (i := 2) (j := 2) (pc' := 26) d_C_write_25 rfl rfl rfl (sm_lload_n (i := 3) (j := 3) (pc' := 27) d_C_write_26 rfl rfl rfl ?_)
    refine sm_callVv (ci := 1) (x := v4) (av := [.inl x2, .inr (.inl x3)]) (st := []) (mc := 0) (ms := 0) (pc' := 30) d_C_write_27 rfl (sd_Tr_put v4 x2 x3) m_lv rfl cv_Tr_put w_ml_C_106 rfl rfl (by decide) (Nat.le_of_ble_eq_true rfl) rfl rfl ?_
    refine sm_iconst (pc' := 31) d_C_write_30 rfl ic_1 ?_
    exact sm_zreturn d_C_write_31 rfl (by decide) rfl
  · refine sm_iconst (pc' := 18) d_C_write_17 rfl ic_0 ?_
    exact sm_zreturn d_C_write_18 rfl (by decide) rfl
theorem d_C_read_0 : m_D k_C_read 0 (.aload_n 0) 1 := (by decide +kernel : decode prog_1_method_7_code 0 = .ok (.aload_n 0, 1))
theorem d_C_read_1 : m_D k_C_read 1 (.aload_n 0) 1 := (by decide +kernel : decode prog_1_method_7_code 1 = .ok (.aload_n 0, 1))
theorem d_C_read_2 : m_D k_C_read 2 (.iload_n 1) 1 := (by decide +kernel : decode prog_1_method_7_code 2 = .ok (.iload_n 1, 1))
theorem d_C_read_3 : m_D k_C_read 3 (.iload_n 2) 1 := (by decide +kernel : decode prog_1_method_7_code 3 = .ok (.iload_n 2, 1))
theorem d_C_read_4 : m_D k_C_read 4 (.invokevirtual 102) 3 := (by decide +kernel : decode prog_1_method_7_code 4 = .ok (.invokevirtual 102, 3))
theorem d_C_read_7 : m_D k_C_read 7 (.putfield 9) 3 := (by decide +kernel : decode prog_1_method_7_code 7 = .ok (.putfield 9, 3))
theorem d_C_read_10 : m_D k_C_read 10 (.aload_n 0) 1 := (by decide +kernel : decode prog_1_method_7_code 10 = .ok (.aload_n 0, 1))
theorem d_C_read_11 : m_D k_C_read 11 (.getfield 9) 3 := (by decide +kernel : decode prog_1_method_7_code 11 = .ok (.getfield 9, 3))
theorem d_C_read_14 : m_D k_C_read 14 (.ifCond .eq 7) 3 := (by decide +kernel : decode prog_1_method_7_code 14 = .ok (.ifCond .eq 7, 3))
theorem d_C_read_17 : m_D k_C_read 17 (.ldc2_w 110) 3 := (by decide +kernel : decode prog_1_method_7_code 17 = .ok (.ldc2_w 110, 3))
theorem d_C_read_20 : m_D k_C_read 20 (.lreturn) 1 := (by decide +kernel : decode prog_1_method_7_code 20 = .ok (.lreturn, 1))
theorem d_C_read_21 : m_D k_C_read 21 (.aload_n 0) 1 := (by decide +kernel : decode prog_1_method_7_code 21 = .ok (.aload_n 0, 1))
theorem d_C_read_22 : m_D k_C_read 22 (.getfield 22) 3 := (by decide +kernel : decode prog_1_method_7_code 22 = .ok (.getfield 22, 3))
theorem d_C_read_25 : m_D k_C_read 25 (.iload_n 1) 1 := (by decide +kernel : decode prog_1_method_7_code 25 = .ok (.iload_n 1, 1))
theorem d_C_read_26 : m_D k_C_read 26 (.aaload) 1 := (by decide +kernel : decode prog_1_method_7_code 26 = .ok (.aaload, 1))
theorem d_C_read_27 : m_D k_C_read 27 (.getfield 112) 3 := (by decide +kernel : decode prog_1_method_7_code 27 = .ok (.getfield 112, 3))
theorem d_C_read_30 : m_D k_C_read 30 (.iload_n 2) 1 := (by decide +kernel : decode prog_1_method_7_code 30 = .ok (.iload_n 2, 1))
theorem d_C_read_31 : m_D k_C_read 31 (.laload) 1 := (by decide +kernel : decode prog_1_method_7_code 31 = .ok (.laload, 1))
theorem d_C_read_32 : m_D k_C_read 32 (.lreturn) 1 := (by decide +kernel : decode prog_1_method_7_code 32 = .ok (.lreturn, 1))
def fn_C_read (x0 : Option mA) (x1 : Int32) (x2 : Int32) : mP Int64 :=
  m_th 0 x0 <|
  m_bd (fn_C_placeStatus x0 x1 x2) fun v1 =>
  m_bd (m_pI 0 0 x0 v1) fun _ =>
  m_bd (m_gI 0 0 x0) fun v2 =>
  if v2 = 0 then
    m_bd (m_gR 0 3 x0) fun v3 =>
    m_bd (m_aR 4 v3 x1) fun v4 =>
    m_bd (m_gR 1 2 v4) fun v5 =>
    m_bd (m_aJ v5 x2) fun v6 =>
    m_rt v6
  else
    m_rt (-1)
set_option maxHeartbeats 4000000 in
set_option maxRecDepth 100000 in
theorem sd_C_read (x0 : Option mA) (x1 : Int32) (x2 : Int32) : m_Sm k_C_read 4 0 0 [.inr (.inr x0), .inl x1, .inl x2] (fn_C_read x0 x1 x2) (fun b => some (.inr (.inl b))) := by
  refine ⟨Nat.le_of_ble_eq_true rfl, ?_⟩
  refine sm_th ?_
  refine sm_aload_n (i := 0) (j := 0) (pc' := 1) d_C_read_0 rfl rfl rfl (sm_aload_n (i := 0) (j := 0) (pc' := 2) d_C_read_1 rfl rfl rfl (sm_iload_n (i := 1) (j := 1) (pc' := 3) d_C_read_2 rfl rfl rfl (sm_iload_n (i := 2) (j := 2) (pc' := 4) d_C_read_3 rfl rfl rfl ?_)))
  refine sm_callVi (ci := 0) (x := x0) (av := [.inl x1, .inl x2]) (st := [.inr (.inr x0)]) (mc := 0) (ms := 0) (pc' := 7) d_C_read_4 rfl (sd_C_placeStatus x0 x1 x2) m_lv rfl cv_C_placeStatus w_ml_C_102 rfl rfl (by decide) (Nat.le_of_ble_eq_true rfl) rfl rfl (fun v1 => ?_)
  refine sm_putI (pc' := 10) d_C_read_7 rfl fl_C_9 (Or.inl rfl) rfl (sm_aload_n (i := 0) (j := 0) (pc' := 11) d_C_read_10 rfl rfl rfl ?_)
  refine sm_getI (pc' := 14) d_C_read_11 rfl fl_C_9 rfl ⟨by decide, by decide⟩ (fun v2 => ?_)
  refine sm_if_eq (tgt := 21) (pc' := 17) d_C_read_14 rfl rfl ?_ ?_
  · refine sm_aload_n (i := 0) (j := 0) (pc' := 22) d_C_read_21 rfl rfl rfl ?_
    refine sm_getR (pc' := 25) d_C_read_22 rfl fl_C_22 rfl rfl (fun v3 => ?_)
    refine sm_iload_n (i := 1) (j := 1) (pc' := 26) d_C_read_25 rfl rfl rfl ?_
    refine sm_aald (t := 4) ⟨by decide, by decide⟩ rfl (pc' := 27) d_C_read_26 rfl (fun v4 => ?_)
    refine sm_getR (pc' := 30) d_C_read_27 rfl fl_C_112 rfl rfl (fun v5 => ?_)
    refine sm_iload_n (i := 2) (j := 2) (pc' := 31) d_C_read_30 rfl rfl rfl ?_
    refine sm_lald (pc' := 32) d_C_read_31 rfl (fun v6 => ?_)
    exact sm_lreturn d_C_read_32 rfl rfl
  · refine sm_ldc2 (v := (-1)) (pc' := 20) d_C_read_17 rfl w_cl_C_110 ?_
    exact sm_lreturn d_C_read_20 rfl rfl
theorem d_C_pourStatus_0 : m_D k_C_pourStatus 0 (.iload_n 1) 1 := (by decide +kernel : decode prog_1_method_9_code 0 = .ok (.iload_n 1, 1))
theorem d_C_pourStatus_1 : m_D k_C_pourStatus 1 (.invokestatic 94) 3 := (by decide +kernel : decode prog_1_method_9_code 1 = .ok (.invokestatic 94, 3))
theorem d_C_pourStatus_4 : m_D k_C_pourStatus 4 (.ifCond .eq 10) 3 := (by decide +kernel : decode prog_1_method_9_code 4 = .ok (.ifCond .eq 10, 3))
theorem d_C_pourStatus_7 : m_D k_C_pourStatus 7 (.iload_n 3) 1 := (by decide +kernel : decode prog_1_method_9_code 7 = .ok (.iload_n 3, 1))
theorem d_C_pourStatus_8 : m_D k_C_pourStatus 8 (.invokestatic 94) 3 := (by decide +kernel : decode prog_1_method_9_code 8 = .ok (.invokestatic 94, 3))
theorem d_C_pourStatus_11 : m_D k_C_pourStatus 11 (.ifCond .ne 7) 3 := (by decide +kernel : decode prog_1_method_9_code 11 = .ok (.ifCond .ne 7, 3))
theorem d_C_pourStatus_14 : m_D k_C_pourStatus 14 (.iconst 1) 1 := (by decide +kernel : decode prog_1_method_9_code 14 = .ok (.iconst 1, 1))
theorem d_C_pourStatus_15 : m_D k_C_pourStatus 15 (.goto 103) 3 := (by decide +kernel : decode prog_1_method_9_code 15 = .ok (.goto 103, 3))
theorem d_C_pourStatus_18 : m_D k_C_pourStatus 18 (.aload_n 0) 1 := (by decide +kernel : decode prog_1_method_9_code 18 = .ok (.aload_n 0, 1))
theorem d_C_pourStatus_19 : m_D k_C_pourStatus 19 (.getfield 22) 3 := (by decide +kernel : decode prog_1_method_9_code 19 = .ok (.getfield 22, 3))
theorem d_C_pourStatus_22 : m_D k_C_pourStatus 22 (.iload_n 1) 1 := (by decide +kernel : decode prog_1_method_9_code 22 = .ok (.iload_n 1, 1))
theorem d_C_pourStatus_23 : m_D k_C_pourStatus 23 (.aaload) 1 := (by decide +kernel : decode prog_1_method_9_code 23 = .ok (.aaload, 1))
theorem d_C_pourStatus_24 : m_D k_C_pourStatus 24 (.invokevirtual 126) 3 := (by decide +kernel : decode prog_1_method_9_code 24 = .ok (.invokevirtual 126, 3))
theorem d_C_pourStatus_27 : m_D k_C_pourStatus 27 (.ifCond .ne 15) 3 := (by decide +kernel : decode prog_1_method_9_code 27 = .ok (.ifCond .ne 15, 3))
theorem d_C_pourStatus_30 : m_D k_C_pourStatus 30 (.aload_n 0) 1 := (by decide +kernel : decode prog_1_method_9_code 30 = .ok (.aload_n 0, 1))
theorem d_C_pourStatus_31 : m_D k_C_pourStatus 31 (.getfield 22) 3 := (by decide +kernel : decode prog_1_method_9_code 31 = .ok (.getfield 22, 3))
theorem d_C_pourStatus_34 : m_D k_C_pourStatus 34 (.iload_n 3) 1 := (by decide +kernel : decode prog_1_method_9_code 34 = .ok (.iload_n 3, 1))
theorem d_C_pourStatus_35 : m_D k_C_pourStatus 35 (.aaload) 1 := (by decide +kernel : decode prog_1_method_9_code 35 = .ok (.aaload, 1))
theorem d_C_pourStatus_36 : m_D k_C_pourStatus 36 (.invokevirtual 126) 3 := (by decide +kernel : decode prog_1_method_9_code 36 = .ok (.invokevirtual 126, 3))
theorem d_C_pourStatus_39 : m_D k_C_pourStatus 39 (.ifCond .eq 7) 3 := (by decide +kernel : decode prog_1_method_9_code 39 = .ok (.ifCond .eq 7, 3))
theorem d_C_pourStatus_42 : m_D k_C_pourStatus 42 (.iconst 3) 1 := (by decide +kernel : decode prog_1_method_9_code 42 = .ok (.iconst 3, 1))
theorem d_C_pourStatus_43 : m_D k_C_pourStatus 43 (.goto 75) 3 := (by decide +kernel : decode prog_1_method_9_code 43 = .ok (.goto 75, 3))
theorem d_C_pourStatus_46 : m_D k_C_pourStatus 46 (.aload_n 0) 1 := (by decide +kernel : decode prog_1_method_9_code 46 = .ok (.aload_n 0, 1))
theorem d_C_pourStatus_47 : m_D k_C_pourStatus 47 (.getfield 22) 3 := (by decide +kernel : decode prog_1_method_9_code 47 = .ok (.getfield 22, 3))
theorem d_C_pourStatus_50 : m_D k_C_pourStatus 50 (.iload_n 1) 1 := (by decide +kernel : decode prog_1_method_9_code 50 = .ok (.iload_n 1, 1))
theorem d_C_pourStatus_51 : m_D k_C_pourStatus 51 (.aaload) 1 := (by decide +kernel : decode prog_1_method_9_code 51 = .ok (.aaload, 1))
theorem d_C_pourStatus_52 : m_D k_C_pourStatus 52 (.getfield 130) 3 := (by decide +kernel : decode prog_1_method_9_code 52 = .ok (.getfield 130, 3))
theorem d_C_pourStatus_55 : m_D k_C_pourStatus 55 (.aload_n 0) 1 := (by decide +kernel : decode prog_1_method_9_code 55 = .ok (.aload_n 0, 1))
theorem d_C_pourStatus_56 : m_D k_C_pourStatus 56 (.getfield 22) 3 := (by decide +kernel : decode prog_1_method_9_code 56 = .ok (.getfield 22, 3))
theorem d_C_pourStatus_59 : m_D k_C_pourStatus 59 (.iload_n 3) 1 := (by decide +kernel : decode prog_1_method_9_code 59 = .ok (.iload_n 3, 1))
theorem d_C_pourStatus_60 : m_D k_C_pourStatus 60 (.aaload) 1 := (by decide +kernel : decode prog_1_method_9_code 60 = .ok (.aaload, 1))
theorem d_C_pourStatus_61 : m_D k_C_pourStatus 61 (.getfield 130) 3 := (by decide +kernel : decode prog_1_method_9_code 61 = .ok (.getfield 130, 3))
theorem d_C_pourStatus_64 : m_D k_C_pourStatus 64 (.if_icmp .eq 8) 3 := (by decide +kernel : decode prog_1_method_9_code 64 = .ok (.if_icmp .eq 8, 3))
theorem d_C_pourStatus_67 : m_D k_C_pourStatus 67 (.bipush 11) 2 := (by decide +kernel : decode prog_1_method_9_code 67 = .ok (.bipush 11, 2))
theorem d_C_pourStatus_69 : m_D k_C_pourStatus 69 (.goto 49) 3 := (by decide +kernel : decode prog_1_method_9_code 69 = .ok (.goto 49, 3))
theorem d_C_pourStatus_72 : m_D k_C_pourStatus 72 (.iload 5) 2 := (by decide +kernel : decode prog_1_method_9_code 72 = .ok (.iload 5, 2))
theorem d_C_pourStatus_74 : m_D k_C_pourStatus 74 (.ifCond .ge 8) 3 := (by decide +kernel : decode prog_1_method_9_code 74 = .ok (.ifCond .ge 8, 3))
theorem d_C_pourStatus_77 : m_D k_C_pourStatus 77 (.bipush 6) 2 := (by decide +kernel : decode prog_1_method_9_code 77 = .ok (.bipush 6, 2))
theorem d_C_pourStatus_79 : m_D k_C_pourStatus 79 (.goto 39) 3 := (by decide +kernel : decode prog_1_method_9_code 79 = .ok (.goto 39, 3))
theorem d_C_pourStatus_82 : m_D k_C_pourStatus 82 (.aload_n 0) 1 := (by decide +kernel : decode prog_1_method_9_code 82 = .ok (.aload_n 0, 1))
theorem d_C_pourStatus_83 : m_D k_C_pourStatus 83 (.getfield 22) 3 := (by decide +kernel : decode prog_1_method_9_code 83 = .ok (.getfield 22, 3))
theorem d_C_pourStatus_86 : m_D k_C_pourStatus 86 (.iload_n 1) 1 := (by decide +kernel : decode prog_1_method_9_code 86 = .ok (.iload_n 1, 1))
theorem d_C_pourStatus_87 : m_D k_C_pourStatus 87 (.aaload) 1 := (by decide +kernel : decode prog_1_method_9_code 87 = .ok (.aaload, 1))
theorem d_C_pourStatus_88 : m_D k_C_pourStatus 88 (.iload_n 2) 1 := (by decide +kernel : decode prog_1_method_9_code 88 = .ok (.iload_n 2, 1))
theorem d_C_pourStatus_89 : m_D k_C_pourStatus 89 (.iload 5) 2 := (by decide +kernel : decode prog_1_method_9_code 89 = .ok (.iload 5, 2))
theorem d_C_pourStatus_91 : m_D k_C_pourStatus 91 (.invokevirtual 133) 3 := (by decide +kernel : decode prog_1_method_9_code 91 = .ok (.invokevirtual 133, 3))
theorem d_C_pourStatus_94 : m_D k_C_pourStatus 94 (.ifCond .eq 19) 3 := (by decide +kernel : decode prog_1_method_9_code 94 = .ok (.ifCond .eq 19, 3))
theorem d_C_pourStatus_97 : m_D k_C_pourStatus 97 (.aload_n 0) 1 := (by decide +kernel : decode prog_1_method_9_code 97 = .ok (.aload_n 0, 1))
theorem d_C_pourStatus_98 : m_D k_C_pourStatus 98 (.getfield 22) 3 := (by decide +kernel : decode prog_1_method_9_code 98 = .ok (.getfield 22, 3))
theorem d_C_pourStatus_101 : m_D k_C_pourStatus 101 (.iload_n 3) 1 := (by decide +kernel : decode prog_1_method_9_code 101 = .ok (.iload_n 3, 1))
theorem d_C_pourStatus_102 : m_D k_C_pourStatus 102 (.aaload) 1 := (by decide +kernel : decode prog_1_method_9_code 102 = .ok (.aaload, 1))
theorem d_C_pourStatus_103 : m_D k_C_pourStatus 103 (.iload 4) 2 := (by decide +kernel : decode prog_1_method_9_code 103 = .ok (.iload 4, 2))
theorem d_C_pourStatus_105 : m_D k_C_pourStatus 105 (.iload 5) 2 := (by decide +kernel : decode prog_1_method_9_code 105 = .ok (.iload 5, 2))
theorem d_C_pourStatus_107 : m_D k_C_pourStatus 107 (.invokevirtual 133) 3 := (by decide +kernel : decode prog_1_method_9_code 107 = .ok (.invokevirtual 133, 3))
theorem d_C_pourStatus_110 : m_D k_C_pourStatus 110 (.ifCond .ne 7) 3 := (by decide +kernel : decode prog_1_method_9_code 110 = .ok (.ifCond .ne 7, 3))
theorem d_C_pourStatus_113 : m_D k_C_pourStatus 113 (.iconst 4) 1 := (by decide +kernel : decode prog_1_method_9_code 113 = .ok (.iconst 4, 1))
theorem d_C_pourStatus_114 : m_D k_C_pourStatus 114 (.goto 4) 3 := (by decide +kernel : decode prog_1_method_9_code 114 = .ok (.goto 4, 3))
theorem d_C_pourStatus_117 : m_D k_C_pourStatus 117 (.iconst 0) 1 := (by decide +kernel : decode prog_1_method_9_code 117 = .ok (.iconst 0, 1))
theorem d_C_pourStatus_118 : m_D k_C_pourStatus 118 (.ireturn) 1 := (by decide +kernel : decode prog_1_method_9_code 118 = .ok (.ireturn, 1))
def fn_C_pourStatus (x0 : Option mA) (x1 : Int32) (x2 : Int32) (x3 : Int32) (x4 : Int32) (x5 : Int32) : mP Int32 :=
  m_th 0 x0 <|
  m_bd (fn_C_isTray x1) fun v1 =>
  if v1 = 0 then
    m_rt 1
  else
    m_bd (fn_C_isTray x3) fun v2 =>
    if v2 = 0 then
      m_rt 1
    else
      m_bd (m_gR 0 3 x0) fun v3 =>
      m_bd (m_aR 4 v3 x1) fun v4 =>
      m_bd (fn_Tr_isMissing v4) fun v5 =>
      if v5 = 0 then
        m_bd (m_gR 0 3 x0) fun v6 =>
        m_bd (m_aR 4 v6 x3) fun v7 =>
        m_bd (fn_Tr_isMissing v7) fun v8 =>
        if v8 = 0 then
          m_bd (m_gR 0 3 x0) fun v9 =>
          m_bd (m_aR 4 v9 x1) fun v10 =>
          m_bd (m_gI 1 0 v10) fun v11 =>
          m_bd (m_gR 0 3 x0) fun v12 =>
          m_bd (m_aR 4 v12 x3) fun v13 =>
          m_bd (m_gI 1 0 v13) fun v14 =>
          if v11 = v14 then
            if 0 ≤ x5 then
              m_bd (m_gR 0 3 x0) fun v15 =>
              m_bd (m_aR 4 v15 x1) fun v16 =>
              m_bd (fn_Tr_holds v16 x2 x5) fun v17 =>
              if v17 = 0 then
                m_rt 4
              else
                m_bd (m_gR 0 3 x0) fun v18 =>
                m_bd (m_aR 4 v18 x3) fun v19 =>
                m_bd (fn_Tr_holds v19 x4 x5) fun v20 =>
                if v20 = 0 then
                  m_rt 4
                else
                  m_rt 0
            else
              m_rt 6
          else
            m_rt 11
        else
          m_rt 3
      else
        m_rt 3
set_option maxHeartbeats 4000000 in
set_option maxRecDepth 100000 in
theorem sd_C_pourStatus (x0 : Option mA) (x1 : Int32) (x2 : Int32) (x3 : Int32) (x4 : Int32) (x5 : Int32) : m_Sm k_C_pourStatus 2 0 0 [.inr (.inr x0), .inl x1, .inl x2, .inl x3, .inl x4, .inl x5] (fn_C_pourStatus x0 x1 x2 x3 x4 x5) (fun b => some (.inl b)) := by
  refine ⟨Nat.le_of_ble_eq_true rfl, ?_⟩
  refine sm_th ?_
  refine sm_iload_n (i := 1) (j := 1) (pc' := 1) d_C_pourStatus_0 rfl rfl rfl ?_
  refine sm_callSi (av := [.inl x1]) (st := []) (mc := 0) (ms := 0) (pc' := 4) d_C_pourStatus_1 rfl (sd_C_isTray x1) cs_C_isTray w_ml_C_94 rfl rfl (by decide) (Nat.le_of_ble_eq_true rfl) rfl rfl (fun v1 => ?_)
  refine sm_if_eq (tgt := 14) (pc' := 7) d_C_pourStatus_4 rfl rfl ?_ ?_
  · refine sm_iconst (pc' := 15) d_C_pourStatus_14 rfl ic_1 (sm_goto (tgt := 118) d_C_pourStatus_15 rfl ?_)
    exact sm_ireturn d_C_pourStatus_118 rfl rfl
  · refine sm_iload_n (i := 3) (j := 3) (pc' := 8) d_C_pourStatus_7 rfl rfl rfl ?_
    refine sm_callSi (av := [.inl x3]) (st := []) (mc := 0) (ms := 0) (pc' := 11) d_C_pourStatus_8 rfl (sd_C_isTray x3) cs_C_isTray w_ml_C_94 rfl rfl (by decide) (Nat.le_of_ble_eq_true rfl) rfl rfl (fun v2 => ?_)
    refine sm_if_ne (tgt := 18) (pc' := 14) d_C_pourStatus_11 rfl rfl ?_ ?_
    · refine sm_aload_n (i := 0) (j := 0) (pc' := 19) d_C_pourStatus_18 rfl rfl rfl ?_
      refine sm_getR (pc' := 22) d_C_pourStatus_19 rfl fl_C_22 rfl rfl (fun v3 => ?_)
      refine sm_iload_n (i := 1) (j := 1) (pc' := 23) d_C_pourStatus_22 rfl rfl rfl ?_
      refine sm_aald (t := 4) ⟨by decide, by decide⟩ rfl (pc' := 24) d_C_pourStatus_23 rfl (fun v4 => ?_)
      refine sm_callVi (ci := 1) (x := v4) (av := []) (st := []) (mc := 0) (ms := 0) (pc' := 27) d_C_pourStatus_24 rfl (sd_Tr_isMissing v4) m_lv rfl cv_Tr_isMissing w_ml_C_126 rfl rfl (by decide) (Nat.le_of_ble_eq_true rfl) rfl rfl (fun v5 => ?_)
      refine sm_if_ne (tgt := 42) (pc' := 30) d_C_pourStatus_27 rfl rfl ?_ ?_
      · refine sm_iconst (pc' := 43) d_C_pourStatus_42 rfl ic_3 (sm_goto (tgt := 118) d_C_pourStatus_43 rfl ?_)
        exact sm_ireturn d_C_pourStatus_118 rfl rfl
      · refine sm_aload_n (i := 0) (j := 0) (pc' := 31) d_C_pourStatus_30 rfl rfl rfl ?_
        refine sm_getR (pc' := 34) d_C_pourStatus_31 rfl fl_C_22 rfl rfl (fun v6 => ?_)
        refine sm_iload_n (i := 3) (j := 3) (pc' := 35) d_C_pourStatus_34 rfl rfl rfl ?_
        refine sm_aald (t := 4) ⟨by decide, by decide⟩ rfl (pc' := 36) d_C_pourStatus_35 rfl (fun v7 => ?_)
        refine sm_callVi (ci := 1) (x := v7) (av := []) (st := []) (mc := 0) (ms := 0) (pc' := 39) d_C_pourStatus_36 rfl (sd_Tr_isMissing v7) m_lv rfl cv_Tr_isMissing w_ml_C_126 rfl rfl (by decide) (Nat.le_of_ble_eq_true rfl) rfl rfl (fun v8 => ?_)
        refine sm_if_eq (tgt := 46) (pc' := 42) d_C_pourStatus_39 rfl rfl ?_ ?_
        · refine sm_aload_n (i := 0) (j := 0) (pc' := 47) d_C_pourStatus_46 rfl rfl rfl ?_
          refine sm_getR (pc' := 50) d_C_pourStatus_47 rfl fl_C_22 rfl rfl (fun v9 => ?_)
          refine sm_iload_n (i := 1) (j := 1) (pc' := 51) d_C_pourStatus_50 rfl rfl rfl ?_
          refine sm_aald (t := 4) ⟨by decide, by decide⟩ rfl (pc' := 52) d_C_pourStatus_51 rfl (fun v10 => ?_)
          refine sm_getI (pc' := 55) d_C_pourStatus_52 rfl fl_C_130 rfl ⟨by decide, by decide⟩ (fun v11 => ?_)
          refine sm_aload_n (i := 0) (j := 0) (pc' := 56) d_C_pourStatus_55 rfl rfl rfl ?_
          refine sm_getR (pc' := 59) d_C_pourStatus_56 rfl fl_C_22 rfl rfl (fun v12 => ?_)
          refine sm_iload_n (i := 3) (j := 3) (pc' := 60) d_C_pourStatus_59 rfl rfl rfl ?_
          refine sm_aald (t := 4) ⟨by decide, by decide⟩ rfl (pc' := 61) d_C_pourStatus_60 rfl (fun v13 => ?_)
          refine sm_getI (pc' := 64) d_C_pourStatus_61 rfl fl_C_130 rfl ⟨by decide, by decide⟩ (fun v14 => ?_)
          refine sm_icmp_eq (tgt := 72) (pc' := 67) d_C_pourStatus_64 rfl rfl ?_ ?_
          · refine sm_iload (j := 5) (pc' := 74) d_C_pourStatus_72 rfl rfl ?_
            refine sm_if_ge (tgt := 82) (pc' := 77) d_C_pourStatus_74 rfl rfl ?_ ?_
            · refine sm_aload_n (i := 0) (j := 0) (pc' := 83) d_C_pourStatus_82 rfl rfl rfl ?_
              refine sm_getR (pc' := 86) d_C_pourStatus_83 rfl fl_C_22 rfl rfl (fun v15 => ?_)
              refine sm_iload_n (i := 1) (j := 1) (pc' := 87) d_C_pourStatus_86 rfl rfl rfl ?_
              refine sm_aald (t := 4) ⟨by decide, by decide⟩ rfl (pc' := 88) d_C_pourStatus_87 rfl (fun v16 => ?_)
              refine sm_iload_n (i := 2) (j := 2) (pc' := 89) d_C_pourStatus_88 rfl rfl rfl (sm_iload (j := 5) (pc' := 91) d_C_pourStatus_89 rfl rfl ?_)
              refine sm_callVi (ci := 1) (x := v16) (av := [.inl x2, .inl x5]) (st := []) (mc := 0) (ms := 0) (pc' := 94) d_C_pourStatus_91 rfl (sd_Tr_holds v16 x2 x5) m_lv rfl cv_Tr_holds w_ml_C_133 rfl rfl (by decide) (Nat.le_of_ble_eq_true rfl) rfl rfl (fun v17 => ?_)
              refine sm_if_eq (tgt := 113) (pc' := 97) d_C_pourStatus_94 rfl rfl ?_ ?_
              · refine sm_iconst (pc' := 114) d_C_pourStatus_113 rfl ic_4 (sm_goto (tgt := 118) d_C_pourStatus_114 rfl ?_)
                exact sm_ireturn d_C_pourStatus_118 rfl rfl
              · refine sm_aload_n (i := 0) (j := 0) (pc' := 98) d_C_pourStatus_97 rfl rfl rfl ?_
                refine sm_getR (pc' := 101) d_C_pourStatus_98 rfl fl_C_22 rfl rfl (fun v18 => ?_)
                refine sm_iload_n (i := 3) (j := 3) (pc' := 102) d_C_pourStatus_101 rfl rfl rfl ?_
                refine sm_aald (t := 4) ⟨by decide, by decide⟩ rfl (pc' := 103) d_C_pourStatus_102 rfl (fun v19 => ?_)
                refine sm_iload (j := 4) (pc' := 105) d_C_pourStatus_103 rfl rfl (sm_iload (j := 5) (pc' := 107) d_C_pourStatus_105 rfl rfl ?_)
                refine sm_callVi (ci := 1) (x := v19) (av := [.inl x4, .inl x5]) (st := []) (mc := 0) (ms := 0) (pc' := 110) d_C_pourStatus_107 rfl (sd_Tr_holds v19 x4 x5) m_lv rfl cv_Tr_holds w_ml_C_133 rfl rfl (by decide) (Nat.le_of_ble_eq_true rfl) rfl rfl (fun v20 => ?_)
                refine sm_if_ne (tgt := 117) (pc' := 113) d_C_pourStatus_110 rfl rfl ?_ ?_
                · refine sm_iconst (pc' := 118) d_C_pourStatus_117 rfl ic_0 ?_
                  exact sm_ireturn d_C_pourStatus_118 rfl rfl
                · refine sm_iconst (pc' := 114) d_C_pourStatus_113 rfl ic_4 (sm_goto (tgt := 118) d_C_pourStatus_114 rfl ?_)
                  exact sm_ireturn d_C_pourStatus_118 rfl rfl
            · refine sm_bipush (pc' := 79) d_C_pourStatus_77 rfl ib_6 (sm_goto (tgt := 118) d_C_pourStatus_79 rfl ?_)
              exact sm_ireturn d_C_pourStatus_118 rfl rfl
          · refine sm_bipush (pc' := 69) d_C_pourStatus_67 rfl ib_11 (sm_goto (tgt := 118) d_C_pourStatus_69 rfl ?_)
            exact sm_ireturn d_C_pourStatus_118 rfl rfl
        · refine sm_iconst (pc' := 43) d_C_pourStatus_42 rfl ic_3 (sm_goto (tgt := 118) d_C_pourStatus_43 rfl ?_)
          exact sm_ireturn d_C_pourStatus_118 rfl rfl
    · refine sm_iconst (pc' := 15) d_C_pourStatus_14 rfl ic_1 (sm_goto (tgt := 118) d_C_pourStatus_15 rfl ?_)
      exact sm_ireturn d_C_pourStatus_118 rfl rfl
theorem d_C_pour_0 : m_D k_C_pour 0 (.aload_n 0) 1 := (by decide +kernel : decode prog_1_method_8_code 0 = .ok (.aload_n 0, 1))
theorem d_C_pour_1 : m_D k_C_pour 1 (.aload_n 0) 1 := (by decide +kernel : decode prog_1_method_8_code 1 = .ok (.aload_n 0, 1))
theorem d_C_pour_2 : m_D k_C_pour 2 (.iload_n 1) 1 := (by decide +kernel : decode prog_1_method_8_code 2 = .ok (.iload_n 1, 1))
theorem d_C_pour_3 : m_D k_C_pour 3 (.iload_n 2) 1 := (by decide +kernel : decode prog_1_method_8_code 3 = .ok (.iload_n 2, 1))
theorem d_C_pour_4 : m_D k_C_pour 4 (.iload_n 3) 1 := (by decide +kernel : decode prog_1_method_8_code 4 = .ok (.iload_n 3, 1))
theorem d_C_pour_5 : m_D k_C_pour 5 (.iload 4) 2 := (by decide +kernel : decode prog_1_method_8_code 5 = .ok (.iload 4, 2))
theorem d_C_pour_7 : m_D k_C_pour 7 (.iload 5) 2 := (by decide +kernel : decode prog_1_method_8_code 7 = .ok (.iload 5, 2))
theorem d_C_pour_9 : m_D k_C_pour 9 (.invokevirtual 116) 3 := (by decide +kernel : decode prog_1_method_8_code 9 = .ok (.invokevirtual 116, 3))
theorem d_C_pour_12 : m_D k_C_pour 12 (.putfield 9) 3 := (by decide +kernel : decode prog_1_method_8_code 12 = .ok (.putfield 9, 3))
theorem d_C_pour_15 : m_D k_C_pour 15 (.aload_n 0) 1 := (by decide +kernel : decode prog_1_method_8_code 15 = .ok (.aload_n 0, 1))
theorem d_C_pour_16 : m_D k_C_pour 16 (.getfield 9) 3 := (by decide +kernel : decode prog_1_method_8_code 16 = .ok (.getfield 9, 3))
theorem d_C_pour_19 : m_D k_C_pour 19 (.ifCond .eq 5) 3 := (by decide +kernel : decode prog_1_method_8_code 19 = .ok (.ifCond .eq 5, 3))
theorem d_C_pour_22 : m_D k_C_pour 22 (.iconst 0) 1 := (by decide +kernel : decode prog_1_method_8_code 22 = .ok (.iconst 0, 1))
theorem d_C_pour_23 : m_D k_C_pour 23 (.ireturn) 1 := (by decide +kernel : decode prog_1_method_8_code 23 = .ok (.ireturn, 1))
theorem d_C_pour_24 : m_D k_C_pour 24 (.aload_n 0) 1 := (by decide +kernel : decode prog_1_method_8_code 24 = .ok (.aload_n 0, 1))
theorem d_C_pour_25 : m_D k_C_pour 25 (.getfield 22) 3 := (by decide +kernel : decode prog_1_method_8_code 25 = .ok (.getfield 22, 3))
theorem d_C_pour_28 : m_D k_C_pour 28 (.iload_n 1) 1 := (by decide +kernel : decode prog_1_method_8_code 28 = .ok (.iload_n 1, 1))
theorem d_C_pour_29 : m_D k_C_pour 29 (.aaload) 1 := (by decide +kernel : decode prog_1_method_8_code 29 = .ok (.aaload, 1))
theorem d_C_pour_30 : m_D k_C_pour 30 (.getfield 112) 3 := (by decide +kernel : decode prog_1_method_8_code 30 = .ok (.getfield 112, 3))
theorem d_C_pour_33 : m_D k_C_pour 33 (.iload_n 2) 1 := (by decide +kernel : decode prog_1_method_8_code 33 = .ok (.iload_n 2, 1))
theorem d_C_pour_34 : m_D k_C_pour 34 (.aload_n 0) 1 := (by decide +kernel : decode prog_1_method_8_code 34 = .ok (.aload_n 0, 1))
theorem d_C_pour_35 : m_D k_C_pour 35 (.getfield 22) 3 := (by decide +kernel : decode prog_1_method_8_code 35 = .ok (.getfield 22, 3))
theorem d_C_pour_38 : m_D k_C_pour 38 (.iload_n 3) 1 := (by decide +kernel : decode prog_1_method_8_code 38 = .ok (.iload_n 3, 1))
theorem d_C_pour_39 : m_D k_C_pour 39 (.aaload) 1 := (by decide +kernel : decode prog_1_method_8_code 39 = .ok (.aaload, 1))
theorem d_C_pour_40 : m_D k_C_pour 40 (.getfield 112) 3 := (by decide +kernel : decode prog_1_method_8_code 40 = .ok (.getfield 112, 3))
theorem d_C_pour_43 : m_D k_C_pour 43 (.iload 4) 2 := (by decide +kernel : decode prog_1_method_8_code 43 = .ok (.iload 4, 2))
theorem d_C_pour_45 : m_D k_C_pour 45 (.iload 5) 2 := (by decide +kernel : decode prog_1_method_8_code 45 = .ok (.iload 5, 2))
theorem d_C_pour_47 : m_D k_C_pour 47 (.invokestatic 120) 3 := (by decide +kernel : decode prog_1_method_8_code 47 = .ok (.invokestatic 120, 3))
theorem d_C_pour_50 : m_D k_C_pour 50 (.iconst 1) 1 := (by decide +kernel : decode prog_1_method_8_code 50 = .ok (.iconst 1, 1))
theorem d_C_pour_51 : m_D k_C_pour 51 (.ireturn) 1 := (by decide +kernel : decode prog_1_method_8_code 51 = .ok (.ireturn, 1))
def fn_C_pour (x0 : Option mA) (x1 : Int32) (x2 : Int32) (x3 : Int32) (x4 : Int32) (x5 : Int32) : mP Int32 :=
  m_th 0 x0 <|
  m_bd (fn_C_pourStatus x0 x1 x2 x3 x4 x5) fun v1 =>
  m_bd (m_pI 0 0 x0 v1) fun _ =>
  m_bd (m_gI 0 0 x0) fun v2 =>
  if v2 = 0 then
    m_bd (m_gR 0 3 x0) fun v3 =>
    m_bd (m_aR 4 v3 x1) fun v4 =>
    m_bd (m_gR 1 2 v4) fun v5 =>
    m_bd (m_gR 0 3 x0) fun v6 =>
    m_bd (m_aR 4 v6 x3) fun v7 =>
    m_bd (m_gR 1 2 v7) fun v8 =>
    m_bd (m_cpJ v5 x2 v8 x4 x5) fun _ =>
    m_rt 1
  else
    m_rt 0
set_option maxHeartbeats 4000000 in
set_option maxRecDepth 100000 in
theorem sd_C_pour (x0 : Option mA) (x1 : Int32) (x2 : Int32) (x3 : Int32) (x4 : Int32) (x5 : Int32) : m_Sm k_C_pour 3 0 0 [.inr (.inr x0), .inl x1, .inl x2, .inl x3, .inl x4, .inl x5] (fn_C_pour x0 x1 x2 x3 x4 x5) (fun b => some (.inl b)) := by
  refine ⟨Nat.le_of_ble_eq_true rfl, ?_⟩
  refine sm_th ?_
  refine sm_aload_n (i := 0) (j := 0) (pc' := 1) d_C_pour_0 rfl rfl rfl (sm_aload_n (i := 0) (j := 0) (pc' := 2) d_C_pour_1 rfl rfl rfl (sm_iload_n (i := 1) (j := 1) (pc' := 3) d_C_pour_2 rfl rfl rfl (sm_iload_n (i := 2) (j := 2) (pc' := 4) d_C_pour_3 rfl rfl rfl (sm_iload_n (i := 3) (j := 3) (pc' := 5) d_C_pour_4 rfl rfl rfl (sm_iload (j := 4) (pc' := 7) d_C_pour_5 rfl rfl (sm_iload (j := 5) (pc' := 9) d_C_pour_7 rfl rfl ?_))))))
  refine sm_callVi (ci := 0) (x := x0) (av := [.inl x1, .inl x2, .inl x3, .inl x4, .inl x5]) (st := [.inr (.inr x0)]) (mc := 0) (ms := 0) (pc' := 12) d_C_pour_9 rfl (sd_C_pourStatus x0 x1 x2 x3 x4 x5) m_lv rfl cv_C_pourStatus w_ml_C_116 rfl rfl (by decide) (Nat.le_of_ble_eq_true rfl) rfl rfl (fun v1 => ?_)
  refine sm_putI (pc' := 15) d_C_pour_12 rfl fl_C_9 (Or.inl rfl) rfl (sm_aload_n (i := 0) (j := 0) (pc' := 16) d_C_pour_15 rfl rfl rfl ?_)
  refine sm_getI (pc' := 19) d_C_pour_16 rfl fl_C_9 rfl ⟨by decide, by decide⟩ (fun v2 => ?_)
  refine sm_if_eq (tgt := 24) (pc' := 22) d_C_pour_19 rfl rfl ?_ ?_
  · refine sm_aload_n (i := 0) (j := 0) (pc' := 25) d_C_pour_24 rfl rfl rfl ?_
    refine sm_getR (pc' := 28) d_C_pour_25 rfl fl_C_22 rfl rfl (fun v3 => ?_)
    refine sm_iload_n (i := 1) (j := 1) (pc' := 29) d_C_pour_28 rfl rfl rfl ?_
    refine sm_aald (t := 4) ⟨by decide, by decide⟩ rfl (pc' := 30) d_C_pour_29 rfl (fun v4 => ?_)
    refine sm_getR (pc' := 33) d_C_pour_30 rfl fl_C_112 rfl rfl (fun v5 => ?_)
    refine sm_iload_n (i := 2) (j := 2) (pc' := 34) d_C_pour_33 rfl rfl rfl (sm_aload_n (i := 0) (j := 0) (pc' := 35) d_C_pour_34 rfl rfl rfl ?_)
    refine sm_getR (pc' := 38) d_C_pour_35 rfl fl_C_22 rfl rfl (fun v6 => ?_)
    refine sm_iload_n (i := 3) (j := 3) (pc' := 39) d_C_pour_38 rfl rfl rfl ?_
    refine sm_aald (t := 4) ⟨by decide, by decide⟩ rfl (pc' := 40) d_C_pour_39 rfl (fun v7 => ?_)
    refine sm_getR (pc' := 43) d_C_pour_40 rfl fl_C_112 rfl rfl (fun v8 => ?_)
    refine sm_iload (j := 4) (pc' := 45) d_C_pour_43 rfl rfl (sm_iload (j := 5) (pc' := 47) d_C_pour_45 rfl rfl (sm_cpJ (pc' := 50) d_C_pour_47 rfl w_ml_C_120 w_na_java_lang_System_arraycopy w_st_java_lang_System_arraycopy w_in_java_lang_System (by decide) rfl (sm_iconst (pc' := 51) d_C_pour_50 rfl ic_1 ?_)))
    exact sm_zreturn d_C_pour_51 rfl (by decide) rfl
  · refine sm_iconst (pc' := 23) d_C_pour_22 rfl ic_0 ?_
    exact sm_zreturn d_C_pour_23 rfl (by decide) rfl
theorem d_Tx_put_0 : m_D k_Tx_put 0 (.bipush 24) 2 := (by decide +kernel : decode prog_10_method_2_code 0 = .ok (.bipush 24, 2))
theorem d_Tx_put_2 : m_D k_Tx_put 2 (.istore_n 2) 1 := (by decide +kernel : decode prog_10_method_2_code 2 = .ok (.istore_n 2, 1))
theorem d_Tx_put_3 : m_D k_Tx_put 3 (.iload_n 2) 1 := (by decide +kernel : decode prog_10_method_2_code 3 = .ok (.iload_n 2, 1))
theorem d_Tx_put_4 : m_D k_Tx_put 4 (.ifCond .lt 32) 3 := (by decide +kernel : decode prog_10_method_2_code 4 = .ok (.ifCond .lt 32, 3))
theorem d_Tx_put_7 : m_D k_Tx_put 7 (.aload_n 0) 1 := (by decide +kernel : decode prog_10_method_2_code 7 = .ok (.aload_n 0, 1))
theorem d_Tx_put_8 : m_D k_Tx_put 8 (.getfield 9) 3 := (by decide +kernel : decode prog_10_method_2_code 8 = .ok (.getfield 9, 3))
theorem d_Tx_put_11 : m_D k_Tx_put 11 (.aload_n 0) 1 := (by decide +kernel : decode prog_10_method_2_code 11 = .ok (.aload_n 0, 1))
theorem d_Tx_put_12 : m_D k_Tx_put 12 (.getfield 22) 3 := (by decide +kernel : decode prog_10_method_2_code 12 = .ok (.getfield 22, 3))
theorem d_Tx_put_15 : m_D k_Tx_put 15 (.iload_n 1) 1 := (by decide +kernel : decode prog_10_method_2_code 15 = .ok (.iload_n 1, 1))
theorem d_Tx_put_16 : m_D k_Tx_put 16 (.iload_n 2) 1 := (by decide +kernel : decode prog_10_method_2_code 16 = .ok (.iload_n 2, 1))
theorem d_Tx_put_17 : m_D k_Tx_put 17 (.ishr) 1 := (by decide +kernel : decode prog_10_method_2_code 17 = .ok (.ishr, 1))
theorem d_Tx_put_18 : m_D k_Tx_put 18 (.i2b) 1 := (by decide +kernel : decode prog_10_method_2_code 18 = .ok (.i2b, 1))
theorem d_Tx_put_19 : m_D k_Tx_put 19 (.bastore) 1 := (by decide +kernel : decode prog_10_method_2_code 19 = .ok (.bastore, 1))
theorem d_Tx_put_20 : m_D k_Tx_put 20 (.aload_n 0) 1 := (by decide +kernel : decode prog_10_method_2_code 20 = .ok (.aload_n 0, 1))
theorem d_Tx_put_21 : m_D k_Tx_put 21 (.dup) 1 := (by decide +kernel : decode prog_10_method_2_code 21 = .ok (.dup, 1))
theorem d_Tx_put_22 : m_D k_Tx_put 22 (.getfield 22) 3 := (by decide +kernel : decode prog_10_method_2_code 22 = .ok (.getfield 22, 3))
theorem d_Tx_put_25 : m_D k_Tx_put 25 (.iconst 1) 1 := (by decide +kernel : decode prog_10_method_2_code 25 = .ok (.iconst 1, 1))
theorem d_Tx_put_26 : m_D k_Tx_put 26 (.iadd) 1 := (by decide +kernel : decode prog_10_method_2_code 26 = .ok (.iadd, 1))
theorem d_Tx_put_27 : m_D k_Tx_put 27 (.putfield 22) 3 := (by decide +kernel : decode prog_10_method_2_code 27 = .ok (.putfield 22, 3))
theorem d_Tx_put_30 : m_D k_Tx_put 30 (.iinc 2 (-8)) 3 := (by decide +kernel : decode prog_10_method_2_code 30 = .ok (.iinc 2 (-8), 3))
theorem d_Tx_put_33 : m_D k_Tx_put 33 (.goto (-30)) 3 := (by decide +kernel : decode prog_10_method_2_code 33 = .ok (.goto (-30), 3))
theorem d_Tx_put_36 : m_D k_Tx_put 36 (.return_) 1 := (by decide +kernel : decode prog_10_method_2_code 36 = .ok (.return_, 1))
def fn_Tx_put_l3 (x0 : Option mA) (x1 : Int32) (t1 : Int32) : mP ((Int32) ⊕ (Unit)) :=
  if t1 < 0 then
    m_rt (.inr ())
  else
    m_bd (m_gR 2 0 x0) fun v2 =>
    m_bd (m_gI 2 1 x0) fun v3 =>
    m_bd (m_tI 2 v2 v3 ((x1 >>> (t1 &&& 31))).toInt8.toInt32) fun _ =>
    m_bd (m_gI 2 1 x0) fun v4 =>
    m_bd (m_pI 2 1 x0 (v4 + 1)) fun _ =>
    m_rt (.inl (t1 + (-8)))
def fn_Tx_put (x0 : Option mA) (x1 : Int32) : mP Unit :=
  m_th 2 x0 <|
  m_bd (m_lp (fn_Tx_put_l3 x0 x1) m_F 24) fun (t5 : Unit) =>
  m_rt ()
set_option maxHeartbeats 4000000 in
set_option maxRecDepth 100000 in
theorem sd_Tx_put (x0 : Option mA) (x1 : Int32) : m_Sm k_Tx_put 1 0 0 [.inr (.inr x0), .inl x1] (fn_Tx_put x0 x1) (fun _ => none) := by
  refine ⟨Nat.le_of_ble_eq_true rfl, ?_⟩
  refine sm_th ?_
  refine sm_bipush (pc' := 2) d_Tx_put_0 rfl ib_24 (sm_istore_n (i := 2) (L' := [(2, .inl 24), (0, .inr (.inr x0)), (1, .inl x1)]) (pc' := 3) d_Tx_put_2 rfl rfl (Nat.le_of_ble_eq_true rfl) rfl ?_)
  refine sm_sub [0, 1, 2] rfl ?_
  refine sm_bd (mid := fun (t5 : Unit) => .inl (36, [], [])) (sm_lp (hd := fun (t1 : Int32) => (.inl (3, [(2, .inl t1), (0, .inr (.inr x0)), (1, .inl x1)], []) : mC)) (fun t1 => ?_) m_F 24) (fun t5 => ?_)
  · refine sm_iload_n (i := 2) (j := 0) (pc' := 4) d_Tx_put_3 rfl rfl rfl ?_
    refine sm_if_lt (tgt := 36) (pc' := 7) d_Tx_put_4 rfl rfl ?_ ?_
    · refine sm_sub [] rfl ?_
      exact sm_rt rfl
    · refine sm_aload_n (i := 0) (j := 1) (pc' := 8) d_Tx_put_7 rfl rfl rfl ?_
      refine sm_getR (pc' := 11) d_Tx_put_8 rfl fl_Tx_9 rfl rfl (fun v2 => ?_)
      refine sm_aload_n (i := 0) (j := 1) (pc' := 12) d_Tx_put_11 rfl rfl rfl ?_
      refine sm_getI (pc' := 15) d_Tx_put_12 rfl fl_Tx_22 rfl ⟨by decide, by decide⟩ (fun v3 => ?_)
      refine sm_iload_n (i := 1) (j := 2) (pc' := 16) d_Tx_put_15 rfl rfl rfl (sm_iload_n (i := 2) (j := 0) (pc' := 17) d_Tx_put_16 rfl rfl rfl (sm_ishr (pc' := 18) d_Tx_put_17 rfl (sm_i2b (pc' := 19) d_Tx_put_18 rfl (sm_bast (pc' := 20) d_Tx_put_19 rfl (sm_aload_n (i := 0) (j := 1) (pc' := 21) d_Tx_put_20 rfl rfl rfl (sm_dup (pc' := 22) d_Tx_put_21 rfl rfl ?_))))))
      refine sm_getI (pc' := 25) d_Tx_put_22 rfl fl_Tx_22 rfl ⟨by decide, by decide⟩ (fun v4 => ?_)
      refine sm_iconst (pc' := 26) d_Tx_put_25 rfl ic_1 (sm_iadd (pc' := 27) d_Tx_put_26 rfl (sm_putI (pc' := 30) d_Tx_put_27 rfl fl_Tx_22 (Or.inl rfl) rfl (sm_iinc (j := 0) (L' := [(2, .inl (t1 + (-8))), (0, .inr (.inr x0)), (1, .inl x1)]) (pc' := 33) d_Tx_put_30 rfl (v := (t1 + (-8))) rfl (ix_m8 _) (Nat.le_of_ble_eq_true rfl) rfl (sm_goto (tgt := 3) d_Tx_put_33 rfl (sm_sub [0, 1, 2] rfl ?_)))))
      exact sm_rt rfl
  · exact sm_return d_Tx_put_36 rfl rfl
theorem d_C_feed_0 : m_D k_C_feed 0 (.aload_n 0) 1 := (by decide +kernel : decode prog_1_method_13_code 0 = .ok (.aload_n 0, 1))
theorem d_C_feed_1 : m_D k_C_feed 1 (.getfield 30) 3 := (by decide +kernel : decode prog_1_method_13_code 1 = .ok (.getfield 30, 3))
theorem d_C_feed_4 : m_D k_C_feed 4 (.getfield 141) 3 := (by decide +kernel : decode prog_1_method_13_code 4 = .ok (.getfield 141, 3))
theorem d_C_feed_7 : m_D k_C_feed 7 (.bipush 20) 2 := (by decide +kernel : decode prog_1_method_13_code 7 = .ok (.bipush 20, 2))
theorem d_C_feed_9 : m_D k_C_feed 9 (.iadd) 1 := (by decide +kernel : decode prog_1_method_13_code 9 = .ok (.iadd, 1))
theorem d_C_feed_10 : m_D k_C_feed 10 (.sipush 900) 3 := (by decide +kernel : decode prog_1_method_13_code 10 = .ok (.sipush 900, 3))
theorem d_C_feed_13 : m_D k_C_feed 13 (.if_icmp .le 5) 3 := (by decide +kernel : decode prog_1_method_13_code 13 = .ok (.if_icmp .le 5, 3))
theorem d_C_feed_16 : m_D k_C_feed 16 (.iconst (-1)) 1 := (by decide +kernel : decode prog_1_method_13_code 16 = .ok (.iconst (-1), 1))
theorem d_C_feed_17 : m_D k_C_feed 17 (.ireturn) 1 := (by decide +kernel : decode prog_1_method_13_code 17 = .ok (.ireturn, 1))
theorem d_C_feed_18 : m_D k_C_feed 18 (.aload_n 0) 1 := (by decide +kernel : decode prog_1_method_13_code 18 = .ok (.aload_n 0, 1))
theorem d_C_feed_19 : m_D k_C_feed 19 (.getfield 30) 3 := (by decide +kernel : decode prog_1_method_13_code 19 = .ok (.getfield 30, 3))
theorem d_C_feed_22 : m_D k_C_feed 22 (.iload_n 1) 1 := (by decide +kernel : decode prog_1_method_13_code 22 = .ok (.iload_n 1, 1))
theorem d_C_feed_23 : m_D k_C_feed 23 (.invokevirtual 144) 3 := (by decide +kernel : decode prog_1_method_13_code 23 = .ok (.invokevirtual 144, 3))
theorem d_C_feed_26 : m_D k_C_feed 26 (.aload_n 0) 1 := (by decide +kernel : decode prog_1_method_13_code 26 = .ok (.aload_n 0, 1))
theorem d_C_feed_27 : m_D k_C_feed 27 (.getfield 30) 3 := (by decide +kernel : decode prog_1_method_13_code 27 = .ok (.getfield 30, 3))
theorem d_C_feed_30 : m_D k_C_feed 30 (.iload_n 2) 1 := (by decide +kernel : decode prog_1_method_13_code 30 = .ok (.iload_n 2, 1))
theorem d_C_feed_31 : m_D k_C_feed 31 (.invokevirtual 144) 3 := (by decide +kernel : decode prog_1_method_13_code 31 = .ok (.invokevirtual 144, 3))
theorem d_C_feed_34 : m_D k_C_feed 34 (.aload_n 0) 1 := (by decide +kernel : decode prog_1_method_13_code 34 = .ok (.aload_n 0, 1))
theorem d_C_feed_35 : m_D k_C_feed 35 (.getfield 30) 3 := (by decide +kernel : decode prog_1_method_13_code 35 = .ok (.getfield 30, 3))
theorem d_C_feed_38 : m_D k_C_feed 38 (.iload_n 3) 1 := (by decide +kernel : decode prog_1_method_13_code 38 = .ok (.iload_n 3, 1))
theorem d_C_feed_39 : m_D k_C_feed 39 (.invokevirtual 144) 3 := (by decide +kernel : decode prog_1_method_13_code 39 = .ok (.invokevirtual 144, 3))
theorem d_C_feed_42 : m_D k_C_feed 42 (.aload_n 0) 1 := (by decide +kernel : decode prog_1_method_13_code 42 = .ok (.aload_n 0, 1))
theorem d_C_feed_43 : m_D k_C_feed 43 (.getfield 30) 3 := (by decide +kernel : decode prog_1_method_13_code 43 = .ok (.getfield 30, 3))
theorem d_C_feed_46 : m_D k_C_feed 46 (.iload 4) 2 := (by decide +kernel : decode prog_1_method_13_code 46 = .ok (.iload 4, 2))
theorem d_C_feed_48 : m_D k_C_feed 48 (.invokevirtual 144) 3 := (by decide +kernel : decode prog_1_method_13_code 48 = .ok (.invokevirtual 144, 3))
theorem d_C_feed_51 : m_D k_C_feed 51 (.aload_n 0) 1 := (by decide +kernel : decode prog_1_method_13_code 51 = .ok (.aload_n 0, 1))
theorem d_C_feed_52 : m_D k_C_feed 52 (.getfield 30) 3 := (by decide +kernel : decode prog_1_method_13_code 52 = .ok (.getfield 30, 3))
theorem d_C_feed_55 : m_D k_C_feed 55 (.iload 5) 2 := (by decide +kernel : decode prog_1_method_13_code 55 = .ok (.iload 5, 2))
theorem d_C_feed_57 : m_D k_C_feed 57 (.invokevirtual 144) 3 := (by decide +kernel : decode prog_1_method_13_code 57 = .ok (.invokevirtual 144, 3))
theorem d_C_feed_60 : m_D k_C_feed 60 (.aload_n 0) 1 := (by decide +kernel : decode prog_1_method_13_code 60 = .ok (.aload_n 0, 1))
theorem d_C_feed_61 : m_D k_C_feed 61 (.getfield 30) 3 := (by decide +kernel : decode prog_1_method_13_code 61 = .ok (.getfield 30, 3))
theorem d_C_feed_64 : m_D k_C_feed 64 (.getfield 141) 3 := (by decide +kernel : decode prog_1_method_13_code 64 = .ok (.getfield 141, 3))
theorem d_C_feed_67 : m_D k_C_feed 67 (.ireturn) 1 := (by decide +kernel : decode prog_1_method_13_code 67 = .ok (.ireturn, 1))
def fn_C_feed (x0 : Option mA) (x1 : Int32) (x2 : Int32) (x3 : Int32) (x4 : Int32) (x5 : Int32) : mP Int32 :=
  m_th 0 x0 <|
  m_bd (m_gR 0 4 x0) fun v1 =>
  m_bd (m_gI 2 1 v1) fun v2 =>
  if (v2 + 20) ≤ 900 then
    m_bd (m_gR 0 4 x0) fun v3 =>
    m_bd (fn_Tx_put v3 x1) fun _ =>
    m_bd (m_gR 0 4 x0) fun v4 =>
    m_bd (fn_Tx_put v4 x2) fun _ =>
    m_bd (m_gR 0 4 x0) fun v5 =>
    m_bd (fn_Tx_put v5 x3) fun _ =>
    m_bd (m_gR 0 4 x0) fun v6 =>
    m_bd (fn_Tx_put v6 x4) fun _ =>
    m_bd (m_gR 0 4 x0) fun v7 =>
    m_bd (fn_Tx_put v7 x5) fun _ =>
    m_bd (m_gR 0 4 x0) fun v8 =>
    m_bd (m_gI 2 1 v8) fun v9 =>
    m_rt v9
  else
    m_rt (-1)
set_option maxHeartbeats 4000000 in
set_option maxRecDepth 100000 in
theorem sd_C_feed (x0 : Option mA) (x1 : Int32) (x2 : Int32) (x3 : Int32) (x4 : Int32) (x5 : Int32) : m_Sm k_C_feed 2 0 0 [.inr (.inr x0), .inl x1, .inl x2, .inl x3, .inl x4, .inl x5] (fn_C_feed x0 x1 x2 x3 x4 x5) (fun b => some (.inl b)) := by
  refine ⟨Nat.le_of_ble_eq_true rfl, ?_⟩
  refine sm_th ?_
  refine sm_aload_n (i := 0) (j := 0) (pc' := 1) d_C_feed_0 rfl rfl rfl ?_
  refine sm_getR (pc' := 4) d_C_feed_1 rfl fl_C_30 rfl rfl (fun v1 => ?_)
  refine sm_getI (pc' := 7) d_C_feed_4 rfl fl_C_141 rfl ⟨by decide, by decide⟩ (fun v2 => ?_)
  refine sm_bipush (pc' := 9) d_C_feed_7 rfl ib_20 (sm_iadd (pc' := 10) d_C_feed_9 rfl (sm_sipush (pc' := 13) d_C_feed_10 rfl is_900 ?_))
  refine sm_icmp_le (tgt := 18) (pc' := 16) d_C_feed_13 rfl rfl ?_ ?_
  · refine sm_aload_n (i := 0) (j := 0) (pc' := 19) d_C_feed_18 rfl rfl rfl ?_
    refine sm_getR (pc' := 22) d_C_feed_19 rfl fl_C_30 rfl rfl (fun v3 => ?_)
    refine sm_iload_n (i := 1) (j := 1) (pc' := 23) d_C_feed_22 rfl rfl rfl ?_
    refine sm_callVv (ci := 2) (x := v3) (av := [.inl x1]) (st := []) (mc := 0) (ms := 0) (pc' := 26) d_C_feed_23 rfl (sd_Tx_put v3 x1) m_lv rfl cv_Tx_put w_ml_C_144 rfl rfl (by decide) (Nat.le_of_ble_eq_true rfl) rfl rfl ?_
    refine sm_aload_n (i := 0) (j := 0) (pc' := 27) d_C_feed_26 rfl rfl rfl ?_
    refine sm_getR (pc' := 30) d_C_feed_27 rfl fl_C_30 rfl rfl (fun v4 => ?_)
    refine sm_iload_n (i := 2) (j := 2) (pc' := 31) d_C_feed_30 rfl rfl rfl ?_
    refine sm_callVv (ci := 2) (x := v4) (av := [.inl x2]) (st := []) (mc := 0) (ms := 0) (pc' := 34) d_C_feed_31 rfl (sd_Tx_put v4 x2) m_lv rfl cv_Tx_put w_ml_C_144 rfl rfl (by decide) (Nat.le_of_ble_eq_true rfl) rfl rfl ?_
    refine sm_aload_n (i := 0) (j := 0) (pc' := 35) d_C_feed_34 rfl rfl rfl ?_
    refine sm_getR (pc' := 38) d_C_feed_35 rfl fl_C_30 rfl rfl (fun v5 => ?_)
    refine sm_iload_n (i := 3) (j := 3) (pc' := 39) d_C_feed_38 rfl rfl rfl ?_
    refine sm_callVv (ci := 2) (x := v5) (av := [.inl x3]) (st := []) (mc := 0) (ms := 0) (pc' := 42) d_C_feed_39 rfl (sd_Tx_put v5 x3) m_lv rfl cv_Tx_put w_ml_C_144 rfl rfl (by decide) (Nat.le_of_ble_eq_true rfl) rfl rfl ?_
    refine sm_aload_n (i := 0) (j := 0) (pc' := 43) d_C_feed_42 rfl rfl rfl ?_
    refine sm_getR (pc' := 46) d_C_feed_43 rfl fl_C_30 rfl rfl (fun v6 => ?_)
    refine sm_iload (j := 4) (pc' := 48) d_C_feed_46 rfl rfl ?_
    refine sm_callVv (ci := 2) (x := v6) (av := [.inl x4]) (st := []) (mc := 0) (ms := 0) (pc' := 51) d_C_feed_48 rfl (sd_Tx_put v6 x4) m_lv rfl cv_Tx_put w_ml_C_144 rfl rfl (by decide) (Nat.le_of_ble_eq_true rfl) rfl rfl ?_
    refine sm_aload_n (i := 0) (j := 0) (pc' := 52) d_C_feed_51 rfl rfl rfl ?_
    refine sm_getR (pc' := 55) d_C_feed_52 rfl fl_C_30 rfl rfl (fun v7 => ?_)
    refine sm_iload (j := 5) (pc' := 57) d_C_feed_55 rfl rfl ?_
    refine sm_callVv (ci := 2) (x := v7) (av := [.inl x5]) (st := []) (mc := 0) (ms := 0) (pc' := 60) d_C_feed_57 rfl (sd_Tx_put v7 x5) m_lv rfl cv_Tx_put w_ml_C_144 rfl rfl (by decide) (Nat.le_of_ble_eq_true rfl) rfl rfl ?_
    refine sm_aload_n (i := 0) (j := 0) (pc' := 61) d_C_feed_60 rfl rfl rfl ?_
    refine sm_getR (pc' := 64) d_C_feed_61 rfl fl_C_30 rfl rfl (fun v8 => ?_)
    refine sm_getI (pc' := 67) d_C_feed_64 rfl fl_C_141 rfl ⟨by decide, by decide⟩ (fun v9 => ?_)
    exact sm_ireturn d_C_feed_67 rfl rfl
  · refine sm_iconst (pc' := 17) d_C_feed_16 rfl ic_m1 ?_
    exact sm_ireturn d_C_feed_17 rfl rfl
theorem d_Pl_clear_0 : m_D k_Pl_clear 0 (.aload_n 0) 1 := (by decide +kernel : decode prog_7_method_2_code 0 = .ok (.aload_n 0, 1))
theorem d_Pl_clear_1 : m_D k_Pl_clear 1 (.iconst 0) 1 := (by decide +kernel : decode prog_7_method_2_code 1 = .ok (.iconst 0, 1))
theorem d_Pl_clear_2 : m_D k_Pl_clear 2 (.putfield 33) 3 := (by decide +kernel : decode prog_7_method_2_code 2 = .ok (.putfield 33, 3))
theorem d_Pl_clear_5 : m_D k_Pl_clear 5 (.aload_n 0) 1 := (by decide +kernel : decode prog_7_method_2_code 5 = .ok (.aload_n 0, 1))
theorem d_Pl_clear_6 : m_D k_Pl_clear 6 (.iconst 0) 1 := (by decide +kernel : decode prog_7_method_2_code 6 = .ok (.iconst 0, 1))
theorem d_Pl_clear_7 : m_D k_Pl_clear 7 (.putfield 37) 3 := (by decide +kernel : decode prog_7_method_2_code 7 = .ok (.putfield 37, 3))
theorem d_Pl_clear_10 : m_D k_Pl_clear 10 (.return_) 1 := (by decide +kernel : decode prog_7_method_2_code 10 = .ok (.return_, 1))
def fn_Pl_clear (x0 : Option mA) : mP Unit :=
  m_th 6 x0 <|
  m_bd (m_pZ 6 0 x0 0) fun _ =>
  m_bd (m_pI 6 1 x0 0) fun _ =>
  m_rt ()
set_option maxHeartbeats 4000000 in
set_option maxRecDepth 100000 in
theorem sd_Pl_clear (x0 : Option mA) : m_Sm k_Pl_clear 1 0 0 [.inr (.inr x0)] (fn_Pl_clear x0) (fun _ => none) := by
  refine ⟨Nat.le_of_ble_eq_true rfl, ?_⟩
  refine sm_th ?_
  refine sm_aload_n (i := 0) (j := 0) (pc' := 1) d_Pl_clear_0 rfl rfl rfl (sm_iconst (pc' := 2) d_Pl_clear_1 rfl ic_0 (sm_putZ (pc' := 5) d_Pl_clear_2 rfl fl_Pl_33 (Or.inl rfl) rfl (sm_aload_n (i := 0) (j := 0) (pc' := 6) d_Pl_clear_5 rfl rfl rfl (sm_iconst (pc' := 7) d_Pl_clear_6 rfl ic_0 (sm_putI (pc' := 10) d_Pl_clear_7 rfl fl_Pl_37 (Or.inl rfl) rfl ?_)))))
  exact sm_return d_Pl_clear_10 rfl rfl
theorem d_Re_clear_0 : m_D k_Re_clear 0 (.aload_n 0) 1 := (by decide +kernel : decode prog_8_method_3_code 0 = .ok (.aload_n 0, 1))
theorem d_Re_clear_1 : m_D k_Re_clear 1 (.iconst 0) 1 := (by decide +kernel : decode prog_8_method_3_code 1 = .ok (.iconst 0, 1))
theorem d_Re_clear_2 : m_D k_Re_clear 2 (.putfield 47) 3 := (by decide +kernel : decode prog_8_method_3_code 2 = .ok (.putfield 47, 3))
theorem d_Re_clear_5 : m_D k_Re_clear 5 (.aload_n 0) 1 := (by decide +kernel : decode prog_8_method_3_code 5 = .ok (.aload_n 0, 1))
theorem d_Re_clear_6 : m_D k_Re_clear 6 (.iconst 0) 1 := (by decide +kernel : decode prog_8_method_3_code 6 = .ok (.iconst 0, 1))
theorem d_Re_clear_7 : m_D k_Re_clear 7 (.putfield 52) 3 := (by decide +kernel : decode prog_8_method_3_code 7 = .ok (.putfield 52, 3))
theorem d_Re_clear_10 : m_D k_Re_clear 10 (.aload_n 0) 1 := (by decide +kernel : decode prog_8_method_3_code 10 = .ok (.aload_n 0, 1))
theorem d_Re_clear_11 : m_D k_Re_clear 11 (.iconst (-1)) 1 := (by decide +kernel : decode prog_8_method_3_code 11 = .ok (.iconst (-1), 1))
theorem d_Re_clear_12 : m_D k_Re_clear 12 (.putfield 55) 3 := (by decide +kernel : decode prog_8_method_3_code 12 = .ok (.putfield 55, 3))
theorem d_Re_clear_15 : m_D k_Re_clear 15 (.aload_n 0) 1 := (by decide +kernel : decode prog_8_method_3_code 15 = .ok (.aload_n 0, 1))
theorem d_Re_clear_16 : m_D k_Re_clear 16 (.iconst (-1)) 1 := (by decide +kernel : decode prog_8_method_3_code 16 = .ok (.iconst (-1), 1))
theorem d_Re_clear_17 : m_D k_Re_clear 17 (.putfield 58) 3 := (by decide +kernel : decode prog_8_method_3_code 17 = .ok (.putfield 58, 3))
theorem d_Re_clear_20 : m_D k_Re_clear 20 (.aload_n 0) 1 := (by decide +kernel : decode prog_8_method_3_code 20 = .ok (.aload_n 0, 1))
theorem d_Re_clear_21 : m_D k_Re_clear 21 (.iconst (-1)) 1 := (by decide +kernel : decode prog_8_method_3_code 21 = .ok (.iconst (-1), 1))
theorem d_Re_clear_22 : m_D k_Re_clear 22 (.putfield 61) 3 := (by decide +kernel : decode prog_8_method_3_code 22 = .ok (.putfield 61, 3))
theorem d_Re_clear_25 : m_D k_Re_clear 25 (.aload_n 0) 1 := (by decide +kernel : decode prog_8_method_3_code 25 = .ok (.aload_n 0, 1))
theorem d_Re_clear_26 : m_D k_Re_clear 26 (.iconst (-1)) 1 := (by decide +kernel : decode prog_8_method_3_code 26 = .ok (.iconst (-1), 1))
theorem d_Re_clear_27 : m_D k_Re_clear 27 (.putfield 64) 3 := (by decide +kernel : decode prog_8_method_3_code 27 = .ok (.putfield 64, 3))
theorem d_Re_clear_30 : m_D k_Re_clear 30 (.aload_n 0) 1 := (by decide +kernel : decode prog_8_method_3_code 30 = .ok (.aload_n 0, 1))
theorem d_Re_clear_31 : m_D k_Re_clear 31 (.iconst 0) 1 := (by decide +kernel : decode prog_8_method_3_code 31 = .ok (.iconst 0, 1))
theorem d_Re_clear_32 : m_D k_Re_clear 32 (.putfield 67) 3 := (by decide +kernel : decode prog_8_method_3_code 32 = .ok (.putfield 67, 3))
theorem d_Re_clear_35 : m_D k_Re_clear 35 (.aload_n 0) 1 := (by decide +kernel : decode prog_8_method_3_code 35 = .ok (.aload_n 0, 1))
theorem d_Re_clear_36 : m_D k_Re_clear 36 (.getfield 70) 3 := (by decide +kernel : decode prog_8_method_3_code 36 = .ok (.getfield 70, 3))
theorem d_Re_clear_39 : m_D k_Re_clear 39 (.invokevirtual 74) 3 := (by decide +kernel : decode prog_8_method_3_code 39 = .ok (.invokevirtual 74, 3))
theorem d_Re_clear_42 : m_D k_Re_clear 42 (.return_) 1 := (by decide +kernel : decode prog_8_method_3_code 42 = .ok (.return_, 1))
def fn_Re_clear (x0 : Option mA) : mP Unit :=
  m_bd (m_pI 3 0 x0 0) fun _ =>
  m_bd (m_pI 3 1 x0 0) fun _ =>
  m_bd (m_pI 3 2 x0 (-1)) fun _ =>
  m_bd (m_pI 3 3 x0 (-1)) fun _ =>
  m_bd (m_pI 3 4 x0 (-1)) fun _ =>
  m_bd (m_pI 3 5 x0 (-1)) fun _ =>
  m_bd (m_pI 3 6 x0 0) fun _ =>
  m_bd (m_gR 3 9 x0) fun v1 =>
  m_bd (fn_Pl_clear v1) fun _ =>
  m_rt ()
set_option maxHeartbeats 4000000 in
set_option maxRecDepth 100000 in
theorem sd_Re_clear (x0 : Option mA) : m_Sm k_Re_clear 2 0 0 [.inr (.inr x0)] (fn_Re_clear x0) (fun _ => none) := by
  refine ⟨Nat.le_of_ble_eq_true rfl, ?_⟩
  refine sm_aload_n (i := 0) (j := 0) (pc' := 1) d_Re_clear_0 rfl rfl rfl (sm_iconst (pc' := 2) d_Re_clear_1 rfl ic_0 (sm_putI (pc' := 5) d_Re_clear_2 rfl fl_Re_47 (Or.inl rfl) rfl (sm_aload_n (i := 0) (j := 0) (pc' := 6) d_Re_clear_5 rfl rfl rfl (sm_iconst (pc' := 7) d_Re_clear_6 rfl ic_0 (sm_putI (pc' := 10) d_Re_clear_7 rfl fl_Re_52 (Or.inl rfl) rfl (sm_aload_n (i := 0) (j := 0) (pc' := 11) d_Re_clear_10 rfl rfl rfl (sm_iconst (pc' := 12) d_Re_clear_11 rfl ic_m1 (sm_putI (pc' := 15) d_Re_clear_12 rfl fl_Re_55 (Or.inl rfl) rfl (sm_aload_n (i := 0) (j := 0) (pc' := 16) d_Re_clear_15 rfl rfl rfl ?_)))))))))
  refine sm_iconst (pc' := 17) d_Re_clear_16 rfl ic_m1 (sm_putI (pc' := 20) d_Re_clear_17 rfl fl_Re_58 (Or.inl rfl) rfl (sm_aload_n (i := 0) (j := 0) (pc' := 21) d_Re_clear_20 rfl rfl rfl (sm_iconst (pc' := 22) d_Re_clear_21 rfl ic_m1 (sm_putI (pc' := 25) d_Re_clear_22 rfl fl_Re_61 (Or.inl rfl) rfl (sm_aload_n (i := 0) (j := 0) (pc' := 26) d_Re_clear_25 rfl rfl rfl (sm_iconst (pc' := 27) d_Re_clear_26 rfl ic_m1 (sm_putI (pc' := 30) d_Re_clear_27 rfl fl_Re_64 (Or.inl rfl) rfl (sm_aload_n (i := 0) (j := 0) (pc' := 31) d_Re_clear_30 rfl rfl rfl (sm_iconst (pc' := 32) d_Re_clear_31 rfl ic_0 ?_)))))))))
  refine sm_putI (pc' := 35) d_Re_clear_32 rfl fl_Re_67 (Or.inl rfl) rfl (sm_aload_n (i := 0) (j := 0) (pc' := 36) d_Re_clear_35 rfl rfl rfl ?_)
  refine sm_getR (pc' := 39) d_Re_clear_36 rfl fl_Re_70 rfl rfl (fun v1 => ?_)
  refine sm_callVv (ci := 6) (x := v1) (av := []) (st := []) (mc := 0) (ms := 0) (pc' := 42) d_Re_clear_39 rfl (sd_Pl_clear v1) m_lv rfl cv_Pl_clear w_ml_Re_74 rfl rfl (by decide) (Nat.le_of_ble_eq_true rfl) rfl rfl ?_
  exact sm_return d_Re_clear_42 rfl rfl
theorem d_Re_setDefaults_0 : m_D k_Re_setDefaults 0 (.aload_n 0) 1 := (by decide +kernel : decode prog_8_method_4_code 0 = .ok (.aload_n 0, 1))
theorem d_Re_setDefaults_1 : m_D k_Re_setDefaults 1 (.aload_n 0) 1 := (by decide +kernel : decode prog_8_method_4_code 1 = .ok (.aload_n 0, 1))
theorem d_Re_setDefaults_2 : m_D k_Re_setDefaults 2 (.getfield 55) 3 := (by decide +kernel : decode prog_8_method_4_code 2 = .ok (.getfield 55, 3))
theorem d_Re_setDefaults_5 : m_D k_Re_setDefaults 5 (.iconst (-1)) 1 := (by decide +kernel : decode prog_8_method_4_code 5 = .ok (.iconst (-1), 1))
theorem d_Re_setDefaults_6 : m_D k_Re_setDefaults 6 (.if_icmp .ne 8) 3 := (by decide +kernel : decode prog_8_method_4_code 6 = .ok (.if_icmp .ne 8, 3))
theorem d_Re_setDefaults_9 : m_D k_Re_setDefaults 9 (.bipush 40) 2 := (by decide +kernel : decode prog_8_method_4_code 9 = .ok (.bipush 40, 2))
theorem d_Re_setDefaults_11 : m_D k_Re_setDefaults 11 (.goto 7) 3 := (by decide +kernel : decode prog_8_method_4_code 11 = .ok (.goto 7, 3))
theorem d_Re_setDefaults_14 : m_D k_Re_setDefaults 14 (.aload_n 0) 1 := (by decide +kernel : decode prog_8_method_4_code 14 = .ok (.aload_n 0, 1))
theorem d_Re_setDefaults_15 : m_D k_Re_setDefaults 15 (.getfield 55) 3 := (by decide +kernel : decode prog_8_method_4_code 15 = .ok (.getfield 55, 3))
theorem d_Re_setDefaults_18 : m_D k_Re_setDefaults 18 (.putfield 55) 3 := (by decide +kernel : decode prog_8_method_4_code 18 = .ok (.putfield 55, 3))
theorem d_Re_setDefaults_21 : m_D k_Re_setDefaults 21 (.aload_n 0) 1 := (by decide +kernel : decode prog_8_method_4_code 21 = .ok (.aload_n 0, 1))
theorem d_Re_setDefaults_22 : m_D k_Re_setDefaults 22 (.aload_n 0) 1 := (by decide +kernel : decode prog_8_method_4_code 22 = .ok (.aload_n 0, 1))
theorem d_Re_setDefaults_23 : m_D k_Re_setDefaults 23 (.getfield 58) 3 := (by decide +kernel : decode prog_8_method_4_code 23 = .ok (.getfield 58, 3))
theorem d_Re_setDefaults_26 : m_D k_Re_setDefaults 26 (.iconst (-1)) 1 := (by decide +kernel : decode prog_8_method_4_code 26 = .ok (.iconst (-1), 1))
theorem d_Re_setDefaults_27 : m_D k_Re_setDefaults 27 (.if_icmp .ne 8) 3 := (by decide +kernel : decode prog_8_method_4_code 27 = .ok (.if_icmp .ne 8, 3))
theorem d_Re_setDefaults_30 : m_D k_Re_setDefaults 30 (.bipush 70) 2 := (by decide +kernel : decode prog_8_method_4_code 30 = .ok (.bipush 70, 2))
theorem d_Re_setDefaults_32 : m_D k_Re_setDefaults 32 (.goto 7) 3 := (by decide +kernel : decode prog_8_method_4_code 32 = .ok (.goto 7, 3))
theorem d_Re_setDefaults_35 : m_D k_Re_setDefaults 35 (.aload_n 0) 1 := (by decide +kernel : decode prog_8_method_4_code 35 = .ok (.aload_n 0, 1))
theorem d_Re_setDefaults_36 : m_D k_Re_setDefaults 36 (.getfield 58) 3 := (by decide +kernel : decode prog_8_method_4_code 36 = .ok (.getfield 58, 3))
theorem d_Re_setDefaults_39 : m_D k_Re_setDefaults 39 (.putfield 58) 3 := (by decide +kernel : decode prog_8_method_4_code 39 = .ok (.putfield 58, 3))
theorem d_Re_setDefaults_42 : m_D k_Re_setDefaults 42 (.aload_n 0) 1 := (by decide +kernel : decode prog_8_method_4_code 42 = .ok (.aload_n 0, 1))
theorem d_Re_setDefaults_43 : m_D k_Re_setDefaults 43 (.aload_n 0) 1 := (by decide +kernel : decode prog_8_method_4_code 43 = .ok (.aload_n 0, 1))
theorem d_Re_setDefaults_44 : m_D k_Re_setDefaults 44 (.getfield 61) 3 := (by decide +kernel : decode prog_8_method_4_code 44 = .ok (.getfield 61, 3))
theorem d_Re_setDefaults_47 : m_D k_Re_setDefaults 47 (.iconst (-1)) 1 := (by decide +kernel : decode prog_8_method_4_code 47 = .ok (.iconst (-1), 1))
theorem d_Re_setDefaults_48 : m_D k_Re_setDefaults 48 (.if_icmp .ne 7) 3 := (by decide +kernel : decode prog_8_method_4_code 48 = .ok (.if_icmp .ne 7, 3))
theorem d_Re_setDefaults_51 : m_D k_Re_setDefaults 51 (.iconst 4) 1 := (by decide +kernel : decode prog_8_method_4_code 51 = .ok (.iconst 4, 1))
theorem d_Re_setDefaults_52 : m_D k_Re_setDefaults 52 (.goto 7) 3 := (by decide +kernel : decode prog_8_method_4_code 52 = .ok (.goto 7, 3))
theorem d_Re_setDefaults_55 : m_D k_Re_setDefaults 55 (.aload_n 0) 1 := (by decide +kernel : decode prog_8_method_4_code 55 = .ok (.aload_n 0, 1))
theorem d_Re_setDefaults_56 : m_D k_Re_setDefaults 56 (.getfield 61) 3 := (by decide +kernel : decode prog_8_method_4_code 56 = .ok (.getfield 61, 3))
theorem d_Re_setDefaults_59 : m_D k_Re_setDefaults 59 (.putfield 61) 3 := (by decide +kernel : decode prog_8_method_4_code 59 = .ok (.putfield 61, 3))
theorem d_Re_setDefaults_62 : m_D k_Re_setDefaults 62 (.aload_n 0) 1 := (by decide +kernel : decode prog_8_method_4_code 62 = .ok (.aload_n 0, 1))
theorem d_Re_setDefaults_63 : m_D k_Re_setDefaults 63 (.aload_n 0) 1 := (by decide +kernel : decode prog_8_method_4_code 63 = .ok (.aload_n 0, 1))
theorem d_Re_setDefaults_64 : m_D k_Re_setDefaults 64 (.getfield 64) 3 := (by decide +kernel : decode prog_8_method_4_code 64 = .ok (.getfield 64, 3))
theorem d_Re_setDefaults_67 : m_D k_Re_setDefaults 67 (.iconst (-1)) 1 := (by decide +kernel : decode prog_8_method_4_code 67 = .ok (.iconst (-1), 1))
theorem d_Re_setDefaults_68 : m_D k_Re_setDefaults 68 (.if_icmp .ne 7) 3 := (by decide +kernel : decode prog_8_method_4_code 68 = .ok (.if_icmp .ne 7, 3))
theorem d_Re_setDefaults_71 : m_D k_Re_setDefaults 71 (.iconst 3) 1 := (by decide +kernel : decode prog_8_method_4_code 71 = .ok (.iconst 3, 1))
theorem d_Re_setDefaults_72 : m_D k_Re_setDefaults 72 (.goto 7) 3 := (by decide +kernel : decode prog_8_method_4_code 72 = .ok (.goto 7, 3))
theorem d_Re_setDefaults_75 : m_D k_Re_setDefaults 75 (.aload_n 0) 1 := (by decide +kernel : decode prog_8_method_4_code 75 = .ok (.aload_n 0, 1))
theorem d_Re_setDefaults_76 : m_D k_Re_setDefaults 76 (.getfield 64) 3 := (by decide +kernel : decode prog_8_method_4_code 76 = .ok (.getfield 64, 3))
theorem d_Re_setDefaults_79 : m_D k_Re_setDefaults 79 (.putfield 64) 3 := (by decide +kernel : decode prog_8_method_4_code 79 = .ok (.putfield 64, 3))
theorem d_Re_setDefaults_82 : m_D k_Re_setDefaults 82 (.return_) 1 := (by decide +kernel : decode prog_8_method_4_code 82 = .ok (.return_, 1))
def fn_Re_setDefaults (x0 : Option mA) : mP Unit :=
  m_bd (m_gI 3 2 x0) fun v1 =>
  m_bd (α := Int32) (
    if v1 = (-1) then
      m_rt 40
    else
      m_bd (m_gI 3 2 x0) fun v2 =>
      m_rt v2
    ) fun (t3 : Int32) =>
  m_bd (m_pI 3 2 x0 t3) fun _ =>
  m_bd (m_gI 3 3 x0) fun v4 =>
  m_bd (α := Int32) (
    if v4 = (-1) then
      m_rt 70
    else
      m_bd (m_gI 3 3 x0) fun v5 =>
      m_rt v5
    ) fun (t6 : Int32) =>
  m_bd (m_pI 3 3 x0 t6) fun _ =>
  m_bd (m_gI 3 4 x0) fun v7 =>
  m_bd (α := Int32) (
    if v7 = (-1) then
      m_rt 4
    else
      m_bd (m_gI 3 4 x0) fun v8 =>
      m_rt v8
    ) fun (t9 : Int32) =>
  m_bd (m_pI 3 4 x0 t9) fun _ =>
  m_bd (m_gI 3 5 x0) fun v10 =>
  if v10 = (-1) then
    m_bd (m_pI 3 5 x0 3) fun _ =>
    m_rt ()
  else
    m_bd (m_gI 3 5 x0) fun v11 =>
    m_bd (m_pI 3 5 x0 v11) fun _ =>
    m_rt ()
set_option maxHeartbeats 4000000 in
set_option maxRecDepth 100000 in
theorem sd_Re_setDefaults (x0 : Option mA) : m_Sm k_Re_setDefaults 1 0 0 [.inr (.inr x0)] (fn_Re_setDefaults x0) (fun _ => none) := by
  refine ⟨Nat.le_of_ble_eq_true rfl, ?_⟩
  refine sm_aload_n (i := 0) (j := 0) (pc' := 1) d_Re_setDefaults_0 rfl rfl rfl (sm_aload_n (i := 0) (j := 0) (pc' := 2) d_Re_setDefaults_1 rfl rfl rfl ?_)
  refine sm_getI (pc' := 5) d_Re_setDefaults_2 rfl fl_Re_55 rfl ⟨by decide, by decide⟩ (fun v1 => ?_)
  refine sm_iconst (pc' := 6) d_Re_setDefaults_5 rfl ic_m1 ?_
  refine sm_bd (mid := fun (t3 : Int32) => .inl (18, [(0, .inr (.inr x0))], [.inl t3, .inr (.inr x0)])) ?_ (fun t3 => ?_)
  · refine sm_icmp_ne (tgt := 14) (pc' := 9) d_Re_setDefaults_6 rfl rfl ?_ ?_
    · refine sm_aload_n (i := 0) (j := 0) (pc' := 15) d_Re_setDefaults_14 rfl rfl rfl ?_
      refine sm_getI (pc' := 18) d_Re_setDefaults_15 rfl fl_Re_55 rfl ⟨by decide, by decide⟩ (fun v2 => ?_)
      refine sm_sub [0] rfl ?_
      exact sm_rt rfl
    · refine sm_bipush (pc' := 11) d_Re_setDefaults_9 rfl ib_40 (sm_goto (tgt := 18) d_Re_setDefaults_11 rfl (sm_sub [0] rfl ?_))
      exact sm_rt rfl
  · refine sm_putI (pc' := 21) d_Re_setDefaults_18 rfl fl_Re_55 (Or.inl rfl) rfl (sm_aload_n (i := 0) (j := 0) (pc' := 22) d_Re_setDefaults_21 rfl rfl rfl (sm_aload_n (i := 0) (j := 0) (pc' := 23) d_Re_setDefaults_22 rfl rfl rfl ?_))
    refine sm_getI (pc' := 26) d_Re_setDefaults_23 rfl fl_Re_58 rfl ⟨by decide, by decide⟩ (fun v4 => ?_)
    refine sm_iconst (pc' := 27) d_Re_setDefaults_26 rfl ic_m1 ?_
    refine sm_bd (mid := fun (t6 : Int32) => .inl (39, [(0, .inr (.inr x0))], [.inl t6, .inr (.inr x0)])) ?_ (fun t6 => ?_)
    · refine sm_icmp_ne (tgt := 35) (pc' := 30) d_Re_setDefaults_27 rfl rfl ?_ ?_
      · refine sm_aload_n (i := 0) (j := 0) (pc' := 36) d_Re_setDefaults_35 rfl rfl rfl ?_
        refine sm_getI (pc' := 39) d_Re_setDefaults_36 rfl fl_Re_58 rfl ⟨by decide, by decide⟩ (fun v5 => ?_)
        refine sm_sub [0] rfl ?_
        exact sm_rt rfl
      · refine sm_bipush (pc' := 32) d_Re_setDefaults_30 rfl ib_70 (sm_goto (tgt := 39) d_Re_setDefaults_32 rfl (sm_sub [0] rfl ?_))
        exact sm_rt rfl
    · refine sm_putI (pc' := 42) d_Re_setDefaults_39 rfl fl_Re_58 (Or.inl rfl) rfl (sm_aload_n (i := 0) (j := 0) (pc' := 43) d_Re_setDefaults_42 rfl rfl rfl (sm_aload_n (i := 0) (j := 0) (pc' := 44) d_Re_setDefaults_43 rfl rfl rfl ?_))
      refine sm_getI (pc' := 47) d_Re_setDefaults_44 rfl fl_Re_61 rfl ⟨by decide, by decide⟩ (fun v7 => ?_)
      refine sm_iconst (pc' := 48) d_Re_setDefaults_47 rfl ic_m1 ?_
      refine sm_bd (mid := fun (t9 : Int32) => .inl (59, [(0, .inr (.inr x0))], [.inl t9, .inr (.inr x0)])) ?_ (fun t9 => ?_)
      · refine sm_icmp_ne (tgt := 55) (pc' := 51) d_Re_setDefaults_48 rfl rfl ?_ ?_
        · refine sm_aload_n (i := 0) (j := 0) (pc' := 56) d_Re_setDefaults_55 rfl rfl rfl ?_
          refine sm_getI (pc' := 59) d_Re_setDefaults_56 rfl fl_Re_61 rfl ⟨by decide, by decide⟩ (fun v8 => ?_)
          refine sm_sub [0] rfl ?_
          exact sm_rt rfl
        · refine sm_iconst (pc' := 52) d_Re_setDefaults_51 rfl ic_4 (sm_goto (tgt := 59) d_Re_setDefaults_52 rfl (sm_sub [0] rfl ?_))
          exact sm_rt rfl
      · refine sm_putI (pc' := 62) d_Re_setDefaults_59 rfl fl_Re_61 (Or.inl rfl) rfl (sm_aload_n (i := 0) (j := 0) (pc' := 63) d_Re_setDefaults_62 rfl rfl rfl (sm_aload_n (i := 0) (j := 0) (pc' := 64) d_Re_setDefaults_63 rfl rfl rfl ?_))
        refine sm_getI (pc' := 67) d_Re_setDefaults_64 rfl fl_Re_64 rfl ⟨by decide, by decide⟩ (fun v10 => ?_)
        refine sm_iconst (pc' := 68) d_Re_setDefaults_67 rfl ic_m1 ?_
        refine sm_icmp_ne (tgt := 75) (pc' := 71) d_Re_setDefaults_68 rfl rfl ?_ ?_
        · refine sm_aload_n (i := 0) (j := 0) (pc' := 76) d_Re_setDefaults_75 rfl rfl rfl ?_
          refine sm_getI (pc' := 79) d_Re_setDefaults_76 rfl fl_Re_64 rfl ⟨by decide, by decide⟩ (fun v11 => ?_)
          refine sm_putI (pc' := 82) d_Re_setDefaults_79 rfl fl_Re_64 (Or.inl rfl) rfl ?_
          exact sm_return d_Re_setDefaults_82 rfl rfl
        · refine sm_iconst (pc' := 72) d_Re_setDefaults_71 rfl ic_3 (sm_goto (tgt := 79) d_Re_setDefaults_72 rfl (sm_putI (pc' := 82) d_Re_setDefaults_79 rfl fl_Re_64 (Or.inl rfl) rfl ?_))
          exact sm_return d_Re_setDefaults_82 rfl rfl
theorem d_Fa_personNamed_0 : m_D k_Fa_personNamed 0 (.iconst 0) 1 := (by decide +kernel : decode prog_3_method_5_code 0 = .ok (.iconst 0, 1))
theorem d_Fa_personNamed_1 : m_D k_Fa_personNamed 1 (.istore_n 3) 1 := (by decide +kernel : decode prog_3_method_5_code 1 = .ok (.istore_n 3, 1))
theorem d_Fa_personNamed_2 : m_D k_Fa_personNamed 2 (.iload_n 3) 1 := (by decide +kernel : decode prog_3_method_5_code 2 = .ok (.iload_n 3, 1))
theorem d_Fa_personNamed_3 : m_D k_Fa_personNamed 3 (.aload_n 0) 1 := (by decide +kernel : decode prog_3_method_5_code 3 = .ok (.aload_n 0, 1))
theorem d_Fa_personNamed_4 : m_D k_Fa_personNamed 4 (.getfield 45) 3 := (by decide +kernel : decode prog_3_method_5_code 4 = .ok (.getfield 45, 3))
theorem d_Fa_personNamed_7 : m_D k_Fa_personNamed 7 (.if_icmp .ge 25) 3 := (by decide +kernel : decode prog_3_method_5_code 7 = .ok (.if_icmp .ge 25, 3))
theorem d_Fa_personNamed_10 : m_D k_Fa_personNamed 10 (.aload_n 0) 1 := (by decide +kernel : decode prog_3_method_5_code 10 = .ok (.aload_n 0, 1))
theorem d_Fa_personNamed_11 : m_D k_Fa_personNamed 11 (.getfield 26) 3 := (by decide +kernel : decode prog_3_method_5_code 11 = .ok (.getfield 26, 3))
theorem d_Fa_personNamed_14 : m_D k_Fa_personNamed 14 (.iload_n 3) 1 := (by decide +kernel : decode prog_3_method_5_code 14 = .ok (.iload_n 3, 1))
theorem d_Fa_personNamed_15 : m_D k_Fa_personNamed 15 (.aaload) 1 := (by decide +kernel : decode prog_3_method_5_code 15 = .ok (.aaload, 1))
theorem d_Fa_personNamed_16 : m_D k_Fa_personNamed 16 (.getfield 61) 3 := (by decide +kernel : decode prog_3_method_5_code 16 = .ok (.getfield 61, 3))
theorem d_Fa_personNamed_19 : m_D k_Fa_personNamed 19 (.lload_n 1) 1 := (by decide +kernel : decode prog_3_method_5_code 19 = .ok (.lload_n 1, 1))
theorem d_Fa_personNamed_20 : m_D k_Fa_personNamed 20 (.lcmp) 1 := (by decide +kernel : decode prog_3_method_5_code 20 = .ok (.lcmp, 1))
theorem d_Fa_personNamed_21 : m_D k_Fa_personNamed 21 (.ifCond .ne 5) 3 := (by decide +kernel : decode prog_3_method_5_code 21 = .ok (.ifCond .ne 5, 3))
theorem d_Fa_personNamed_24 : m_D k_Fa_personNamed 24 (.iload_n 3) 1 := (by decide +kernel : decode prog_3_method_5_code 24 = .ok (.iload_n 3, 1))
theorem d_Fa_personNamed_25 : m_D k_Fa_personNamed 25 (.ireturn) 1 := (by decide +kernel : decode prog_3_method_5_code 25 = .ok (.ireturn, 1))
theorem d_Fa_personNamed_26 : m_D k_Fa_personNamed 26 (.iinc 3 1) 3 := (by decide +kernel : decode prog_3_method_5_code 26 = .ok (.iinc 3 1, 3))
theorem d_Fa_personNamed_29 : m_D k_Fa_personNamed 29 (.goto (-27)) 3 := (by decide +kernel : decode prog_3_method_5_code 29 = .ok (.goto (-27), 3))
theorem d_Fa_personNamed_32 : m_D k_Fa_personNamed 32 (.iconst (-1)) 1 := (by decide +kernel : decode prog_3_method_5_code 32 = .ok (.iconst (-1), 1))
theorem d_Fa_personNamed_33 : m_D k_Fa_personNamed 33 (.ireturn) 1 := (by decide +kernel : decode prog_3_method_5_code 33 = .ok (.ireturn, 1))
def fn_Fa_personNamed_l2 (x0 : Option mA) (x1 : Int64) (t1 : Int32) : mP ((Int32) ⊕ (Int32)) :=
  m_bd (m_gI 3 0 x0) fun v2 =>
  if v2 ≤ t1 then
    m_rt (.inr (-1))
  else
    m_bd (m_gR 3 7 x0) fun v3 =>
    m_bd (m_aR 6 v3 t1) fun v4 =>
    m_bd (m_gJ 4 0 v4) fun v5 =>
    if (lg_cmp v5 x1) = 0 then
      m_rt (.inr t1)
    else
      m_rt (.inl (t1 + 1))
def fn_Fa_personNamed (x0 : Option mA) (x1 : Int64) : mP Int32 :=
  m_th 3 x0 <|
  m_lp (fn_Fa_personNamed_l2 x0 x1) m_F 0
set_option maxHeartbeats 4000000 in
set_option maxRecDepth 100000 in
theorem sd_Fa_personNamed (x0 : Option mA) (x1 : Int64) : m_Sm k_Fa_personNamed 1 0 0 [.inr (.inr x0), .inr (.inl x1)] (fn_Fa_personNamed x0 x1) (fun b => some (.inl b)) := by
  refine ⟨Nat.le_of_ble_eq_true rfl, ?_⟩
  refine sm_th ?_
  refine sm_iconst (pc' := 1) d_Fa_personNamed_0 rfl ic_0 (sm_istore_n (i := 3) (L' := [(3, .inl 0), (0, .inr (.inr x0)), (1, .inr (.inl x1))]) (pc' := 2) d_Fa_personNamed_1 rfl rfl (Nat.le_of_ble_eq_true rfl) rfl ?_)
  refine sm_sub [0, 1, 2] rfl ?_
  refine sm_lp (hd := fun (t1 : Int32) => (.inl (2, [(3, .inl t1), (0, .inr (.inr x0)), (1, .inr (.inl x1))], []) : mC)) (fun t1 => ?_) m_F 0
  refine sm_iload_n (i := 3) (j := 0) (pc' := 3) d_Fa_personNamed_2 rfl rfl rfl (sm_aload_n (i := 0) (j := 1) (pc' := 4) d_Fa_personNamed_3 rfl rfl rfl ?_)
  refine sm_getI (pc' := 7) d_Fa_personNamed_4 rfl fl_Fa_45 rfl ⟨by decide, by decide⟩ (fun v2 => ?_)
  refine sm_icmp_ge (tgt := 32) (pc' := 10) d_Fa_personNamed_7 rfl rfl ?_ ?_
  · refine sm_iconst (pc' := 33) d_Fa_personNamed_32 rfl ic_m1 ?_
    exact sm_ireturn d_Fa_personNamed_33 rfl rfl
  · refine sm_aload_n (i := 0) (j := 1) (pc' := 11) d_Fa_personNamed_10 rfl rfl rfl ?_
    refine sm_getR (pc' := 14) d_Fa_personNamed_11 rfl fl_Fa_26 rfl rfl (fun v3 => ?_)
    refine sm_iload_n (i := 3) (j := 0) (pc' := 15) d_Fa_personNamed_14 rfl rfl rfl ?_
    refine sm_aald (t := 6) ⟨by decide, by decide⟩ rfl (pc' := 16) d_Fa_personNamed_15 rfl (fun v4 => ?_)
    refine sm_getJ (pc' := 19) d_Fa_personNamed_16 rfl fl_Fa_61 rfl rfl (fun v5 => ?_)
    refine sm_lload_n (i := 1) (j := 2) (pc' := 20) d_Fa_personNamed_19 rfl rfl rfl (sm_lcmp (pc' := 21) d_Fa_personNamed_20 rfl ?_)
    refine sm_if_ne (tgt := 26) (pc' := 24) d_Fa_personNamed_21 rfl rfl ?_ ?_
    · refine sm_iinc (j := 0) (L' := [(3, .inl (t1 + 1)), (0, .inr (.inr x0)), (1, .inr (.inl x1))]) (pc' := 29) d_Fa_personNamed_26 rfl (v := (t1 + 1)) rfl (ix_1 _) (Nat.le_of_ble_eq_true rfl) rfl (sm_goto (tgt := 2) d_Fa_personNamed_29 rfl (sm_sub [0, 1, 2] rfl ?_))
      exact sm_rt rfl
    · refine sm_iload_n (i := 3) (j := 0) (pc' := 25) d_Fa_personNamed_24 rfl rfl rfl ?_
      exact sm_ireturn d_Fa_personNamed_25 rfl rfl
