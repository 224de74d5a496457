/-! 09.jdk0, laid by wip/whole/gen.py -/
theorem d_JA_fill_aJJ_0 : m_D k_JA_fill_aJJ 0 (.iconst 0) 1 := (by decide +kernel : decode prog_21_method_101_code 0 = .ok (.iconst 0, 1))
theorem d_JA_fill_aJJ_1 : m_D k_JA_fill_aJJ 1 (.istore_n 3) 1 := (by decide +kernel : decode prog_21_method_101_code 1 = .ok (.istore_n 3, 1))
theorem d_JA_fill_aJJ_2 : m_D k_JA_fill_aJJ 2 (.aload_n 0) 1 := (by decide +kernel : decode prog_21_method_101_code 2 = .ok (.aload_n 0, 1))
theorem d_JA_fill_aJJ_3 : m_D k_JA_fill_aJJ 3 (.arraylength) 1 := (by decide +kernel : decode prog_21_method_101_code 3 = .ok (.arraylength, 1))
theorem d_JA_fill_aJJ_4 : m_D k_JA_fill_aJJ 4 (.istore 4) 2 := (by decide +kernel : decode prog_21_method_101_code 4 = .ok (.istore 4, 2))
theorem d_JA_fill_aJJ_6 : m_D k_JA_fill_aJJ 6 (.iload_n 3) 1 := (by decide +kernel : decode prog_21_method_101_code 6 = .ok (.iload_n 3, 1))
theorem d_JA_fill_aJJ_7 : m_D k_JA_fill_aJJ 7 (.iload 4) 2 := (by decide +kernel : decode prog_21_method_101_code 7 = .ok (.iload 4, 2))
theorem d_JA_fill_aJJ_9 : m_D k_JA_fill_aJJ 9 (.if_icmp .ge 13) 3 := (by decide +kernel : decode prog_21_method_101_code 9 = .ok (.if_icmp .ge 13, 3))
theorem d_JA_fill_aJJ_12 : m_D k_JA_fill_aJJ 12 (.aload_n 0) 1 := (by decide +kernel : decode prog_21_method_101_code 12 = .ok (.aload_n 0, 1))
theorem d_JA_fill_aJJ_13 : m_D k_JA_fill_aJJ 13 (.iload_n 3) 1 := (by decide +kernel : decode prog_21_method_101_code 13 = .ok (.iload_n 3, 1))
theorem d_JA_fill_aJJ_14 : m_D k_JA_fill_aJJ 14 (.lload_n 1) 1 := (by decide +kernel : decode prog_21_method_101_code 14 = .ok (.lload_n 1, 1))
theorem d_JA_fill_aJJ_15 : m_D k_JA_fill_aJJ 15 (.lastore) 1 := (by decide +kernel : decode prog_21_method_101_code 15 = .ok (.lastore, 1))
theorem d_JA_fill_aJJ_16 : m_D k_JA_fill_aJJ 16 (.iinc 3 1) 3 := (by decide +kernel : decode prog_21_method_101_code 16 = .ok (.iinc 3 1, 3))
theorem d_JA_fill_aJJ_19 : m_D k_JA_fill_aJJ 19 (.goto (-13)) 3 := (by decide +kernel : decode prog_21_method_101_code 19 = .ok (.goto (-13), 3))
theorem d_JA_fill_aJJ_22 : m_D k_JA_fill_aJJ 22 (.return_) 1 := (by decide +kernel : decode prog_21_method_101_code 22 = .ok (.return_, 1))
def fn_JA_fill_aJJ_l6 (x0 : Option mA) (x1 : Int64) (v1 : Int32) (t2 : Int32) : mP ((Int32) ⊕ (Unit)) :=
  if v1 ≤ t2 then
    m_rt (.inr ())
  else
    m_bd (m_tJ x0 t2 x1) fun _ =>
    m_rt (.inl (t2 + 1))
def fn_JA_fill_aJJ (x0 : Option mA) (x1 : Int64) : mP Unit :=
  m_bd (m_ln x0) fun v1 =>
  m_bd (m_lp (fn_JA_fill_aJJ_l6 x0 x1 v1) m_F 0) fun (t3 : Unit) =>
  m_rt ()
set_option maxHeartbeats 4000000 in
set_option maxRecDepth 100000 in
theorem sd_JA_fill_aJJ (x0 : Option mA) (x1 : Int64) : m_Sm k_JA_fill_aJJ 1 0 0 [.inr (.inr x0), .inr (.inl x1)] (fn_JA_fill_aJJ x0 x1) (fun _ => none) := by
  refine ⟨Nat.le_of_ble_eq_true rfl, ?_⟩
  refine sm_iconst (pc' := 1) d_JA_fill_aJJ_0 rfl ic_0 (sm_istore_n (i := 3) (L' := [(3, .inl 0), (0, .inr (.inr x0)), (1, .inr (.inl x1))]) (pc' := 2) d_JA_fill_aJJ_1 rfl rfl (Nat.le_of_ble_eq_true rfl) rfl (sm_aload_n (i := 0) (j := 1) (pc' := 3) d_JA_fill_aJJ_2 rfl rfl rfl ?_))
  refine sm_alen (pc' := 4) d_JA_fill_aJJ_3 rfl (fun v1 => ?_)
  refine sm_istore (L' := [(4, .inl v1), (3, .inl 0), (0, .inr (.inr x0)), (1, .inr (.inl x1))]) (pc' := 6) d_JA_fill_aJJ_4 rfl (Nat.le_of_ble_eq_true rfl) rfl ?_
  refine sm_sub [1, 2, 3, 0] rfl ?_
  refine sm_bd (mid := fun (t3 : Unit) => .inl (22, [], [])) (sm_lp (hd := fun (t2 : Int32) => (.inl (6, [(3, .inl t2), (0, .inr (.inr x0)), (1, .inr (.inl x1)), (4, .inl v1)], []) : mC)) (fun t2 => ?_) m_F 0) (fun t3 => ?_)
  · refine sm_iload_n (i := 3) (j := 0) (pc' := 7) d_JA_fill_aJJ_6 rfl rfl rfl (sm_iload (j := 3) (pc' := 9) d_JA_fill_aJJ_7 rfl rfl ?_)
    refine sm_icmp_ge (tgt := 22) (pc' := 12) d_JA_fill_aJJ_9 rfl rfl ?_ ?_
    · refine sm_sub [] rfl ?_
      exact sm_rt rfl
    · refine sm_aload_n (i := 0) (j := 1) (pc' := 13) d_JA_fill_aJJ_12 rfl rfl rfl (sm_iload_n (i := 3) (j := 0) (pc' := 14) d_JA_fill_aJJ_13 rfl rfl rfl (sm_lload_n (i := 1) (j := 2) (pc' := 15) d_JA_fill_aJJ_14 rfl rfl rfl (sm_last (pc' := 16) d_JA_fill_aJJ_15 rfl (sm_iinc (j := 0) (L' := [(3, .inl (t2 + 1)), (0, .inr (.inr x0)), (1, .inr (.inl x1)), (4, .inl v1)]) (pc' := 19) d_JA_fill_aJJ_16 rfl (v := (t2 + 1)) rfl (ix_1 _) (Nat.le_of_ble_eq_true rfl) rfl (sm_goto (tgt := 6) d_JA_fill_aJJ_19 rfl (sm_sub [0, 1, 2, 3] rfl ?_))))))
      exact sm_rt rfl
  · exact sm_return d_JA_fill_aJJ_22 rfl rfl
theorem d_JA_fill_aII_0 : m_D k_JA_fill_aII 0 (.iconst 0) 1 := (by decide +kernel : decode prog_21_method_103_code 0 = .ok (.iconst 0, 1))
theorem d_JA_fill_aII_1 : m_D k_JA_fill_aII 1 (.istore_n 2) 1 := (by decide +kernel : decode prog_21_method_103_code 1 = .ok (.istore_n 2, 1))
theorem d_JA_fill_aII_2 : m_D k_JA_fill_aII 2 (.aload_n 0) 1 := (by decide +kernel : decode prog_21_method_103_code 2 = .ok (.aload_n 0, 1))
theorem d_JA_fill_aII_3 : m_D k_JA_fill_aII 3 (.arraylength) 1 := (by decide +kernel : decode prog_21_method_103_code 3 = .ok (.arraylength, 1))
theorem d_JA_fill_aII_4 : m_D k_JA_fill_aII 4 (.istore_n 3) 1 := (by decide +kernel : decode prog_21_method_103_code 4 = .ok (.istore_n 3, 1))
theorem d_JA_fill_aII_5 : m_D k_JA_fill_aII 5 (.iload_n 2) 1 := (by decide +kernel : decode prog_21_method_103_code 5 = .ok (.iload_n 2, 1))
theorem d_JA_fill_aII_6 : m_D k_JA_fill_aII 6 (.iload_n 3) 1 := (by decide +kernel : decode prog_21_method_103_code 6 = .ok (.iload_n 3, 1))
theorem d_JA_fill_aII_7 : m_D k_JA_fill_aII 7 (.if_icmp .ge 13) 3 := (by decide +kernel : decode prog_21_method_103_code 7 = .ok (.if_icmp .ge 13, 3))
theorem d_JA_fill_aII_10 : m_D k_JA_fill_aII 10 (.aload_n 0) 1 := (by decide +kernel : decode prog_21_method_103_code 10 = .ok (.aload_n 0, 1))
theorem d_JA_fill_aII_11 : m_D k_JA_fill_aII 11 (.iload_n 2) 1 := (by decide +kernel : decode prog_21_method_103_code 11 = .ok (.iload_n 2, 1))
theorem d_JA_fill_aII_12 : m_D k_JA_fill_aII 12 (.iload_n 1) 1 := (by decide +kernel : decode prog_21_method_103_code 12 = .ok (.iload_n 1, 1))
theorem d_JA_fill_aII_13 : m_D k_JA_fill_aII 13 (.iastore) 1 := (by decide +kernel : decode prog_21_method_103_code 13 = .ok (.iastore, 1))
theorem d_JA_fill_aII_14 : m_D k_JA_fill_aII 14 (.iinc 2 1) 3 := (by decide +kernel : decode prog_21_method_103_code 14 = .ok (.iinc 2 1, 3))
theorem d_JA_fill_aII_17 : m_D k_JA_fill_aII 17 (.goto (-12)) 3 := (by decide +kernel : decode prog_21_method_103_code 17 = .ok (.goto (-12), 3))
theorem d_JA_fill_aII_20 : m_D k_JA_fill_aII 20 (.return_) 1 := (by decide +kernel : decode prog_21_method_103_code 20 = .ok (.return_, 1))
def fn_JA_fill_aII_l5 (x0 : Option mA) (x1 : Int32) (v1 : Int32) (t2 : Int32) : mP ((Int32) ⊕ (Unit)) :=
  if v1 ≤ t2 then
    m_rt (.inr ())
  else
    m_bd (m_tI 0 x0 t2 x1) fun _ =>
    m_rt (.inl (t2 + 1))
def fn_JA_fill_aII (x0 : Option mA) (x1 : Int32) : mP Unit :=
  m_bd (m_ln x0) fun v1 =>
  m_bd (m_lp (fn_JA_fill_aII_l5 x0 x1 v1) m_F 0) fun (t3 : Unit) =>
  m_rt ()
set_option maxHeartbeats 4000000 in
set_option maxRecDepth 100000 in
theorem sd_JA_fill_aII (x0 : Option mA) (x1 : Int32) : m_Sm k_JA_fill_aII 1 0 0 [.inr (.inr x0), .inl x1] (fn_JA_fill_aII x0 x1) (fun _ => none) := by
  refine ⟨Nat.le_of_ble_eq_true rfl, ?_⟩
  refine sm_iconst (pc' := 1) d_JA_fill_aII_0 rfl ic_0 (sm_istore_n (i := 2) (L' := [(2, .inl 0), (0, .inr (.inr x0)), (1, .inl x1)]) (pc' := 2) d_JA_fill_aII_1 rfl rfl (Nat.le_of_ble_eq_true rfl) rfl (sm_aload_n (i := 0) (j := 1) (pc' := 3) d_JA_fill_aII_2 rfl rfl rfl ?_))
  refine sm_alen (pc' := 4) d_JA_fill_aII_3 rfl (fun v1 => ?_)
  refine sm_istore_n (i := 3) (L' := [(3, .inl v1), (2, .inl 0), (0, .inr (.inr x0)), (1, .inl x1)]) (pc' := 5) d_JA_fill_aII_4 rfl rfl (Nat.le_of_ble_eq_true rfl) rfl ?_
  refine sm_sub [1, 2, 3, 0] rfl ?_
  refine sm_bd (mid := fun (t3 : Unit) => .inl (20, [], [])) (sm_lp (hd := fun (t2 : Int32) => (.inl (5, [(2, .inl t2), (0, .inr (.inr x0)), (1, .inl x1), (3, .inl v1)], []) : mC)) (fun t2 => ?_) m_F 0) (fun t3 => ?_)
  · refine sm_iload_n (i := 2) (j := 0) (pc' := 6) d_JA_fill_aII_5 rfl rfl rfl (sm_iload_n (i := 3) (j := 3) (pc' := 7) d_JA_fill_aII_6 rfl rfl rfl ?_)
    refine sm_icmp_ge (tgt := 20) (pc' := 10) d_JA_fill_aII_7 rfl rfl ?_ ?_
    · refine sm_sub [] rfl ?_
      exact sm_rt rfl
    · refine sm_aload_n (i := 0) (j := 1) (pc' := 11) d_JA_fill_aII_10 rfl rfl rfl (sm_iload_n (i := 2) (j := 0) (pc' := 12) d_JA_fill_aII_11 rfl rfl rfl (sm_iload_n (i := 1) (j := 2) (pc' := 13) d_JA_fill_aII_12 rfl rfl rfl (sm_iast (pc' := 14) d_JA_fill_aII_13 rfl (sm_iinc (j := 0) (L' := [(2, .inl (t2 + 1)), (0, .inr (.inr x0)), (1, .inl x1), (3, .inl v1)]) (pc' := 17) d_JA_fill_aII_14 rfl (v := (t2 + 1)) rfl (ix_1 _) (Nat.le_of_ble_eq_true rfl) rfl (sm_goto (tgt := 5) d_JA_fill_aII_17 rfl (sm_sub [0, 1, 2, 3] rfl ?_))))))
      exact sm_rt rfl
  · exact sm_return d_JA_fill_aII_20 rfl rfl
theorem d_JI_bitCount_0 : m_D k_JI_bitCount 0 (.iload_n 0) 1 := (by decide +kernel : decode prog_15_method_49_code 0 = .ok (.iload_n 0, 1))
theorem d_JI_bitCount_1 : m_D k_JI_bitCount 1 (.iload_n 0) 1 := (by decide +kernel : decode prog_15_method_49_code 1 = .ok (.iload_n 0, 1))
theorem d_JI_bitCount_2 : m_D k_JI_bitCount 2 (.iconst 1) 1 := (by decide +kernel : decode prog_15_method_49_code 2 = .ok (.iconst 1, 1))
theorem d_JI_bitCount_3 : m_D k_JI_bitCount 3 (.iushr) 1 := (by decide +kernel : decode prog_15_method_49_code 3 = .ok (.iushr, 1))
theorem d_JI_bitCount_4 : m_D k_JI_bitCount 4 (.ldc_w 265) 3 := (by decide +kernel : decode prog_15_method_49_code 4 = .ok (.ldc_w 265, 3))
theorem d_JI_bitCount_7 : m_D k_JI_bitCount 7 (.iand) 1 := (by decide +kernel : decode prog_15_method_49_code 7 = .ok (.iand, 1))
theorem d_JI_bitCount_8 : m_D k_JI_bitCount 8 (.isub) 1 := (by decide +kernel : decode prog_15_method_49_code 8 = .ok (.isub, 1))
theorem d_JI_bitCount_9 : m_D k_JI_bitCount 9 (.istore_n 0) 1 := (by decide +kernel : decode prog_15_method_49_code 9 = .ok (.istore_n 0, 1))
theorem d_JI_bitCount_10 : m_D k_JI_bitCount 10 (.iload_n 0) 1 := (by decide +kernel : decode prog_15_method_49_code 10 = .ok (.iload_n 0, 1))
theorem d_JI_bitCount_11 : m_D k_JI_bitCount 11 (.ldc_w 266) 3 := (by decide +kernel : decode prog_15_method_49_code 11 = .ok (.ldc_w 266, 3))
theorem d_JI_bitCount_14 : m_D k_JI_bitCount 14 (.iand) 1 := (by decide +kernel : decode prog_15_method_49_code 14 = .ok (.iand, 1))
theorem d_JI_bitCount_15 : m_D k_JI_bitCount 15 (.iload_n 0) 1 := (by decide +kernel : decode prog_15_method_49_code 15 = .ok (.iload_n 0, 1))
theorem d_JI_bitCount_16 : m_D k_JI_bitCount 16 (.iconst 2) 1 := (by decide +kernel : decode prog_15_method_49_code 16 = .ok (.iconst 2, 1))
theorem d_JI_bitCount_17 : m_D k_JI_bitCount 17 (.iushr) 1 := (by decide +kernel : decode prog_15_method_49_code 17 = .ok (.iushr, 1))
theorem d_JI_bitCount_18 : m_D k_JI_bitCount 18 (.ldc_w 266) 3 := (by decide +kernel : decode prog_15_method_49_code 18 = .ok (.ldc_w 266, 3))
theorem d_JI_bitCount_21 : m_D k_JI_bitCount 21 (.iand) 1 := (by decide +kernel : decode prog_15_method_49_code 21 = .ok (.iand, 1))
theorem d_JI_bitCount_22 : m_D k_JI_bitCount 22 (.iadd) 1 := (by decide +kernel : decode prog_15_method_49_code 22 = .ok (.iadd, 1))
theorem d_JI_bitCount_23 : m_D k_JI_bitCount 23 (.istore_n 0) 1 := (by decide +kernel : decode prog_15_method_49_code 23 = .ok (.istore_n 0, 1))
theorem d_JI_bitCount_24 : m_D k_JI_bitCount 24 (.iload_n 0) 1 := (by decide +kernel : decode prog_15_method_49_code 24 = .ok (.iload_n 0, 1))
theorem d_JI_bitCount_25 : m_D k_JI_bitCount 25 (.iload_n 0) 1 := (by decide +kernel : decode prog_15_method_49_code 25 = .ok (.iload_n 0, 1))
theorem d_JI_bitCount_26 : m_D k_JI_bitCount 26 (.iconst 4) 1 := (by decide +kernel : decode prog_15_method_49_code 26 = .ok (.iconst 4, 1))
theorem d_JI_bitCount_27 : m_D k_JI_bitCount 27 (.iushr) 1 := (by decide +kernel : decode prog_15_method_49_code 27 = .ok (.iushr, 1))
theorem d_JI_bitCount_28 : m_D k_JI_bitCount 28 (.iadd) 1 := (by decide +kernel : decode prog_15_method_49_code 28 = .ok (.iadd, 1))
theorem d_JI_bitCount_29 : m_D k_JI_bitCount 29 (.ldc_w 267) 3 := (by decide +kernel : decode prog_15_method_49_code 29 = .ok (.ldc_w 267, 3))
theorem d_JI_bitCount_32 : m_D k_JI_bitCount 32 (.iand) 1 := (by decide +kernel : decode prog_15_method_49_code 32 = .ok (.iand, 1))
theorem d_JI_bitCount_33 : m_D k_JI_bitCount 33 (.istore_n 0) 1 := (by decide +kernel : decode prog_15_method_49_code 33 = .ok (.istore_n 0, 1))
theorem d_JI_bitCount_34 : m_D k_JI_bitCount 34 (.iload_n 0) 1 := (by decide +kernel : decode prog_15_method_49_code 34 = .ok (.iload_n 0, 1))
theorem d_JI_bitCount_35 : m_D k_JI_bitCount 35 (.iload_n 0) 1 := (by decide +kernel : decode prog_15_method_49_code 35 = .ok (.iload_n 0, 1))
theorem d_JI_bitCount_36 : m_D k_JI_bitCount 36 (.bipush 8) 2 := (by decide +kernel : decode prog_15_method_49_code 36 = .ok (.bipush 8, 2))
theorem d_JI_bitCount_38 : m_D k_JI_bitCount 38 (.iushr) 1 := (by decide +kernel : decode prog_15_method_49_code 38 = .ok (.iushr, 1))
theorem d_JI_bitCount_39 : m_D k_JI_bitCount 39 (.iadd) 1 := (by decide +kernel : decode prog_15_method_49_code 39 = .ok (.iadd, 1))
theorem d_JI_bitCount_40 : m_D k_JI_bitCount 40 (.istore_n 0) 1 := (by decide +kernel : decode prog_15_method_49_code 40 = .ok (.istore_n 0, 1))
theorem d_JI_bitCount_41 : m_D k_JI_bitCount 41 (.iload_n 0) 1 := (by decide +kernel : decode prog_15_method_49_code 41 = .ok (.iload_n 0, 1))
theorem d_JI_bitCount_42 : m_D k_JI_bitCount 42 (.iload_n 0) 1 := (by decide +kernel : decode prog_15_method_49_code 42 = .ok (.iload_n 0, 1))
theorem d_JI_bitCount_43 : m_D k_JI_bitCount 43 (.bipush 16) 2 := (by decide +kernel : decode prog_15_method_49_code 43 = .ok (.bipush 16, 2))
theorem d_JI_bitCount_45 : m_D k_JI_bitCount 45 (.iushr) 1 := (by decide +kernel : decode prog_15_method_49_code 45 = .ok (.iushr, 1))
theorem d_JI_bitCount_46 : m_D k_JI_bitCount 46 (.iadd) 1 := (by decide +kernel : decode prog_15_method_49_code 46 = .ok (.iadd, 1))
theorem d_JI_bitCount_47 : m_D k_JI_bitCount 47 (.istore_n 0) 1 := (by decide +kernel : decode prog_15_method_49_code 47 = .ok (.istore_n 0, 1))
theorem d_JI_bitCount_48 : m_D k_JI_bitCount 48 (.iload_n 0) 1 := (by decide +kernel : decode prog_15_method_49_code 48 = .ok (.iload_n 0, 1))
theorem d_JI_bitCount_49 : m_D k_JI_bitCount 49 (.bipush 63) 2 := (by decide +kernel : decode prog_15_method_49_code 49 = .ok (.bipush 63, 2))
theorem d_JI_bitCount_51 : m_D k_JI_bitCount 51 (.iand) 1 := (by decide +kernel : decode prog_15_method_49_code 51 = .ok (.iand, 1))
theorem d_JI_bitCount_52 : m_D k_JI_bitCount 52 (.ireturn) 1 := (by decide +kernel : decode prog_15_method_49_code 52 = .ok (.ireturn, 1))
def fn_JI_bitCount (x0 : Int32) : mP Int32 :=
  m_rt ((((((((x0 - ((iU x0 1) &&& 1431655765)) &&& 858993459) + ((iU (x0 - ((iU x0 1) &&& 1431655765)) 2) &&& 858993459)) + (iU (((x0 - ((iU x0 1) &&& 1431655765)) &&& 858993459) + ((iU (x0 - ((iU x0 1) &&& 1431655765)) 2) &&& 858993459)) 4)) &&& 252645135) + (iU (((((x0 - ((iU x0 1) &&& 1431655765)) &&& 858993459) + ((iU (x0 - ((iU x0 1) &&& 1431655765)) 2) &&& 858993459)) + (iU (((x0 - ((iU x0 1) &&& 1431655765)) &&& 858993459) + ((iU (x0 - ((iU x0 1) &&& 1431655765)) 2) &&& 858993459)) 4)) &&& 252645135) 8)) + (iU ((((((x0 - ((iU x0 1) &&& 1431655765)) &&& 858993459) + ((iU (x0 - ((iU x0 1) &&& 1431655765)) 2) &&& 858993459)) + (iU (((x0 - ((iU x0 1) &&& 1431655765)) &&& 858993459) + ((iU (x0 - ((iU x0 1) &&& 1431655765)) 2) &&& 858993459)) 4)) &&& 252645135) + (iU (((((x0 - ((iU x0 1) &&& 1431655765)) &&& 858993459) + ((iU (x0 - ((iU x0 1) &&& 1431655765)) 2) &&& 858993459)) + (iU (((x0 - ((iU x0 1) &&& 1431655765)) &&& 858993459) + ((iU (x0 - ((iU x0 1) &&& 1431655765)) 2) &&& 858993459)) 4)) &&& 252645135) 8)) 16)) &&& 63)
set_option maxHeartbeats 4000000 in
set_option maxRecDepth 100000 in
theorem sd_JI_bitCount (x0 : Int32) : m_Sm k_JI_bitCount 1 0 0 [.inl x0] (fn_JI_bitCount x0) (fun b => some (.inl b)) := by
  refine ⟨Nat.le_of_ble_eq_true rfl, ?_⟩
  refine sm_iload_n (i := 0) (j := 0) (pc' := 1) d_JI_bitCount_0 rfl rfl rfl (sm_iload_n (i := 0) (j := 0) (pc' := 2) d_JI_bitCount_1 rfl rfl rfl (sm_iconst (pc' := 3) d_JI_bitCount_2 rfl ic_1 (sm_iushr (v := iU x0 1) (pc' := 4) d_JI_bitCount_3 rfl rfl (sm_ldcw (v := 1431655765) (pc' := 7) d_JI_bitCount_4 rfl w_ci_JI_265 (sm_iand (pc' := 8) d_JI_bitCount_7 rfl (sm_isub (pc' := 9) d_JI_bitCount_8 rfl (sm_istore_n (i := 0) (L' := [(0, .inl (x0 - ((iU x0 1) &&& 1431655765)))]) (pc' := 10) d_JI_bitCount_9 rfl rfl (Nat.le_of_ble_eq_true rfl) rfl (sm_iload_n (i := 0) (j := 0) (pc' := 11) d_JI_bitCount_10 rfl rfl rfl (sm_ldcw (v := 858993459) (pc' := 14) d_JI_bitCount_11 rfl w_ci_JI_266 ?_)))))))))
  refine sm_iand (pc' := 15) d_JI_bitCount_14 rfl (sm_iload_n (i := 0) (j := 0) (pc' := 16) d_JI_bitCount_15 rfl rfl rfl (sm_iconst (pc' := 17) d_JI_bitCount_16 rfl ic_2 (sm_iushr (v := iU (x0 - ((iU x0 1) &&& 1431655765)) 2) (pc' := 18) d_JI_bitCount_17 rfl rfl (sm_ldcw (v := 858993459) (pc' := 21) d_JI_bitCount_18 rfl w_ci_JI_266 (sm_iand (pc' := 22) d_JI_bitCount_21 rfl (sm_iadd (pc' := 23) d_JI_bitCount_22 rfl (sm_istore_n (i := 0) (L' := [(0, .inl (((x0 - ((iU x0 1) &&& 1431655765)) &&& 858993459) + ((iU (x0 - ((iU x0 1) &&& 1431655765)) 2) &&& 858993459)))]) (pc' := 24) d_JI_bitCount_23 rfl rfl (Nat.le_of_ble_eq_true rfl) rfl (sm_iload_n (i := 0) (j := 0) (pc' := 25) d_JI_bitCount_24 rfl rfl rfl (sm_iload_n (i := 0) (j := 0) (pc' := 26) d_JI_bitCount_25 rfl rfl rfl ?_)))))))))
  refine sm_iconst (pc' := 27) d_JI_bitCount_26 rfl ic_4 (sm_iushr (v := iU (((x0 - ((iU x0 1) &&& 1431655765)) &&& 858993459) + ((iU (x0 - ((iU x0 1) &&& 1431655765)) 2) &&& 858993459)) 4) (pc' := 28) d_JI_bitCount_27 rfl rfl (sm_iadd (pc' := 29) d_JI_bitCount_28 rfl (sm_ldcw (v := 252645135) (pc' := 32) d_JI_bitCount_29 rfl w_ci_JI_267 (sm_iand (pc' := 33) d_JI_bitCount_32 rfl (sm_istore_n (i := 0) (L' := [(0, .inl (((((x0 - ((iU x0 1) &&& 1431655765)) &&& 858993459) + ((iU (x0 - ((iU x0 1) &&& 1431655765)) 2) &&& 858993459)) + (iU (((x0 - ((iU x0 1) &&& 1431655765)) &&& 858993459) + ((iU (x0 - ((iU x0 1) &&& 1431655765)) 2) &&& 858993459)) 4)) &&& 252645135))]) (pc' := 34) d_JI_bitCount_33 rfl rfl (Nat.le_of_ble_eq_true rfl) rfl (sm_iload_n (i := 0) (j := 0) (pc' := 35) d_JI_bitCount_34 rfl rfl rfl (sm_iload_n (i := 0) (j := 0) (pc' := 36) d_JI_bitCount_35 rfl rfl rfl (sm_bipush (pc' := 38) d_JI_bitCount_36 rfl ib_8 (sm_iushr (v := iU (((((x0 - ((iU x0 1) &&& 1431655765)) &&& 858993459) + ((iU (x0 - ((iU x0 1) &&& 1431655765)) 2) &&& 858993459)) + (iU (((x0 - ((iU x0 1) &&& 1431655765)) &&& 858993459) + ((iU (x0 - ((iU x0 1) &&& 1431655765)) 2) &&& 858993459)) 4)) &&& 252645135) 8) (pc' := 39) d_JI_bitCount_38 rfl rfl ?_)))))))))
  refine sm_iadd (pc' := 40) d_JI_bitCount_39 rfl (sm_istore_n (i := 0) (L' := [(0, .inl ((((((x0 - ((iU x0 1) &&& 1431655765)) &&& 858993459) + ((iU (x0 - ((iU x0 1) &&& 1431655765)) 2) &&& 858993459)) + (iU (((x0 - ((iU x0 1) &&& 1431655765)) &&& 858993459) + ((iU (x0 - ((iU x0 1) &&& 1431655765)) 2) &&& 858993459)) 4)) &&& 252645135) + (iU (((((x0 - ((iU x0 1) &&& 1431655765)) &&& 858993459) + ((iU (x0 - ((iU x0 1) &&& 1431655765)) 2) &&& 858993459)) + (iU (((x0 - ((iU x0 1) &&& 1431655765)) &&& 858993459) + ((iU (x0 - ((iU x0 1) &&& 1431655765)) 2) &&& 858993459)) 4)) &&& 252645135) 8)))]) (pc' := 41) d_JI_bitCount_40 rfl rfl (Nat.le_of_ble_eq_true rfl) rfl (sm_iload_n (i := 0) (j := 0) (pc' := 42) d_JI_bitCount_41 rfl rfl rfl (sm_iload_n (i := 0) (j := 0) (pc' := 43) d_JI_bitCount_42 rfl rfl rfl (sm_bipush (pc' := 45) d_JI_bitCount_43 rfl ib_16 (sm_iushr (v := iU ((((((x0 - ((iU x0 1) &&& 1431655765)) &&& 858993459) + ((iU (x0 - ((iU x0 1) &&& 1431655765)) 2) &&& 858993459)) + (iU (((x0 - ((iU x0 1) &&& 1431655765)) &&& 858993459) + ((iU (x0 - ((iU x0 1) &&& 1431655765)) 2) &&& 858993459)) 4)) &&& 252645135) + (iU (((((x0 - ((iU x0 1) &&& 1431655765)) &&& 858993459) + ((iU (x0 - ((iU x0 1) &&& 1431655765)) 2) &&& 858993459)) + (iU (((x0 - ((iU x0 1) &&& 1431655765)) &&& 858993459) + ((iU (x0 - ((iU x0 1) &&& 1431655765)) 2) &&& 858993459)) 4)) &&& 252645135) 8)) 16) (pc' := 46) d_JI_bitCount_45 rfl rfl (sm_iadd (pc' := 47) d_JI_bitCount_46 rfl (sm_istore_n (i := 0) (L' := [(0, .inl (((((((x0 - ((iU x0 1) &&& 1431655765)) &&& 858993459) + ((iU (x0 - ((iU x0 1) &&& 1431655765)) 2) &&& 858993459)) + (iU (((x0 - ((iU x0 1) &&& 1431655765)) &&& 858993459) + ((iU (x0 - ((iU x0 1) &&& 1431655765)) 2) &&& 858993459)) 4)) &&& 252645135) + (iU (((((x0 - ((iU x0 1) &&& 1431655765)) &&& 858993459) + ((iU (x0 - ((iU x0 1) &&& 1431655765)) 2) &&& 858993459)) + (iU (((x0 - ((iU x0 1) &&& 1431655765)) &&& 858993459) + ((iU (x0 - ((iU x0 1) &&& 1431655765)) 2) &&& 858993459)) 4)) &&& 252645135) 8)) + (iU ((((((x0 - ((iU x0 1) &&& 1431655765)) &&& 858993459) + ((iU (x0 - ((iU x0 1) &&& 1431655765)) 2) &&& 858993459)) + (iU (((x0 - ((iU x0 1) &&& 1431655765)) &&& 858993459) + ((iU (x0 - ((iU x0 1) &&& 1431655765)) 2) &&& 858993459)) 4)) &&& 252645135) + (iU (((((x0 - ((iU x0 1) &&& 1431655765)) &&& 858993459) + ((iU (x0 - ((iU x0 1) &&& 1431655765)) 2) &&& 858993459)) + (iU (((x0 - ((iU x0 1) &&& 1431655765)) &&& 858993459) + ((iU (x0 - ((iU x0 1) &&& 1431655765)) 2) &&& 858993459)) 4)) &&& 252645135) 8)) 16)))]) (pc' := 48) d_JI_bitCount_47 rfl rfl (Nat.le_of_ble_eq_true rfl) rfl (sm_iload_n (i := 0) (j := 0) (pc' := 49) d_JI_bitCount_48 rfl rfl rfl (sm_bipush (pc' := 51) d_JI_bitCount_49 rfl ib_63 ?_)))))))))
  refine sm_iand (pc' := 52) d_JI_bitCount_51 rfl ?_
  exact sm_ireturn d_JI_bitCount_52 rfl rfl
