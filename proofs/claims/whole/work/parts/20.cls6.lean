/-! 20.cls6, laid by wip/whole/gen.py -/
theorem d_C_keepingStatus_0 : m_D k_C_keepingStatus 0 (.aload_n 0) 1 := (by decide +kernel : decode prog_1_method_59_code 0 = .ok (.aload_n 0, 1))
theorem d_C_keepingStatus_1 : m_D k_C_keepingStatus 1 (.getfield 37) 3 := (by decide +kernel : decode prog_1_method_59_code 1 = .ok (.getfield 37, 3))
theorem d_C_keepingStatus_4 : m_D k_C_keepingStatus 4 (.getfield 156) 3 := (by decide +kernel : decode prog_1_method_59_code 4 = .ok (.getfield 156, 3))
theorem d_C_keepingStatus_7 : m_D k_C_keepingStatus 7 (.aload_n 0) 1 := (by decide +kernel : decode prog_1_method_59_code 7 = .ok (.aload_n 0, 1))
theorem d_C_keepingStatus_8 : m_D k_C_keepingStatus 8 (.getfield 37) 3 := (by decide +kernel : decode prog_1_method_59_code 8 = .ok (.getfield 37, 3))
theorem d_C_keepingStatus_11 : m_D k_C_keepingStatus 11 (.invokevirtual 200) 3 := (by decide +kernel : decode prog_1_method_59_code 11 = .ok (.invokevirtual 200, 3))
theorem d_C_keepingStatus_14 : m_D k_C_keepingStatus 14 (.invokestatic 374) 3 := (by decide +kernel : decode prog_1_method_59_code 14 = .ok (.invokestatic 374, 3))
theorem d_C_keepingStatus_17 : m_D k_C_keepingStatus 17 (.isub) 1 := (by decide +kernel : decode prog_1_method_59_code 17 = .ok (.isub, 1))
theorem d_C_keepingStatus_18 : m_D k_C_keepingStatus 18 (.istore_n 2) 1 := (by decide +kernel : decode prog_1_method_59_code 18 = .ok (.istore_n 2, 1))
theorem d_C_keepingStatus_19 : m_D k_C_keepingStatus 19 (.iload_n 1) 1 := (by decide +kernel : decode prog_1_method_59_code 19 = .ok (.iload_n 1, 1))
theorem d_C_keepingStatus_20 : m_D k_C_keepingStatus 20 (.invokestatic 374) 3 := (by decide +kernel : decode prog_1_method_59_code 20 = .ok (.invokestatic 374, 3))
theorem d_C_keepingStatus_23 : m_D k_C_keepingStatus 23 (.iload_n 2) 1 := (by decide +kernel : decode prog_1_method_59_code 23 = .ok (.iload_n 2, 1))
theorem d_C_keepingStatus_24 : m_D k_C_keepingStatus 24 (.if_icmp .le 8) 3 := (by decide +kernel : decode prog_1_method_59_code 24 = .ok (.if_icmp .le 8, 3))
theorem d_C_keepingStatus_27 : m_D k_C_keepingStatus 27 (.bipush 8) 2 := (by decide +kernel : decode prog_1_method_59_code 27 = .ok (.bipush 8, 2))
theorem d_C_keepingStatus_29 : m_D k_C_keepingStatus 29 (.goto 4) 3 := (by decide +kernel : decode prog_1_method_59_code 29 = .ok (.goto 4, 3))
theorem d_C_keepingStatus_32 : m_D k_C_keepingStatus 32 (.iconst 0) 1 := (by decide +kernel : decode prog_1_method_59_code 32 = .ok (.iconst 0, 1))
theorem d_C_keepingStatus_33 : m_D k_C_keepingStatus 33 (.ireturn) 1 := (by decide +kernel : decode prog_1_method_59_code 33 = .ok (.ireturn, 1))
def fn_C_keepingStatus (x0 : Option mA) (x1 : Int32) : mP Int32 :=
  m_th 0 x0 <|
  m_bd (m_gR 0 5 x0) fun v1 =>
  m_bd (m_gI 3 1 v1) fun v2 =>
  m_bd (m_gR 0 5 x0) fun v3 =>
  m_bd (fn_Fa_throughSet v3) fun v4 =>
  m_bd (fn_JI_bitCount v4) fun v5 =>
  m_bd (fn_JI_bitCount x1) fun v6 =>
  if v6 ≤ (v2 - v5) then
    m_rt 0
  else
    m_rt 8
set_option maxHeartbeats 4000000 in
set_option maxRecDepth 100000 in
theorem sd_C_keepingStatus (x0 : Option mA) (x1 : Int32) : m_Sm k_C_keepingStatus 3 0 0 [.inr (.inr x0), .inl x1] (fn_C_keepingStatus x0 x1) (fun b => some (.inl b)) := by
  refine ⟨Nat.le_of_ble_eq_true rfl, ?_⟩
  refine sm_th ?_
  refine sm_aload_n (i := 0) (j := 0) (pc' := 1) d_C_keepingStatus_0 rfl rfl rfl ?_
  refine sm_getR (pc' := 4) d_C_keepingStatus_1 rfl fl_C_37 rfl rfl (fun v1 => ?_)
  refine sm_getI (pc' := 7) d_C_keepingStatus_4 rfl fl_C_156 rfl ⟨by decide, by decide⟩ (fun v2 => ?_)
  refine sm_aload_n (i := 0) (j := 0) (pc' := 8) d_C_keepingStatus_7 rfl rfl rfl ?_
  refine sm_getR (pc' := 11) d_C_keepingStatus_8 rfl fl_C_37 rfl rfl (fun v3 => ?_)
  refine sm_callVi (ci := 3) (x := v3) (av := []) (st := [.inl v2]) (mc := 0) (ms := 0) (pc' := 14) d_C_keepingStatus_11 rfl (sd_Fa_throughSet v3) m_lv rfl cv_Fa_throughSet w_ml_C_200 rfl rfl (by decide) (Nat.le_of_ble_eq_true rfl) rfl rfl (fun v4 => ?_)
  refine sm_callSi (av := [.inl v4]) (st := [.inl v2]) (mc := 0) (ms := 0) (pc' := 17) d_C_keepingStatus_14 rfl (sd_JI_bitCount v4) cs_JI_bitCount w_ml_C_374 rfl rfl (by decide) (Nat.le_of_ble_eq_true rfl) rfl rfl (fun v5 => ?_)
  refine sm_isub (pc' := 18) d_C_keepingStatus_17 rfl (sm_istore_n (i := 2) (L' := [(2, .inl (v2 - v5)), (0, .inr (.inr x0)), (1, .inl x1)]) (pc' := 19) d_C_keepingStatus_18 rfl rfl (Nat.le_of_ble_eq_true rfl) rfl (sm_iload_n (i := 1) (j := 2) (pc' := 20) d_C_keepingStatus_19 rfl rfl rfl ?_))
  refine sm_callSi (av := [.inl x1]) (st := []) (mc := 0) (ms := 0) (pc' := 23) d_C_keepingStatus_20 rfl (sd_JI_bitCount x1) cs_JI_bitCount w_ml_C_374 rfl rfl (by decide) (Nat.le_of_ble_eq_true rfl) rfl rfl (fun v6 => ?_)
  refine sm_iload_n (i := 2) (j := 0) (pc' := 24) d_C_keepingStatus_23 rfl rfl rfl ?_
  refine sm_icmp_le (tgt := 32) (pc' := 27) d_C_keepingStatus_24 rfl rfl ?_ ?_
  · refine sm_iconst (pc' := 33) d_C_keepingStatus_32 rfl ic_0 ?_
    exact sm_ireturn d_C_keepingStatus_33 rfl rfl
  · refine sm_bipush (pc' := 29) d_C_keepingStatus_27 rfl ib_8 (sm_goto (tgt := 33) d_C_keepingStatus_29 rfl ?_)
    exact sm_ireturn d_C_keepingStatus_33 rfl rfl
theorem d_Ke_gather_0 : m_D k_Ke_gather 0 (.aload_n 0) 1 := (by decide +kernel : decode prog_5_method_2_code 0 = .ok (.aload_n 0, 1))
theorem d_Ke_gather_1 : m_D k_Ke_gather 1 (.iconst 0) 1 := (by decide +kernel : decode prog_5_method_2_code 1 = .ok (.iconst 0, 1))
theorem d_Ke_gather_2 : m_D k_Ke_gather 2 (.putfield 27) 3 := (by decide +kernel : decode prog_5_method_2_code 2 = .ok (.putfield 27, 3))
theorem d_Ke_gather_5 : m_D k_Ke_gather 5 (.iconst 0) 1 := (by decide +kernel : decode prog_5_method_2_code 5 = .ok (.iconst 0, 1))
theorem d_Ke_gather_6 : m_D k_Ke_gather 6 (.istore_n 3) 1 := (by decide +kernel : decode prog_5_method_2_code 6 = .ok (.istore_n 3, 1))
theorem d_Ke_gather_7 : m_D k_Ke_gather 7 (.iload_n 3) 1 := (by decide +kernel : decode prog_5_method_2_code 7 = .ok (.iload_n 3, 1))
theorem d_Ke_gather_8 : m_D k_Ke_gather 8 (.aload_n 1) 1 := (by decide +kernel : decode prog_5_method_2_code 8 = .ok (.aload_n 1, 1))
theorem d_Ke_gather_9 : m_D k_Ke_gather 9 (.getfield 31) 3 := (by decide +kernel : decode prog_5_method_2_code 9 = .ok (.getfield 31, 3))
theorem d_Ke_gather_12 : m_D k_Ke_gather 12 (.if_icmp .ge 37) 3 := (by decide +kernel : decode prog_5_method_2_code 12 = .ok (.if_icmp .ge 37, 3))
theorem d_Ke_gather_15 : m_D k_Ke_gather 15 (.iload_n 2) 1 := (by decide +kernel : decode prog_5_method_2_code 15 = .ok (.iload_n 2, 1))
theorem d_Ke_gather_16 : m_D k_Ke_gather 16 (.iload_n 3) 1 := (by decide +kernel : decode prog_5_method_2_code 16 = .ok (.iload_n 3, 1))
theorem d_Ke_gather_17 : m_D k_Ke_gather 17 (.ishr) 1 := (by decide +kernel : decode prog_5_method_2_code 17 = .ok (.ishr, 1))
theorem d_Ke_gather_18 : m_D k_Ke_gather 18 (.iconst 1) 1 := (by decide +kernel : decode prog_5_method_2_code 18 = .ok (.iconst 1, 1))
theorem d_Ke_gather_19 : m_D k_Ke_gather 19 (.iand) 1 := (by decide +kernel : decode prog_5_method_2_code 19 = .ok (.iand, 1))
theorem d_Ke_gather_20 : m_D k_Ke_gather 20 (.ifCond .eq 23) 3 := (by decide +kernel : decode prog_5_method_2_code 20 = .ok (.ifCond .eq 23, 3))
theorem d_Ke_gather_23 : m_D k_Ke_gather 23 (.aload_n 0) 1 := (by decide +kernel : decode prog_5_method_2_code 23 = .ok (.aload_n 0, 1))
theorem d_Ke_gather_24 : m_D k_Ke_gather 24 (.getfield 21) 3 := (by decide +kernel : decode prog_5_method_2_code 24 = .ok (.getfield 21, 3))
theorem d_Ke_gather_27 : m_D k_Ke_gather 27 (.aload_n 0) 1 := (by decide +kernel : decode prog_5_method_2_code 27 = .ok (.aload_n 0, 1))
theorem d_Ke_gather_28 : m_D k_Ke_gather 28 (.getfield 27) 3 := (by decide +kernel : decode prog_5_method_2_code 28 = .ok (.getfield 27, 3))
theorem d_Ke_gather_31 : m_D k_Ke_gather 31 (.iload_n 3) 1 := (by decide +kernel : decode prog_5_method_2_code 31 = .ok (.iload_n 3, 1))
theorem d_Ke_gather_32 : m_D k_Ke_gather 32 (.iastore) 1 := (by decide +kernel : decode prog_5_method_2_code 32 = .ok (.iastore, 1))
theorem d_Ke_gather_33 : m_D k_Ke_gather 33 (.aload_n 0) 1 := (by decide +kernel : decode prog_5_method_2_code 33 = .ok (.aload_n 0, 1))
theorem d_Ke_gather_34 : m_D k_Ke_gather 34 (.dup) 1 := (by decide +kernel : decode prog_5_method_2_code 34 = .ok (.dup, 1))
theorem d_Ke_gather_35 : m_D k_Ke_gather 35 (.getfield 27) 3 := (by decide +kernel : decode prog_5_method_2_code 35 = .ok (.getfield 27, 3))
theorem d_Ke_gather_38 : m_D k_Ke_gather 38 (.iconst 1) 1 := (by decide +kernel : decode prog_5_method_2_code 38 = .ok (.iconst 1, 1))
theorem d_Ke_gather_39 : m_D k_Ke_gather 39 (.iadd) 1 := (by decide +kernel : decode prog_5_method_2_code 39 = .ok (.iadd, 1))
theorem d_Ke_gather_40 : m_D k_Ke_gather 40 (.putfield 27) 3 := (by decide +kernel : decode prog_5_method_2_code 40 = .ok (.putfield 27, 3))
theorem d_Ke_gather_43 : m_D k_Ke_gather 43 (.iinc 3 1) 3 := (by decide +kernel : decode prog_5_method_2_code 43 = .ok (.iinc 3 1, 3))
theorem d_Ke_gather_46 : m_D k_Ke_gather 46 (.goto (-39)) 3 := (by decide +kernel : decode prog_5_method_2_code 46 = .ok (.goto (-39), 3))
theorem d_Ke_gather_49 : m_D k_Ke_gather 49 (.aload_n 0) 1 := (by decide +kernel : decode prog_5_method_2_code 49 = .ok (.aload_n 0, 1))
theorem d_Ke_gather_50 : m_D k_Ke_gather 50 (.getfield 9) 3 := (by decide +kernel : decode prog_5_method_2_code 50 = .ok (.getfield 9, 3))
theorem d_Ke_gather_53 : m_D k_Ke_gather 53 (.iconst (-1)) 1 := (by decide +kernel : decode prog_5_method_2_code 53 = .ok (.iconst (-1), 1))
theorem d_Ke_gather_54 : m_D k_Ke_gather 54 (.invokestatic 36) 3 := (by decide +kernel : decode prog_5_method_2_code 54 = .ok (.invokestatic 36, 3))
theorem d_Ke_gather_57 : m_D k_Ke_gather 57 (.aload_n 0) 1 := (by decide +kernel : decode prog_5_method_2_code 57 = .ok (.aload_n 0, 1))
theorem d_Ke_gather_58 : m_D k_Ke_gather 58 (.getfield 15) 3 := (by decide +kernel : decode prog_5_method_2_code 58 = .ok (.getfield 15, 3))
theorem d_Ke_gather_61 : m_D k_Ke_gather 61 (.iconst (-1)) 1 := (by decide +kernel : decode prog_5_method_2_code 61 = .ok (.iconst (-1), 1))
theorem d_Ke_gather_62 : m_D k_Ke_gather 62 (.invokestatic 36) 3 := (by decide +kernel : decode prog_5_method_2_code 62 = .ok (.invokestatic 36, 3))
theorem d_Ke_gather_65 : m_D k_Ke_gather 65 (.aload_n 0) 1 := (by decide +kernel : decode prog_5_method_2_code 65 = .ok (.aload_n 0, 1))
theorem d_Ke_gather_66 : m_D k_Ke_gather 66 (.getfield 18) 3 := (by decide +kernel : decode prog_5_method_2_code 66 = .ok (.getfield 18, 3))
theorem d_Ke_gather_69 : m_D k_Ke_gather 69 (.iconst 0) 1 := (by decide +kernel : decode prog_5_method_2_code 69 = .ok (.iconst 0, 1))
theorem d_Ke_gather_70 : m_D k_Ke_gather 70 (.invokestatic 36) 3 := (by decide +kernel : decode prog_5_method_2_code 70 = .ok (.invokestatic 36, 3))
theorem d_Ke_gather_73 : m_D k_Ke_gather 73 (.return_) 1 := (by decide +kernel : decode prog_5_method_2_code 73 = .ok (.return_, 1))
def fn_Ke_gather_l7 (x0 : Option mA) (x1 : Option mA) (x2 : Int32) (t1 : Int32) : mP ((Int32) ⊕ (Unit)) :=
  m_bd (m_gI 3 0 x1) fun v2 =>
  if v2 ≤ t1 then
    m_rt (.inr ())
  else
    m_bd (α := Unit) (
      if ((x2 >>> (t1 &&& 31)) &&& 1) = 0 then
        m_rt ()
      else
        m_bd (m_gR 9 3 x0) fun v3 =>
        m_bd (m_gI 9 4 x0) fun v4 =>
        m_bd (m_tI 0 v3 v4 t1) fun _ =>
        m_bd (m_gI 9 4 x0) fun v5 =>
        m_bd (m_pI 9 4 x0 (v5 + 1)) fun _ =>
        m_rt ()
      ) fun (t6 : Unit) =>
    m_rt (.inl (t1 + 1))
def fn_Ke_gather (x0 : Option mA) (x1 : Option mA) (x2 : Int32) : mP Unit :=
  m_th 9 x0 <|
  m_bd (m_pI 9 4 x0 0) fun _ =>
  m_bd (m_lp (fn_Ke_gather_l7 x0 x1 x2) m_F 0) fun (t7 : Unit) =>
  m_bd (m_gR 9 0 x0) fun v8 =>
  m_bd (fn_JA_fill_aII v8 (-1)) fun _ =>
  m_bd (m_gR 9 1 x0) fun v9 =>
  m_bd (fn_JA_fill_aII v9 (-1)) fun _ =>
  m_bd (m_gR 9 2 x0) fun v10 =>
  m_bd (fn_JA_fill_aII v10 0) fun _ =>
  m_rt ()
set_option maxHeartbeats 4000000 in
set_option maxRecDepth 100000 in
theorem sd_Ke_gather (x0 : Option mA) (x1 : Option mA) (x2 : Int32) : m_Sm k_Ke_gather 2 0 0 [.inr (.inr x0), .inr (.inr x1), .inl x2] (fn_Ke_gather x0 x1 x2) (fun _ => none) := by
  refine ⟨Nat.le_of_ble_eq_true rfl, ?_⟩
  refine sm_th ?_
  refine sm_aload_n (i := 0) (j := 0) (pc' := 1) d_Ke_gather_0 rfl rfl rfl (sm_iconst (pc' := 2) d_Ke_gather_1 rfl ic_0 (sm_putI (pc' := 5) d_Ke_gather_2 rfl fl_Ke_27 (Or.inl rfl) rfl (sm_iconst (pc' := 6) d_Ke_gather_5 rfl ic_0 (sm_istore_n (i := 3) (L' := [(3, .inl 0), (0, .inr (.inr x0)), (1, .inr (.inr x1)), (2, .inl x2)]) (pc' := 7) d_Ke_gather_6 rfl rfl (Nat.le_of_ble_eq_true rfl) rfl ?_))))
  refine sm_sub [0, 1, 2, 3] rfl ?_
  refine sm_bd (mid := fun (t7 : Unit) => .inl (49, [(0, .inr (.inr x0))], [])) (sm_lp (hd := fun (t1 : Int32) => (.inl (7, [(3, .inl t1), (0, .inr (.inr x0)), (1, .inr (.inr x1)), (2, .inl x2)], []) : mC)) (fun t1 => ?_) m_F 0) (fun t7 => ?_)
  · refine sm_iload_n (i := 3) (j := 0) (pc' := 8) d_Ke_gather_7 rfl rfl rfl (sm_aload_n (i := 1) (j := 2) (pc' := 9) d_Ke_gather_8 rfl rfl rfl ?_)
    refine sm_getI (pc' := 12) d_Ke_gather_9 rfl fl_Ke_31 rfl ⟨by decide, by decide⟩ (fun v2 => ?_)
    refine sm_icmp_ge (tgt := 49) (pc' := 15) d_Ke_gather_12 rfl rfl ?_ ?_
    · refine sm_sub [1] rfl ?_
      exact sm_rt rfl
    · refine sm_iload_n (i := 2) (j := 3) (pc' := 16) d_Ke_gather_15 rfl rfl rfl (sm_iload_n (i := 3) (j := 0) (pc' := 17) d_Ke_gather_16 rfl rfl rfl (sm_ishr (pc' := 18) d_Ke_gather_17 rfl (sm_iconst (pc' := 19) d_Ke_gather_18 rfl ic_1 (sm_iand (pc' := 20) d_Ke_gather_19 rfl ?_))))
      refine sm_bd (mid := fun (t6 : Unit) => .inl (43, [(0, .inr (.inr x0)), (1, .inr (.inr x1)), (2, .inl x2), (3, .inl t1)], [])) ?_ (fun t6 => ?_)
      · refine sm_if_eq (tgt := 43) (pc' := 23) d_Ke_gather_20 rfl rfl ?_ ?_
        · refine sm_sub [1, 2, 3, 0] rfl ?_
          exact sm_rt rfl
        · refine sm_aload_n (i := 0) (j := 1) (pc' := 24) d_Ke_gather_23 rfl rfl rfl ?_
          refine sm_getR (pc' := 27) d_Ke_gather_24 rfl fl_Ke_21 rfl rfl (fun v3 => ?_)
          refine sm_aload_n (i := 0) (j := 1) (pc' := 28) d_Ke_gather_27 rfl rfl rfl ?_
          refine sm_getI (pc' := 31) d_Ke_gather_28 rfl fl_Ke_27 rfl ⟨by decide, by decide⟩ (fun v4 => ?_)
          refine sm_iload_n (i := 3) (j := 0) (pc' := 32) d_Ke_gather_31 rfl rfl rfl (sm_iast (pc' := 33) d_Ke_gather_32 rfl (sm_aload_n (i := 0) (j := 1) (pc' := 34) d_Ke_gather_33 rfl rfl rfl (sm_dup (pc' := 35) d_Ke_gather_34 rfl rfl ?_)))
          refine sm_getI (pc' := 38) d_Ke_gather_35 rfl fl_Ke_27 rfl ⟨by decide, by decide⟩ (fun v5 => ?_)
          refine sm_iconst (pc' := 39) d_Ke_gather_38 rfl ic_1 (sm_iadd (pc' := 40) d_Ke_gather_39 rfl (sm_putI (pc' := 43) d_Ke_gather_40 rfl fl_Ke_27 (Or.inl rfl) rfl (sm_sub [1, 2, 3, 0] rfl ?_)))
          exact sm_rt rfl
      · refine sm_iinc (j := 3) (L' := [(3, .inl (t1 + 1)), (0, .inr (.inr x0)), (1, .inr (.inr x1)), (2, .inl x2)]) (pc' := 46) d_Ke_gather_43 rfl (v := (t1 + 1)) rfl (ix_1 _) (Nat.le_of_ble_eq_true rfl) rfl (sm_goto (tgt := 7) d_Ke_gather_46 rfl (sm_sub [0, 1, 2, 3] rfl ?_))
        exact sm_rt rfl
  · refine sm_aload_n (i := 0) (j := 0) (pc' := 50) d_Ke_gather_49 rfl rfl rfl ?_
    refine sm_getR (pc' := 53) d_Ke_gather_50 rfl fl_Ke_9 rfl rfl (fun v8 => ?_)
    refine sm_iconst (pc' := 54) d_Ke_gather_53 rfl ic_m1 ?_
    refine sm_callSv (av := [.inr (.inr v8), .inl (-1)]) (st := []) (mc := 0) (ms := 0) (pc' := 57) d_Ke_gather_54 rfl (sd_JA_fill_aII v8 (-1)) cs_JA_fill_aII w_ml_Ke_36 rfl rfl (by decide) (Nat.le_of_ble_eq_true rfl) rfl rfl ?_
    refine sm_aload_n (i := 0) (j := 0) (pc' := 58) d_Ke_gather_57 rfl rfl rfl ?_
    refine sm_getR (pc' := 61) d_Ke_gather_58 rfl fl_Ke_15 rfl rfl (fun v9 => ?_)
    refine sm_iconst (pc' := 62) d_Ke_gather_61 rfl ic_m1 ?_
    refine sm_callSv (av := [.inr (.inr v9), .inl (-1)]) (st := []) (mc := 0) (ms := 0) (pc' := 65) d_Ke_gather_62 rfl (sd_JA_fill_aII v9 (-1)) cs_JA_fill_aII w_ml_Ke_36 rfl rfl (by decide) (Nat.le_of_ble_eq_true rfl) rfl rfl ?_
    refine sm_aload_n (i := 0) (j := 0) (pc' := 66) d_Ke_gather_65 rfl rfl rfl ?_
    refine sm_getR (pc' := 69) d_Ke_gather_66 rfl fl_Ke_18 rfl rfl (fun v10 => ?_)
    refine sm_iconst (pc' := 70) d_Ke_gather_69 rfl ic_0 ?_
    refine sm_callSv (av := [.inr (.inr v10), .inl 0]) (st := []) (mc := 0) (ms := 0) (pc' := 73) d_Ke_gather_70 rfl (sd_JA_fill_aII v10 0) cs_JA_fill_aII w_ml_Ke_36 rfl rfl (by decide) (Nat.le_of_ble_eq_true rfl) rfl rfl ?_
    exact sm_return d_Ke_gather_73 rfl rfl
theorem d_Ke_isFree_0 : m_D k_Ke_isFree 0 (.iload_n 2) 1 := (by decide +kernel : decode prog_5_method_5_code 0 = .ok (.iload_n 2, 1))
theorem d_Ke_isFree_1 : m_D k_Ke_isFree 1 (.iload_n 1) 1 := (by decide +kernel : decode prog_5_method_5_code 1 = .ok (.iload_n 1, 1))
theorem d_Ke_isFree_2 : m_D k_Ke_isFree 2 (.ishr) 1 := (by decide +kernel : decode prog_5_method_5_code 2 = .ok (.ishr, 1))
theorem d_Ke_isFree_3 : m_D k_Ke_isFree 3 (.iconst 1) 1 := (by decide +kernel : decode prog_5_method_5_code 3 = .ok (.iconst 1, 1))
theorem d_Ke_isFree_4 : m_D k_Ke_isFree 4 (.iand) 1 := (by decide +kernel : decode prog_5_method_5_code 4 = .ok (.iand, 1))
theorem d_Ke_isFree_5 : m_D k_Ke_isFree 5 (.ifCond .ne 19) 3 := (by decide +kernel : decode prog_5_method_5_code 5 = .ok (.ifCond .ne 19, 3))
theorem d_Ke_isFree_8 : m_D k_Ke_isFree 8 (.aload_n 0) 1 := (by decide +kernel : decode prog_5_method_5_code 8 = .ok (.aload_n 0, 1))
theorem d_Ke_isFree_9 : m_D k_Ke_isFree 9 (.getfield 74) 3 := (by decide +kernel : decode prog_5_method_5_code 9 = .ok (.getfield 74, 3))
theorem d_Ke_isFree_12 : m_D k_Ke_isFree 12 (.iload_n 1) 1 := (by decide +kernel : decode prog_5_method_5_code 12 = .ok (.iload_n 1, 1))
theorem d_Ke_isFree_13 : m_D k_Ke_isFree 13 (.aaload) 1 := (by decide +kernel : decode prog_5_method_5_code 13 = .ok (.aaload, 1))
theorem d_Ke_isFree_14 : m_D k_Ke_isFree 14 (.invokevirtual 78) 3 := (by decide +kernel : decode prog_5_method_5_code 14 = .ok (.invokevirtual 78, 3))
theorem d_Ke_isFree_17 : m_D k_Ke_isFree 17 (.ifCond .ne 7) 3 := (by decide +kernel : decode prog_5_method_5_code 17 = .ok (.ifCond .ne 7, 3))
theorem d_Ke_isFree_20 : m_D k_Ke_isFree 20 (.iconst 1) 1 := (by decide +kernel : decode prog_5_method_5_code 20 = .ok (.iconst 1, 1))
theorem d_Ke_isFree_21 : m_D k_Ke_isFree 21 (.goto 4) 3 := (by decide +kernel : decode prog_5_method_5_code 21 = .ok (.goto 4, 3))
theorem d_Ke_isFree_24 : m_D k_Ke_isFree 24 (.iconst 0) 1 := (by decide +kernel : decode prog_5_method_5_code 24 = .ok (.iconst 0, 1))
theorem d_Ke_isFree_25 : m_D k_Ke_isFree 25 (.ireturn) 1 := (by decide +kernel : decode prog_5_method_5_code 25 = .ok (.ireturn, 1))
def fn_Ke_isFree (x0 : Option mA) (x1 : Int32) (x2 : Int32) : mP Int32 :=
  if ((x2 >>> (x1 &&& 31)) &&& 1) = 0 then
    m_bd (m_gR 3 8 x0) fun v1 =>
    m_bd (m_aR 7 v1 x1) fun v2 =>
    m_bd (fn_Th_isThrough v2) fun v3 =>
    if v3 = 0 then
      m_rt 1
    else
      m_rt 0
  else
    m_rt 0
set_option maxHeartbeats 4000000 in
set_option maxRecDepth 100000 in
theorem sd_Ke_isFree (x0 : Option mA) (x1 : Int32) (x2 : Int32) : m_Sm k_Ke_isFree 2 0 0 [.inr (.inr x0), .inl x1, .inl x2] (fn_Ke_isFree x0 x1 x2) (fun b => some (.inl b)) := by
  refine ⟨Nat.le_of_ble_eq_true rfl, ?_⟩
  refine sm_iload_n (i := 2) (j := 2) (pc' := 1) d_Ke_isFree_0 rfl rfl rfl (sm_iload_n (i := 1) (j := 1) (pc' := 2) d_Ke_isFree_1 rfl rfl rfl (sm_ishr (pc' := 3) d_Ke_isFree_2 rfl (sm_iconst (pc' := 4) d_Ke_isFree_3 rfl ic_1 (sm_iand (pc' := 5) d_Ke_isFree_4 rfl ?_))))
  refine sm_if_ne (tgt := 24) (pc' := 8) d_Ke_isFree_5 rfl rfl ?_ ?_
  · refine sm_iconst (pc' := 25) d_Ke_isFree_24 rfl ic_0 ?_
    exact sm_zreturn d_Ke_isFree_25 rfl (by decide) rfl
  · refine sm_aload_n (i := 0) (j := 0) (pc' := 9) d_Ke_isFree_8 rfl rfl rfl ?_
    refine sm_getR (pc' := 12) d_Ke_isFree_9 rfl fl_Ke_74 rfl rfl (fun v1 => ?_)
    refine sm_iload_n (i := 1) (j := 1) (pc' := 13) d_Ke_isFree_12 rfl rfl rfl ?_
    refine sm_aald (t := 7) ⟨by decide, by decide⟩ rfl (pc' := 14) d_Ke_isFree_13 rfl (fun v2 => ?_)
    refine sm_callVi (ci := 5) (x := v2) (av := []) (st := []) (mc := 0) (ms := 0) (pc' := 17) d_Ke_isFree_14 rfl (sd_Th_isThrough v2) m_lv rfl cv_Th_isThrough w_ml_Ke_78 rfl rfl (by decide) (Nat.le_of_ble_eq_true rfl) rfl rfl (fun v3 => ?_)
    refine sm_if_ne (tgt := 24) (pc' := 20) d_Ke_isFree_17 rfl rfl ?_ ?_
    · refine sm_iconst (pc' := 25) d_Ke_isFree_24 rfl ic_0 ?_
      exact sm_zreturn d_Ke_isFree_25 rfl (by decide) rfl
    · refine sm_iconst (pc' := 21) d_Ke_isFree_20 rfl ic_1 (sm_goto (tgt := 25) d_Ke_isFree_21 rfl ?_)
      exact sm_zreturn d_Ke_isFree_25 rfl (by decide) rfl
theorem d_Ke_loveAndBehind_0 : m_D k_Ke_loveAndBehind 0 (.aload_n 1) 1 := (by decide +kernel : decode prog_5_method_6_code 0 = .ok (.aload_n 1, 1))
theorem d_Ke_loveAndBehind_1 : m_D k_Ke_loveAndBehind 1 (.getfield 84) 3 := (by decide +kernel : decode prog_5_method_6_code 1 = .ok (.getfield 84, 3))
theorem d_Ke_loveAndBehind_4 : m_D k_Ke_loveAndBehind 4 (.iload_n 2) 1 := (by decide +kernel : decode prog_5_method_6_code 4 = .ok (.iload_n 2, 1))
theorem d_Ke_loveAndBehind_5 : m_D k_Ke_loveAndBehind 5 (.aaload) 1 := (by decide +kernel : decode prog_5_method_6_code 5 = .ok (.aaload, 1))
theorem d_Ke_loveAndBehind_6 : m_D k_Ke_loveAndBehind 6 (.getfield 88) 3 := (by decide +kernel : decode prog_5_method_6_code 6 = .ok (.getfield 88, 3))
theorem d_Ke_loveAndBehind_9 : m_D k_Ke_loveAndBehind 9 (.iload_n 3) 1 := (by decide +kernel : decode prog_5_method_6_code 9 = .ok (.iload_n 3, 1))
theorem d_Ke_loveAndBehind_10 : m_D k_Ke_loveAndBehind 10 (.iaload) 1 := (by decide +kernel : decode prog_5_method_6_code 10 = .ok (.iaload, 1))
theorem d_Ke_loveAndBehind_11 : m_D k_Ke_loveAndBehind 11 (.aload_n 0) 1 := (by decide +kernel : decode prog_5_method_6_code 11 = .ok (.aload_n 0, 1))
theorem d_Ke_loveAndBehind_12 : m_D k_Ke_loveAndBehind 12 (.getfield 24) 3 := (by decide +kernel : decode prog_5_method_6_code 12 = .ok (.getfield 24, 3))
theorem d_Ke_loveAndBehind_15 : m_D k_Ke_loveAndBehind 15 (.iload 4) 2 := (by decide +kernel : decode prog_5_method_6_code 15 = .ok (.iload 4, 2))
theorem d_Ke_loveAndBehind_17 : m_D k_Ke_loveAndBehind 17 (.iconst 1) 1 := (by decide +kernel : decode prog_5_method_6_code 17 = .ok (.iconst 1, 1))
theorem d_Ke_loveAndBehind_18 : m_D k_Ke_loveAndBehind 18 (.iload_n 3) 1 := (by decide +kernel : decode prog_5_method_6_code 18 = .ok (.iload_n 3, 1))
theorem d_Ke_loveAndBehind_19 : m_D k_Ke_loveAndBehind 19 (.ishl) 1 := (by decide +kernel : decode prog_5_method_6_code 19 = .ok (.ishl, 1))
theorem d_Ke_loveAndBehind_20 : m_D k_Ke_loveAndBehind 20 (.ior) 1 := (by decide +kernel : decode prog_5_method_6_code 20 = .ok (.ior, 1))
theorem d_Ke_loveAndBehind_21 : m_D k_Ke_loveAndBehind 21 (.iaload) 1 := (by decide +kernel : decode prog_5_method_6_code 21 = .ok (.iaload, 1))
theorem d_Ke_loveAndBehind_22 : m_D k_Ke_loveAndBehind 22 (.iadd) 1 := (by decide +kernel : decode prog_5_method_6_code 22 = .ok (.iadd, 1))
theorem d_Ke_loveAndBehind_23 : m_D k_Ke_loveAndBehind 23 (.ireturn) 1 := (by decide +kernel : decode prog_5_method_6_code 23 = .ok (.ireturn, 1))
def fn_Ke_loveAndBehind (x0 : Option mA) (x1 : Option mA) (x2 : Int32) (x3 : Int32) (x4 : Int32) : mP Int32 :=
  m_th 9 x0 <|
  m_bd (m_gR 3 7 x1) fun v1 =>
  m_bd (m_aR 6 v1 x2) fun v2 =>
  m_bd (m_gR 4 4 v2) fun v3 =>
  m_bd (m_aI 0 v3 x3) fun v4 =>
  m_bd (m_gR 9 5 x0) fun v5 =>
  m_bd (m_aI 0 v5 (x4 ||| (1 <<< (x3 &&& 31)))) fun v6 =>
  m_rt (v4 + v6)
set_option maxHeartbeats 4000000 in
set_option maxRecDepth 100000 in
theorem sd_Ke_loveAndBehind (x0 : Option mA) (x1 : Option mA) (x2 : Int32) (x3 : Int32) (x4 : Int32) : m_Sm k_Ke_loveAndBehind 1 0 0 [.inr (.inr x0), .inr (.inr x1), .inl x2, .inl x3, .inl x4] (fn_Ke_loveAndBehind x0 x1 x2 x3 x4) (fun b => some (.inl b)) := by
  refine ⟨Nat.le_of_ble_eq_true rfl, ?_⟩
  refine sm_th ?_
  refine sm_aload_n (i := 1) (j := 1) (pc' := 1) d_Ke_loveAndBehind_0 rfl rfl rfl ?_
  refine sm_getR (pc' := 4) d_Ke_loveAndBehind_1 rfl fl_Ke_84 rfl rfl (fun v1 => ?_)
  refine sm_iload_n (i := 2) (j := 2) (pc' := 5) d_Ke_loveAndBehind_4 rfl rfl rfl ?_
  refine sm_aald (t := 6) ⟨by decide, by decide⟩ rfl (pc' := 6) d_Ke_loveAndBehind_5 rfl (fun v2 => ?_)
  refine sm_getR (pc' := 9) d_Ke_loveAndBehind_6 rfl fl_Ke_88 rfl rfl (fun v3 => ?_)
  refine sm_iload_n (i := 3) (j := 3) (pc' := 10) d_Ke_loveAndBehind_9 rfl rfl rfl ?_
  refine sm_iald (pc' := 11) d_Ke_loveAndBehind_10 rfl (fun v4 => ?_)
  refine sm_aload_n (i := 0) (j := 0) (pc' := 12) d_Ke_loveAndBehind_11 rfl rfl rfl ?_
  refine sm_getR (pc' := 15) d_Ke_loveAndBehind_12 rfl fl_Ke_24 rfl rfl (fun v5 => ?_)
  refine sm_iload (j := 4) (pc' := 17) d_Ke_loveAndBehind_15 rfl rfl (sm_iconst (pc' := 18) d_Ke_loveAndBehind_17 rfl ic_1 (sm_iload_n (i := 3) (j := 3) (pc' := 19) d_Ke_loveAndBehind_18 rfl rfl rfl (sm_ishl (pc' := 20) d_Ke_loveAndBehind_19 rfl (sm_ior (pc' := 21) d_Ke_loveAndBehind_20 rfl ?_))))
  refine sm_iald (pc' := 22) d_Ke_loveAndBehind_21 rfl (fun v6 => ?_)
  refine sm_iadd (pc' := 23) d_Ke_loveAndBehind_22 rfl ?_
  exact sm_ireturn d_Ke_loveAndBehind_23 rfl rfl
theorem d_Ke_leastFrom_0 : m_D k_Ke_leastFrom 0 (.ldc 59) 2 := (by decide +kernel : decode prog_5_method_4_code 0 = .ok (.ldc 59, 2))
theorem d_Ke_leastFrom_2 : m_D k_Ke_leastFrom 2 (.istore 4) 2 := (by decide +kernel : decode prog_5_method_4_code 2 = .ok (.istore 4, 2))
theorem d_Ke_leastFrom_4 : m_D k_Ke_leastFrom 4 (.iconst 0) 1 := (by decide +kernel : decode prog_5_method_4_code 4 = .ok (.iconst 0, 1))
theorem d_Ke_leastFrom_5 : m_D k_Ke_leastFrom 5 (.istore 5) 2 := (by decide +kernel : decode prog_5_method_4_code 5 = .ok (.istore 5, 2))
theorem d_Ke_leastFrom_7 : m_D k_Ke_leastFrom 7 (.iload 5) 2 := (by decide +kernel : decode prog_5_method_4_code 7 = .ok (.iload 5, 2))
theorem d_Ke_leastFrom_9 : m_D k_Ke_leastFrom 9 (.aload_n 1) 1 := (by decide +kernel : decode prog_5_method_4_code 9 = .ok (.aload_n 1, 1))
theorem d_Ke_leastFrom_10 : m_D k_Ke_leastFrom 10 (.getfield 46) 3 := (by decide +kernel : decode prog_5_method_4_code 10 = .ok (.getfield 46, 3))
theorem d_Ke_leastFrom_13 : m_D k_Ke_leastFrom 13 (.if_icmp .ge 35) 3 := (by decide +kernel : decode prog_5_method_4_code 13 = .ok (.if_icmp .ge 35, 3))
theorem d_Ke_leastFrom_16 : m_D k_Ke_leastFrom 16 (.aload_n 1) 1 := (by decide +kernel : decode prog_5_method_4_code 16 = .ok (.aload_n 1, 1))
theorem d_Ke_leastFrom_17 : m_D k_Ke_leastFrom 17 (.iload 5) 2 := (by decide +kernel : decode prog_5_method_4_code 17 = .ok (.iload 5, 2))
theorem d_Ke_leastFrom_19 : m_D k_Ke_leastFrom 19 (.iload_n 3) 1 := (by decide +kernel : decode prog_5_method_4_code 19 = .ok (.iload_n 3, 1))
theorem d_Ke_leastFrom_20 : m_D k_Ke_leastFrom 20 (.invokestatic 60) 3 := (by decide +kernel : decode prog_5_method_4_code 20 = .ok (.invokestatic 60, 3))
theorem d_Ke_leastFrom_23 : m_D k_Ke_leastFrom 23 (.ifCond .eq 19) 3 := (by decide +kernel : decode prog_5_method_4_code 23 = .ok (.ifCond .eq 19, 3))
theorem d_Ke_leastFrom_26 : m_D k_Ke_leastFrom 26 (.iload 4) 2 := (by decide +kernel : decode prog_5_method_4_code 26 = .ok (.iload 4, 2))
theorem d_Ke_leastFrom_28 : m_D k_Ke_leastFrom 28 (.aload_n 0) 1 := (by decide +kernel : decode prog_5_method_4_code 28 = .ok (.aload_n 0, 1))
theorem d_Ke_leastFrom_29 : m_D k_Ke_leastFrom 29 (.aload_n 1) 1 := (by decide +kernel : decode prog_5_method_4_code 29 = .ok (.aload_n 1, 1))
theorem d_Ke_leastFrom_30 : m_D k_Ke_leastFrom 30 (.iload_n 2) 1 := (by decide +kernel : decode prog_5_method_4_code 30 = .ok (.iload_n 2, 1))
theorem d_Ke_leastFrom_31 : m_D k_Ke_leastFrom 31 (.iload 5) 2 := (by decide +kernel : decode prog_5_method_4_code 31 = .ok (.iload 5, 2))
theorem d_Ke_leastFrom_33 : m_D k_Ke_leastFrom 33 (.iload_n 3) 1 := (by decide +kernel : decode prog_5_method_4_code 33 = .ok (.iload_n 3, 1))
theorem d_Ke_leastFrom_34 : m_D k_Ke_leastFrom 34 (.invokevirtual 64) 3 := (by decide +kernel : decode prog_5_method_4_code 34 = .ok (.invokevirtual 64, 3))
theorem d_Ke_leastFrom_37 : m_D k_Ke_leastFrom 37 (.invokestatic 68) 3 := (by decide +kernel : decode prog_5_method_4_code 37 = .ok (.invokestatic 68, 3))
theorem d_Ke_leastFrom_40 : m_D k_Ke_leastFrom 40 (.istore 4) 2 := (by decide +kernel : decode prog_5_method_4_code 40 = .ok (.istore 4, 2))
theorem d_Ke_leastFrom_42 : m_D k_Ke_leastFrom 42 (.iinc 5 1) 3 := (by decide +kernel : decode prog_5_method_4_code 42 = .ok (.iinc 5 1, 3))
theorem d_Ke_leastFrom_45 : m_D k_Ke_leastFrom 45 (.goto (-38)) 3 := (by decide +kernel : decode prog_5_method_4_code 45 = .ok (.goto (-38), 3))
theorem d_Ke_leastFrom_48 : m_D k_Ke_leastFrom 48 (.iload 4) 2 := (by decide +kernel : decode prog_5_method_4_code 48 = .ok (.iload 4, 2))
theorem d_Ke_leastFrom_50 : m_D k_Ke_leastFrom 50 (.ireturn) 1 := (by decide +kernel : decode prog_5_method_4_code 50 = .ok (.ireturn, 1))
def fn_Ke_leastFrom_l7 (x0 : Option mA) (x1 : Option mA) (x2 : Int32) (x3 : Int32) (t1 : Int32 × Int32) : mP ((Int32 × Int32) ⊕ (Int32)) :=
  m_bd (m_gI 3 1 x1) fun v2 =>
  if v2 ≤ t1.2 then
    m_rt (.inr t1.1)
  else
    m_bd (fn_Ke_isFree x1 t1.2 x3) fun v3 =>
    m_bd (α := Int32) (
      if v3 = 0 then
        m_rt t1.1
      else
        m_bd (fn_Ke_loveAndBehind x0 x1 x2 t1.2 x3) fun v4 =>
        m_rt (iMin t1.1 v4)
      ) fun (t5 : Int32) =>
    m_rt (.inl (t5, (t1.2 + 1)))
def fn_Ke_leastFrom (x0 : Option mA) (x1 : Option mA) (x2 : Int32) (x3 : Int32) : mP Int32 :=
  m_th 9 x0 <|
  m_bd (m_lp (fn_Ke_leastFrom_l7 x0 x1 x2 x3) m_F (1000000, 0)) fun (t6 : Int32) =>
  m_rt t6
set_option maxHeartbeats 4000000 in
set_option maxRecDepth 100000 in
theorem sd_Ke_leastFrom (x0 : Option mA) (x1 : Option mA) (x2 : Int32) (x3 : Int32) : m_Sm k_Ke_leastFrom 3 0 0 [.inr (.inr x0), .inr (.inr x1), .inl x2, .inl x3] (fn_Ke_leastFrom x0 x1 x2 x3) (fun b => some (.inl b)) := by
  refine ⟨Nat.le_of_ble_eq_true rfl, ?_⟩
  refine sm_th ?_
  refine sm_ldc (v := 1000000) (pc' := 2) d_Ke_leastFrom_0 rfl w_ci_Ke_59 (sm_istore (L' := [(4, .inl 1000000), (0, .inr (.inr x0)), (1, .inr (.inr x1)), (2, .inl x2), (3, .inl x3)]) (pc' := 4) d_Ke_leastFrom_2 rfl (Nat.le_of_ble_eq_true rfl) rfl (sm_iconst (pc' := 5) d_Ke_leastFrom_4 rfl ic_0 (sm_istore (L' := [(5, .inl 0), (4, .inl 1000000), (0, .inr (.inr x0)), (1, .inr (.inr x1)), (2, .inl x2), (3, .inl x3)]) (pc' := 7) d_Ke_leastFrom_5 rfl (Nat.le_of_ble_eq_true rfl) rfl ?_)))
  refine sm_sub [1, 0, 2, 3, 4, 5] rfl ?_
  refine sm_bd (mid := fun (t6 : Int32) => .inl (48, [(4, .inl t6)], [])) (sm_lp (hd := fun (t1 : Int32 × Int32) => (.inl (7, [(4, .inl t1.1), (5, .inl t1.2), (0, .inr (.inr x0)), (1, .inr (.inr x1)), (2, .inl x2), (3, .inl x3)], []) : mC)) (fun t1 => ?_) m_F (1000000, 0)) (fun t6 => ?_)
  · refine sm_iload (j := 1) (pc' := 9) d_Ke_leastFrom_7 rfl rfl (sm_aload_n (i := 1) (j := 3) (pc' := 10) d_Ke_leastFrom_9 rfl rfl rfl ?_)
    refine sm_getI (pc' := 13) d_Ke_leastFrom_10 rfl fl_Ke_46 rfl ⟨by decide, by decide⟩ (fun v2 => ?_)
    refine sm_icmp_ge (tgt := 48) (pc' := 16) d_Ke_leastFrom_13 rfl rfl ?_ ?_
    · refine sm_sub [0] rfl ?_
      exact sm_rt rfl
    · refine sm_aload_n (i := 1) (j := 3) (pc' := 17) d_Ke_leastFrom_16 rfl rfl rfl (sm_iload (j := 1) (pc' := 19) d_Ke_leastFrom_17 rfl rfl (sm_iload_n (i := 3) (j := 5) (pc' := 20) d_Ke_leastFrom_19 rfl rfl rfl ?_))
      refine sm_callSi (av := [.inr (.inr x1), .inl t1.2, .inl x3]) (st := []) (mc := 0) (ms := 0) (pc' := 23) d_Ke_leastFrom_20 rfl (sd_Ke_isFree x1 t1.2 x3) cs_Ke_isFree w_ml_Ke_60 rfl rfl (by decide) (Nat.le_of_ble_eq_true rfl) rfl rfl (fun v3 => ?_)
      refine sm_bd (mid := fun (t5 : Int32) => .inl (42, [(0, .inr (.inr x0)), (1, .inr (.inr x1)), (2, .inl x2), (3, .inl x3), (4, .inl t5), (5, .inl t1.2)], [])) ?_ (fun t5 => ?_)
      · refine sm_if_eq (tgt := 42) (pc' := 26) d_Ke_leastFrom_23 rfl rfl ?_ ?_
        · refine sm_sub [2, 3, 4, 5, 0, 1] rfl ?_
          exact sm_rt rfl
        · refine sm_iload (j := 0) (pc' := 28) d_Ke_leastFrom_26 rfl rfl (sm_aload_n (i := 0) (j := 2) (pc' := 29) d_Ke_leastFrom_28 rfl rfl rfl (sm_aload_n (i := 1) (j := 3) (pc' := 30) d_Ke_leastFrom_29 rfl rfl rfl (sm_iload_n (i := 2) (j := 4) (pc' := 31) d_Ke_leastFrom_30 rfl rfl rfl (sm_iload (j := 1) (pc' := 33) d_Ke_leastFrom_31 rfl rfl (sm_iload_n (i := 3) (j := 5) (pc' := 34) d_Ke_leastFrom_33 rfl rfl rfl ?_)))))
          refine sm_callVi (ci := 9) (x := x0) (av := [.inr (.inr x1), .inl x2, .inl t1.2, .inl x3]) (st := [.inl t1.1]) (mc := 0) (ms := 0) (pc' := 37) d_Ke_leastFrom_34 rfl (sd_Ke_loveAndBehind x0 x1 x2 t1.2 x3) m_lv rfl cv_Ke_loveAndBehind w_ml_Ke_64 rfl rfl (by decide) (Nat.le_of_ble_eq_true rfl) rfl rfl (fun v4 => ?_)
          refine sm_mmin (pc' := 40) d_Ke_leastFrom_37 rfl w_ml_Ke_68 (by decide) (Nat.le_of_ble_eq_true rfl) (sm_istore (L' := [(4, .inl (iMin t1.1 v4)), (5, .inl t1.2), (0, .inr (.inr x0)), (1, .inr (.inr x1)), (2, .inl x2), (3, .inl x3)]) (pc' := 42) d_Ke_leastFrom_40 rfl (Nat.le_of_ble_eq_true rfl) rfl (sm_sub [2, 3, 4, 5, 0, 1] rfl ?_))
          exact sm_rt rfl
      · refine sm_iinc (j := 5) (L' := [(5, .inl (t1.2 + 1)), (0, .inr (.inr x0)), (1, .inr (.inr x1)), (2, .inl x2), (3, .inl x3), (4, .inl t5)]) (pc' := 45) d_Ke_leastFrom_42 rfl (v := (t1.2 + 1)) rfl (ix_1 _) (Nat.le_of_ble_eq_true rfl) rfl (sm_goto (tgt := 7) d_Ke_leastFrom_45 rfl (sm_sub [5, 0, 1, 2, 3, 4] rfl ?_))
        exact sm_rt rfl
  · refine sm_iload (j := 0) (pc' := 50) d_Ke_leastFrom_48 rfl rfl ?_
    exact sm_ireturn d_Ke_leastFrom_50 rfl rfl
theorem d_Ke_leastLove_0 : m_D k_Ke_leastLove 0 (.aload_n 0) 1 := (by decide +kernel : decode prog_5_method_3_code 0 = .ok (.aload_n 0, 1))
theorem d_Ke_leastLove_1 : m_D k_Ke_leastLove 1 (.aload_n 1) 1 := (by decide +kernel : decode prog_5_method_3_code 1 = .ok (.aload_n 1, 1))
theorem d_Ke_leastLove_2 : m_D k_Ke_leastLove 2 (.iload_n 2) 1 := (by decide +kernel : decode prog_5_method_3_code 2 = .ok (.iload_n 2, 1))
theorem d_Ke_leastLove_3 : m_D k_Ke_leastLove 3 (.invokevirtual 42) 3 := (by decide +kernel : decode prog_5_method_3_code 3 = .ok (.invokevirtual 42, 3))
theorem d_Ke_leastLove_6 : m_D k_Ke_leastLove 6 (.iconst 1) 1 := (by decide +kernel : decode prog_5_method_3_code 6 = .ok (.iconst 1, 1))
theorem d_Ke_leastLove_7 : m_D k_Ke_leastLove 7 (.aload_n 1) 1 := (by decide +kernel : decode prog_5_method_3_code 7 = .ok (.aload_n 1, 1))
theorem d_Ke_leastLove_8 : m_D k_Ke_leastLove 8 (.getfield 46) 3 := (by decide +kernel : decode prog_5_method_3_code 8 = .ok (.getfield 46, 3))
theorem d_Ke_leastLove_11 : m_D k_Ke_leastLove 11 (.ishl) 1 := (by decide +kernel : decode prog_5_method_3_code 11 = .ok (.ishl, 1))
theorem d_Ke_leastLove_12 : m_D k_Ke_leastLove 12 (.iconst 1) 1 := (by decide +kernel : decode prog_5_method_3_code 12 = .ok (.iconst 1, 1))
theorem d_Ke_leastLove_13 : m_D k_Ke_leastLove 13 (.isub) 1 := (by decide +kernel : decode prog_5_method_3_code 13 = .ok (.isub, 1))
theorem d_Ke_leastLove_14 : m_D k_Ke_leastLove 14 (.istore_n 3) 1 := (by decide +kernel : decode prog_5_method_3_code 14 = .ok (.istore_n 3, 1))
theorem d_Ke_leastLove_15 : m_D k_Ke_leastLove 15 (.iload_n 3) 1 := (by decide +kernel : decode prog_5_method_3_code 15 = .ok (.iload_n 3, 1))
theorem d_Ke_leastLove_16 : m_D k_Ke_leastLove 16 (.ifCond .lt 47) 3 := (by decide +kernel : decode prog_5_method_3_code 16 = .ok (.ifCond .lt 47, 3))
theorem d_Ke_leastLove_19 : m_D k_Ke_leastLove 19 (.iload_n 3) 1 := (by decide +kernel : decode prog_5_method_3_code 19 = .ok (.iload_n 3, 1))
theorem d_Ke_leastLove_20 : m_D k_Ke_leastLove 20 (.invokestatic 49) 3 := (by decide +kernel : decode prog_5_method_3_code 20 = .ok (.invokestatic 49, 3))
theorem d_Ke_leastLove_23 : m_D k_Ke_leastLove 23 (.istore 4) 2 := (by decide +kernel : decode prog_5_method_3_code 23 = .ok (.istore 4, 2))
theorem d_Ke_leastLove_25 : m_D k_Ke_leastLove 25 (.aload_n 0) 1 := (by decide +kernel : decode prog_5_method_3_code 25 = .ok (.aload_n 0, 1))
theorem d_Ke_leastLove_26 : m_D k_Ke_leastLove 26 (.getfield 24) 3 := (by decide +kernel : decode prog_5_method_3_code 26 = .ok (.getfield 24, 3))
theorem d_Ke_leastLove_29 : m_D k_Ke_leastLove 29 (.iload_n 3) 1 := (by decide +kernel : decode prog_5_method_3_code 29 = .ok (.iload_n 3, 1))
theorem d_Ke_leastLove_30 : m_D k_Ke_leastLove 30 (.iload 4) 2 := (by decide +kernel : decode prog_5_method_3_code 30 = .ok (.iload 4, 2))
theorem d_Ke_leastLove_32 : m_D k_Ke_leastLove 32 (.aload_n 0) 1 := (by decide +kernel : decode prog_5_method_3_code 32 = .ok (.aload_n 0, 1))
theorem d_Ke_leastLove_33 : m_D k_Ke_leastLove 33 (.getfield 27) 3 := (by decide +kernel : decode prog_5_method_3_code 33 = .ok (.getfield 27, 3))
theorem d_Ke_leastLove_36 : m_D k_Ke_leastLove 36 (.if_icmp .lt 7) 3 := (by decide +kernel : decode prog_5_method_3_code 36 = .ok (.if_icmp .lt 7, 3))
theorem d_Ke_leastLove_39 : m_D k_Ke_leastLove 39 (.iconst 0) 1 := (by decide +kernel : decode prog_5_method_3_code 39 = .ok (.iconst 0, 1))
theorem d_Ke_leastLove_40 : m_D k_Ke_leastLove 40 (.goto 16) 3 := (by decide +kernel : decode prog_5_method_3_code 40 = .ok (.goto 16, 3))
theorem d_Ke_leastLove_43 : m_D k_Ke_leastLove 43 (.aload_n 0) 1 := (by decide +kernel : decode prog_5_method_3_code 43 = .ok (.aload_n 0, 1))
theorem d_Ke_leastLove_44 : m_D k_Ke_leastLove 44 (.aload_n 1) 1 := (by decide +kernel : decode prog_5_method_3_code 44 = .ok (.aload_n 1, 1))
theorem d_Ke_leastLove_45 : m_D k_Ke_leastLove 45 (.aload_n 0) 1 := (by decide +kernel : decode prog_5_method_3_code 45 = .ok (.aload_n 0, 1))
theorem d_Ke_leastLove_46 : m_D k_Ke_leastLove 46 (.getfield 21) 3 := (by decide +kernel : decode prog_5_method_3_code 46 = .ok (.getfield 21, 3))
theorem d_Ke_leastLove_49 : m_D k_Ke_leastLove 49 (.iload 4) 2 := (by decide +kernel : decode prog_5_method_3_code 49 = .ok (.iload 4, 2))
theorem d_Ke_leastLove_51 : m_D k_Ke_leastLove 51 (.iaload) 1 := (by decide +kernel : decode prog_5_method_3_code 51 = .ok (.iaload, 1))
theorem d_Ke_leastLove_52 : m_D k_Ke_leastLove 52 (.iload_n 3) 1 := (by decide +kernel : decode prog_5_method_3_code 52 = .ok (.iload_n 3, 1))
theorem d_Ke_leastLove_53 : m_D k_Ke_leastLove 53 (.invokevirtual 55) 3 := (by decide +kernel : decode prog_5_method_3_code 53 = .ok (.invokevirtual 55, 3))
theorem d_Ke_leastLove_56 : m_D k_Ke_leastLove 56 (.iastore) 1 := (by decide +kernel : decode prog_5_method_3_code 56 = .ok (.iastore, 1))
theorem d_Ke_leastLove_57 : m_D k_Ke_leastLove 57 (.iinc 3 (-1)) 3 := (by decide +kernel : decode prog_5_method_3_code 57 = .ok (.iinc 3 (-1), 3))
theorem d_Ke_leastLove_60 : m_D k_Ke_leastLove 60 (.goto (-45)) 3 := (by decide +kernel : decode prog_5_method_3_code 60 = .ok (.goto (-45), 3))
theorem d_Ke_leastLove_63 : m_D k_Ke_leastLove 63 (.aload_n 0) 1 := (by decide +kernel : decode prog_5_method_3_code 63 = .ok (.aload_n 0, 1))
theorem d_Ke_leastLove_64 : m_D k_Ke_leastLove 64 (.getfield 24) 3 := (by decide +kernel : decode prog_5_method_3_code 64 = .ok (.getfield 24, 3))
theorem d_Ke_leastLove_67 : m_D k_Ke_leastLove 67 (.iconst 0) 1 := (by decide +kernel : decode prog_5_method_3_code 67 = .ok (.iconst 0, 1))
theorem d_Ke_leastLove_68 : m_D k_Ke_leastLove 68 (.iaload) 1 := (by decide +kernel : decode prog_5_method_3_code 68 = .ok (.iaload, 1))
theorem d_Ke_leastLove_69 : m_D k_Ke_leastLove 69 (.ireturn) 1 := (by decide +kernel : decode prog_5_method_3_code 69 = .ok (.ireturn, 1))
def fn_Ke_leastLove_l15 (x0 : Option mA) (x1 : Option mA) (t2 : Int32) : mP ((Int32) ⊕ (Unit)) :=
  if t2 < 0 then
    m_rt (.inr ())
  else
    m_bd (fn_JI_bitCount t2) fun v3 =>
    m_bd (m_gR 9 5 x0) fun v4 =>
    m_bd (m_gI 9 4 x0) fun v5 =>
    m_bd (α := Int32) (
      if v3 < v5 then
        m_bd (m_gR 9 3 x0) fun v6 =>
        m_bd (m_aI 0 v6 v3) fun v7 =>
        m_bd (fn_Ke_leastFrom x0 x1 v7 t2) fun v8 =>
        m_rt v8
      else
        m_rt 0
      ) fun (t9 : Int32) =>
    m_bd (m_tI 0 v4 t2 t9) fun _ =>
    m_rt (.inl (t2 + (-1)))
def fn_Ke_leastLove (x0 : Option mA) (x1 : Option mA) (x2 : Int32) : mP Int32 :=
  m_th 9 x0 <|
  m_bd (fn_Ke_gather x0 x1 x2) fun _ =>
  m_bd (m_gI 3 1 x1) fun v1 =>
  m_bd (m_lp (fn_Ke_leastLove_l15 x0 x1) m_F ((1 <<< (v1 &&& 31)) - 1)) fun (t10 : Unit) =>
  m_bd (m_gR 9 5 x0) fun v11 =>
  m_bd (m_aI 0 v11 0) fun v12 =>
  m_rt v12
set_option maxHeartbeats 4000000 in
set_option maxRecDepth 100000 in
theorem sd_Ke_leastLove (x0 : Option mA) (x1 : Option mA) (x2 : Int32) : m_Sm k_Ke_leastLove 4 0 0 [.inr (.inr x0), .inr (.inr x1), .inl x2] (fn_Ke_leastLove x0 x1 x2) (fun b => some (.inl b)) := by
  refine ⟨Nat.le_of_ble_eq_true rfl, ?_⟩
  refine sm_th ?_
  refine sm_aload_n (i := 0) (j := 0) (pc' := 1) d_Ke_leastLove_0 rfl rfl rfl (sm_aload_n (i := 1) (j := 1) (pc' := 2) d_Ke_leastLove_1 rfl rfl rfl (sm_iload_n (i := 2) (j := 2) (pc' := 3) d_Ke_leastLove_2 rfl rfl rfl ?_))
  refine sm_callVv (ci := 9) (x := x0) (av := [.inr (.inr x1), .inl x2]) (st := []) (mc := 0) (ms := 0) (pc' := 6) d_Ke_leastLove_3 rfl (sd_Ke_gather x0 x1 x2) m_lv rfl cv_Ke_gather w_ml_Ke_42 rfl rfl (by decide) (Nat.le_of_ble_eq_true rfl) rfl rfl ?_
  refine sm_iconst (pc' := 7) d_Ke_leastLove_6 rfl ic_1 (sm_aload_n (i := 1) (j := 1) (pc' := 8) d_Ke_leastLove_7 rfl rfl rfl ?_)
  refine sm_getI (pc' := 11) d_Ke_leastLove_8 rfl fl_Ke_46 rfl ⟨by decide, by decide⟩ (fun v1 => ?_)
  refine sm_ishl (pc' := 12) d_Ke_leastLove_11 rfl (sm_iconst (pc' := 13) d_Ke_leastLove_12 rfl ic_1 (sm_isub (pc' := 14) d_Ke_leastLove_13 rfl (sm_istore_n (i := 3) (L' := [(3, .inl ((1 <<< (v1 &&& 31)) - 1)), (0, .inr (.inr x0)), (1, .inr (.inr x1)), (2, .inl x2)]) (pc' := 15) d_Ke_leastLove_14 rfl rfl (Nat.le_of_ble_eq_true rfl) rfl ?_)))
  refine sm_sub [0, 1, 2] rfl ?_
  refine sm_bd (mid := fun (t10 : Unit) => .inl (63, [(0, .inr (.inr x0))], [])) (sm_lp (hd := fun (t2 : Int32) => (.inl (15, [(3, .inl t2), (0, .inr (.inr x0)), (1, .inr (.inr x1))], []) : mC)) (fun t2 => ?_) m_F ((1 <<< (v1 &&& 31)) - 1)) (fun t10 => ?_)
  · refine sm_iload_n (i := 3) (j := 0) (pc' := 16) d_Ke_leastLove_15 rfl rfl rfl ?_
    refine sm_if_lt (tgt := 63) (pc' := 19) d_Ke_leastLove_16 rfl rfl ?_ ?_
    · refine sm_sub [1] rfl ?_
      exact sm_rt rfl
    · refine sm_iload_n (i := 3) (j := 0) (pc' := 20) d_Ke_leastLove_19 rfl rfl rfl ?_
      refine sm_callSi (av := [.inl t2]) (st := []) (mc := 0) (ms := 0) (pc' := 23) d_Ke_leastLove_20 rfl (sd_JI_bitCount t2) cs_JI_bitCount w_ml_Ke_49 rfl rfl (by decide) (Nat.le_of_ble_eq_true rfl) rfl rfl (fun v3 => ?_)
      refine sm_istore (L' := [(4, .inl v3), (3, .inl t2), (0, .inr (.inr x0)), (1, .inr (.inr x1))]) (pc' := 25) d_Ke_leastLove_23 rfl (Nat.le_of_ble_eq_true rfl) rfl (sm_aload_n (i := 0) (j := 2) (pc' := 26) d_Ke_leastLove_25 rfl rfl rfl ?_)
      refine sm_getR (pc' := 29) d_Ke_leastLove_26 rfl fl_Ke_24 rfl rfl (fun v4 => ?_)
      refine sm_iload_n (i := 3) (j := 1) (pc' := 30) d_Ke_leastLove_29 rfl rfl rfl (sm_iload (j := 0) (pc' := 32) d_Ke_leastLove_30 rfl rfl (sm_aload_n (i := 0) (j := 2) (pc' := 33) d_Ke_leastLove_32 rfl rfl rfl ?_))
      refine sm_getI (pc' := 36) d_Ke_leastLove_33 rfl fl_Ke_27 rfl ⟨by decide, by decide⟩ (fun v5 => ?_)
      refine sm_bd (mid := fun (t9 : Int32) => .inl (56, [(0, .inr (.inr x0)), (1, .inr (.inr x1)), (3, .inl t2)], [.inl t9, .inl t2, .inr (.inr v4)])) ?_ (fun t9 => ?_)
      · refine sm_icmp_lt (tgt := 43) (pc' := 39) d_Ke_leastLove_36 rfl rfl ?_ ?_
        · refine sm_aload_n (i := 0) (j := 2) (pc' := 44) d_Ke_leastLove_43 rfl rfl rfl (sm_aload_n (i := 1) (j := 3) (pc' := 45) d_Ke_leastLove_44 rfl rfl rfl (sm_aload_n (i := 0) (j := 2) (pc' := 46) d_Ke_leastLove_45 rfl rfl rfl ?_))
          refine sm_getR (pc' := 49) d_Ke_leastLove_46 rfl fl_Ke_21 rfl rfl (fun v6 => ?_)
          refine sm_iload (j := 0) (pc' := 51) d_Ke_leastLove_49 rfl rfl ?_
          refine sm_iald (pc' := 52) d_Ke_leastLove_51 rfl (fun v7 => ?_)
          refine sm_iload_n (i := 3) (j := 1) (pc' := 53) d_Ke_leastLove_52 rfl rfl rfl ?_
          refine sm_callVi (ci := 9) (x := x0) (av := [.inr (.inr x1), .inl v7, .inl t2]) (st := [.inl t2, .inr (.inr v4)]) (mc := 0) (ms := 0) (pc' := 56) d_Ke_leastLove_53 rfl (sd_Ke_leastFrom x0 x1 v7 t2) m_lv rfl cv_Ke_leastFrom w_ml_Ke_55 rfl rfl (by decide) (Nat.le_of_ble_eq_true rfl) rfl rfl (fun v8 => ?_)
          refine sm_sub [2, 3, 1] rfl ?_
          exact sm_rt rfl
        · refine sm_iconst (pc' := 40) d_Ke_leastLove_39 rfl ic_0 (sm_goto (tgt := 56) d_Ke_leastLove_40 rfl (sm_sub [2, 3, 1] rfl ?_))
          exact sm_rt rfl
      · refine sm_iast (pc' := 57) d_Ke_leastLove_56 rfl (sm_iinc (j := 2) (L' := [(3, .inl (t2 + (-1))), (0, .inr (.inr x0)), (1, .inr (.inr x1))]) (pc' := 60) d_Ke_leastLove_57 rfl (v := (t2 + (-1))) rfl (ix_m1 _) (Nat.le_of_ble_eq_true rfl) rfl (sm_goto (tgt := 15) d_Ke_leastLove_60 rfl (sm_sub [0, 1, 2] rfl ?_)))
        exact sm_rt rfl
  · refine sm_aload_n (i := 0) (j := 0) (pc' := 64) d_Ke_leastLove_63 rfl rfl rfl ?_
    refine sm_getR (pc' := 67) d_Ke_leastLove_64 rfl fl_Ke_24 rfl rfl (fun v11 => ?_)
    refine sm_iconst (pc' := 68) d_Ke_leastLove_67 rfl ic_0 ?_
    refine sm_iald (pc' := 69) d_Ke_leastLove_68 rfl (fun v12 => ?_)
    exact sm_ireturn d_Ke_leastLove_69 rfl rfl
theorem d_C_keeping_0 : m_D k_C_keeping 0 (.aload_n 0) 1 := (by decide +kernel : decode prog_1_method_54_code 0 = .ok (.aload_n 0, 1))
theorem d_C_keeping_1 : m_D k_C_keeping 1 (.iload_n 1) 1 := (by decide +kernel : decode prog_1_method_54_code 1 = .ok (.iload_n 1, 1))
theorem d_C_keeping_2 : m_D k_C_keeping 2 (.aload_n 0) 1 := (by decide +kernel : decode prog_1_method_54_code 2 = .ok (.aload_n 0, 1))
theorem d_C_keeping_3 : m_D k_C_keeping 3 (.getfield 37) 3 := (by decide +kernel : decode prog_1_method_54_code 3 = .ok (.getfield 37, 3))
theorem d_C_keeping_6 : m_D k_C_keeping 6 (.getfield 175) 3 := (by decide +kernel : decode prog_1_method_54_code 6 = .ok (.getfield 175, 3))
theorem d_C_keeping_9 : m_D k_C_keeping 9 (.invokestatic 324) 3 := (by decide +kernel : decode prog_1_method_54_code 9 = .ok (.invokestatic 324, 3))
theorem d_C_keeping_12 : m_D k_C_keeping 12 (.ifCond .eq 11) 3 := (by decide +kernel : decode prog_1_method_54_code 12 = .ok (.ifCond .eq 11, 3))
theorem d_C_keeping_15 : m_D k_C_keeping 15 (.aload_n 0) 1 := (by decide +kernel : decode prog_1_method_54_code 15 = .ok (.aload_n 0, 1))
theorem d_C_keeping_16 : m_D k_C_keeping 16 (.iload_n 1) 1 := (by decide +kernel : decode prog_1_method_54_code 16 = .ok (.iload_n 1, 1))
theorem d_C_keeping_17 : m_D k_C_keeping 17 (.invokevirtual 354) 3 := (by decide +kernel : decode prog_1_method_54_code 17 = .ok (.invokevirtual 354, 3))
theorem d_C_keeping_20 : m_D k_C_keeping 20 (.goto 4) 3 := (by decide +kernel : decode prog_1_method_54_code 20 = .ok (.goto 4, 3))
theorem d_C_keeping_23 : m_D k_C_keeping 23 (.iconst 5) 1 := (by decide +kernel : decode prog_1_method_54_code 23 = .ok (.iconst 5, 1))
theorem d_C_keeping_24 : m_D k_C_keeping 24 (.putfield 9) 3 := (by decide +kernel : decode prog_1_method_54_code 24 = .ok (.putfield 9, 3))
theorem d_C_keeping_27 : m_D k_C_keeping 27 (.aload_n 0) 1 := (by decide +kernel : decode prog_1_method_54_code 27 = .ok (.aload_n 0, 1))
theorem d_C_keeping_28 : m_D k_C_keeping 28 (.getfield 9) 3 := (by decide +kernel : decode prog_1_method_54_code 28 = .ok (.getfield 9, 3))
theorem d_C_keeping_31 : m_D k_C_keeping 31 (.ifCond .eq 5) 3 := (by decide +kernel : decode prog_1_method_54_code 31 = .ok (.ifCond .eq 5, 3))
theorem d_C_keeping_34 : m_D k_C_keeping 34 (.iconst (-1)) 1 := (by decide +kernel : decode prog_1_method_54_code 34 = .ok (.iconst (-1), 1))
theorem d_C_keeping_35 : m_D k_C_keeping 35 (.ireturn) 1 := (by decide +kernel : decode prog_1_method_54_code 35 = .ok (.ireturn, 1))
theorem d_C_keeping_36 : m_D k_C_keeping 36 (.aload_n 0) 1 := (by decide +kernel : decode prog_1_method_54_code 36 = .ok (.aload_n 0, 1))
theorem d_C_keeping_37 : m_D k_C_keeping 37 (.getfield 75) 3 := (by decide +kernel : decode prog_1_method_54_code 37 = .ok (.getfield 75, 3))
theorem d_C_keeping_40 : m_D k_C_keeping 40 (.aload_n 0) 1 := (by decide +kernel : decode prog_1_method_54_code 40 = .ok (.aload_n 0, 1))
theorem d_C_keeping_41 : m_D k_C_keeping 41 (.getfield 37) 3 := (by decide +kernel : decode prog_1_method_54_code 41 = .ok (.getfield 37, 3))
theorem d_C_keeping_44 : m_D k_C_keeping 44 (.iload_n 1) 1 := (by decide +kernel : decode prog_1_method_54_code 44 = .ok (.iload_n 1, 1))
theorem d_C_keeping_45 : m_D k_C_keeping 45 (.invokevirtual 357) 3 := (by decide +kernel : decode prog_1_method_54_code 45 = .ok (.invokevirtual 357, 3))
theorem d_C_keeping_48 : m_D k_C_keeping 48 (.ireturn) 1 := (by decide +kernel : decode prog_1_method_54_code 48 = .ok (.ireturn, 1))
def fn_C_keeping (x0 : Option mA) (x1 : Int32) : mP Int32 :=
  m_th 0 x0 <|
  m_bd (m_gR 0 5 x0) fun v1 =>
  m_bd (m_gI 3 0 v1) fun v2 =>
  m_bd (fn_C_isSet x1 v2) fun v3 =>
  m_bd (α := Int32) (
    if v3 = 0 then
      m_rt 5
    else
      m_bd (fn_C_keepingStatus x0 x1) fun v4 =>
      m_rt v4
    ) fun (t5 : Int32) =>
  m_bd (m_pI 0 0 x0 t5) fun _ =>
  m_bd (m_gI 0 0 x0) fun v6 =>
  if v6 = 0 then
    m_bd (m_gR 0 12 x0) fun v7 =>
    m_bd (m_gR 0 5 x0) fun v8 =>
    m_bd (fn_Ke_leastLove v7 v8 x1) fun v9 =>
    m_rt v9
  else
    m_rt (-1)
set_option maxHeartbeats 4000000 in
set_option maxRecDepth 100000 in
theorem sd_C_keeping (x0 : Option mA) (x1 : Int32) : m_Sm k_C_keeping 5 0 0 [.inr (.inr x0), .inl x1] (fn_C_keeping x0 x1) (fun b => some (.inl b)) := by
  refine ⟨Nat.le_of_ble_eq_true rfl, ?_⟩
  refine sm_th ?_
  refine sm_aload_n (i := 0) (j := 0) (pc' := 1) d_C_keeping_0 rfl rfl rfl (sm_iload_n (i := 1) (j := 1) (pc' := 2) d_C_keeping_1 rfl rfl rfl (sm_aload_n (i := 0) (j := 0) (pc' := 3) d_C_keeping_2 rfl rfl rfl ?_))
  refine sm_getR (pc' := 6) d_C_keeping_3 rfl fl_C_37 rfl rfl (fun v1 => ?_)
  refine sm_getI (pc' := 9) d_C_keeping_6 rfl fl_C_175 rfl ⟨by decide, by decide⟩ (fun v2 => ?_)
  refine sm_callSi (av := [.inl x1, .inl v2]) (st := [.inr (.inr x0)]) (mc := 0) (ms := 0) (pc' := 12) d_C_keeping_9 rfl (sd_C_isSet x1 v2) cs_C_isSet w_ml_C_324 rfl rfl (by decide) (Nat.le_of_ble_eq_true rfl) rfl rfl (fun v3 => ?_)
  refine sm_bd (mid := fun (t5 : Int32) => .inl (24, [(0, .inr (.inr x0)), (1, .inl x1)], [.inl t5, .inr (.inr x0)])) ?_ (fun t5 => ?_)
  · refine sm_if_eq (tgt := 23) (pc' := 15) d_C_keeping_12 rfl rfl ?_ ?_
    · refine sm_iconst (pc' := 24) d_C_keeping_23 rfl ic_5 (sm_sub [0, 1] rfl ?_)
      exact sm_rt rfl
    · refine sm_aload_n (i := 0) (j := 0) (pc' := 16) d_C_keeping_15 rfl rfl rfl (sm_iload_n (i := 1) (j := 1) (pc' := 17) d_C_keeping_16 rfl rfl rfl ?_)
      refine sm_callVi (ci := 0) (x := x0) (av := [.inl x1]) (st := [.inr (.inr x0)]) (mc := 0) (ms := 0) (pc' := 20) d_C_keeping_17 rfl (sd_C_keepingStatus x0 x1) m_lv rfl cv_C_keepingStatus w_ml_C_354 rfl rfl (by decide) (Nat.le_of_ble_eq_true rfl) rfl rfl (fun v4 => ?_)
      refine sm_goto (tgt := 24) d_C_keeping_20 rfl (sm_sub [0, 1] rfl ?_)
      exact sm_rt rfl
  · refine sm_putI (pc' := 27) d_C_keeping_24 rfl fl_C_9 (Or.inl rfl) rfl (sm_aload_n (i := 0) (j := 0) (pc' := 28) d_C_keeping_27 rfl rfl rfl ?_)
    refine sm_getI (pc' := 31) d_C_keeping_28 rfl fl_C_9 rfl ⟨by decide, by decide⟩ (fun v6 => ?_)
    refine sm_if_eq (tgt := 36) (pc' := 34) d_C_keeping_31 rfl rfl ?_ ?_
    · refine sm_aload_n (i := 0) (j := 0) (pc' := 37) d_C_keeping_36 rfl rfl rfl ?_
      refine sm_getR (pc' := 40) d_C_keeping_37 rfl fl_C_75 rfl rfl (fun v7 => ?_)
      refine sm_aload_n (i := 0) (j := 0) (pc' := 41) d_C_keeping_40 rfl rfl rfl ?_
      refine sm_getR (pc' := 44) d_C_keeping_41 rfl fl_C_37 rfl rfl (fun v8 => ?_)
      refine sm_iload_n (i := 1) (j := 1) (pc' := 45) d_C_keeping_44 rfl rfl rfl ?_
      refine sm_callVi (ci := 9) (x := v7) (av := [.inr (.inr v8), .inl x1]) (st := []) (mc := 0) (ms := 0) (pc' := 48) d_C_keeping_45 rfl (sd_Ke_leastLove v7 v8 x1) m_lv rfl cv_Ke_leastLove w_ml_C_357 rfl rfl (by decide) (Nat.le_of_ble_eq_true rfl) rfl rfl (fun v9 => ?_)
      exact sm_ireturn d_C_keeping_48 rfl rfl
    · refine sm_iconst (pc' := 35) d_C_keeping_34 rfl ic_m1 ?_
      exact sm_ireturn d_C_keeping_35 rfl rfl
theorem d_C_memberStatus_0 : m_D k_C_memberStatus 0 (.aload_n 0) 1 := (by decide +kernel : decode prog_1_method_58_code 0 = .ok (.aload_n 0, 1))
theorem d_C_memberStatus_1 : m_D k_C_memberStatus 1 (.iload_n 2) 1 := (by decide +kernel : decode prog_1_method_58_code 1 = .ok (.iload_n 2, 1))
theorem d_C_memberStatus_2 : m_D k_C_memberStatus 2 (.invokevirtual 209) 3 := (by decide +kernel : decode prog_1_method_58_code 2 = .ok (.invokevirtual 209, 3))
theorem d_C_memberStatus_5 : m_D k_C_memberStatus 5 (.ifCond .ne 7) 3 := (by decide +kernel : decode prog_1_method_58_code 5 = .ok (.ifCond .ne 7, 3))
theorem d_C_memberStatus_8 : m_D k_C_memberStatus 8 (.iconst 2) 1 := (by decide +kernel : decode prog_1_method_58_code 8 = .ok (.iconst 2, 1))
theorem d_C_memberStatus_9 : m_D k_C_memberStatus 9 (.goto 30) 3 := (by decide +kernel : decode prog_1_method_58_code 9 = .ok (.goto 30, 3))
theorem d_C_memberStatus_12 : m_D k_C_memberStatus 12 (.iload_n 1) 1 := (by decide +kernel : decode prog_1_method_58_code 12 = .ok (.iload_n 1, 1))
theorem d_C_memberStatus_13 : m_D k_C_memberStatus 13 (.aload_n 0) 1 := (by decide +kernel : decode prog_1_method_58_code 13 = .ok (.aload_n 0, 1))
theorem d_C_memberStatus_14 : m_D k_C_memberStatus 14 (.getfield 37) 3 := (by decide +kernel : decode prog_1_method_58_code 14 = .ok (.getfield 37, 3))
theorem d_C_memberStatus_17 : m_D k_C_memberStatus 17 (.getfield 175) 3 := (by decide +kernel : decode prog_1_method_58_code 17 = .ok (.getfield 175, 3))
theorem d_C_memberStatus_20 : m_D k_C_memberStatus 20 (.invokestatic 324) 3 := (by decide +kernel : decode prog_1_method_58_code 20 = .ok (.invokestatic 324, 3))
theorem d_C_memberStatus_23 : m_D k_C_memberStatus 23 (.ifCond .eq 11) 3 := (by decide +kernel : decode prog_1_method_58_code 23 = .ok (.ifCond .eq 11, 3))
theorem d_C_memberStatus_26 : m_D k_C_memberStatus 26 (.iload_n 1) 1 := (by decide +kernel : decode prog_1_method_58_code 26 = .ok (.iload_n 1, 1))
theorem d_C_memberStatus_27 : m_D k_C_memberStatus 27 (.iload_n 2) 1 := (by decide +kernel : decode prog_1_method_58_code 27 = .ok (.iload_n 2, 1))
theorem d_C_memberStatus_28 : m_D k_C_memberStatus 28 (.ishr) 1 := (by decide +kernel : decode prog_1_method_58_code 28 = .ok (.ishr, 1))
theorem d_C_memberStatus_29 : m_D k_C_memberStatus 29 (.iconst 1) 1 := (by decide +kernel : decode prog_1_method_58_code 29 = .ok (.iconst 1, 1))
theorem d_C_memberStatus_30 : m_D k_C_memberStatus 30 (.iand) 1 := (by decide +kernel : decode prog_1_method_58_code 30 = .ok (.iand, 1))
theorem d_C_memberStatus_31 : m_D k_C_memberStatus 31 (.ifCond .ne 7) 3 := (by decide +kernel : decode prog_1_method_58_code 31 = .ok (.ifCond .ne 7, 3))
theorem d_C_memberStatus_34 : m_D k_C_memberStatus 34 (.iconst 5) 1 := (by decide +kernel : decode prog_1_method_58_code 34 = .ok (.iconst 5, 1))
theorem d_C_memberStatus_35 : m_D k_C_memberStatus 35 (.goto 4) 3 := (by decide +kernel : decode prog_1_method_58_code 35 = .ok (.goto 4, 3))
theorem d_C_memberStatus_38 : m_D k_C_memberStatus 38 (.iconst 0) 1 := (by decide +kernel : decode prog_1_method_58_code 38 = .ok (.iconst 0, 1))
theorem d_C_memberStatus_39 : m_D k_C_memberStatus 39 (.ireturn) 1 := (by decide +kernel : decode prog_1_method_58_code 39 = .ok (.ireturn, 1))
def fn_C_memberStatus (x0 : Option mA) (x1 : Int32) (x2 : Int32) : mP Int32 :=
  m_th 0 x0 <|
  m_bd (fn_C_isPerson x0 x2) fun v1 =>
  if v1 = 0 then
    m_rt 2
  else
    m_bd (m_gR 0 5 x0) fun v2 =>
    m_bd (m_gI 3 0 v2) fun v3 =>
    m_bd (fn_C_isSet x1 v3) fun v4 =>
    if v4 = 0 then
      m_rt 5
    else
      if ((x1 >>> (x2 &&& 31)) &&& 1) = 0 then
        m_rt 5
      else
        m_rt 0
set_option maxHeartbeats 4000000 in
set_option maxRecDepth 100000 in
theorem sd_C_memberStatus (x0 : Option mA) (x1 : Int32) (x2 : Int32) : m_Sm k_C_memberStatus 2 0 0 [.inr (.inr x0), .inl x1, .inl x2] (fn_C_memberStatus x0 x1 x2) (fun b => some (.inl b)) := by
  refine ⟨Nat.le_of_ble_eq_true rfl, ?_⟩
  refine sm_th ?_
  refine sm_aload_n (i := 0) (j := 0) (pc' := 1) d_C_memberStatus_0 rfl rfl rfl (sm_iload_n (i := 2) (j := 2) (pc' := 2) d_C_memberStatus_1 rfl rfl rfl ?_)
  refine sm_callVi (ci := 0) (x := x0) (av := [.inl x2]) (st := []) (mc := 0) (ms := 0) (pc' := 5) d_C_memberStatus_2 rfl (sd_C_isPerson x0 x2) m_lv rfl cv_C_isPerson w_ml_C_209 rfl rfl (by decide) (Nat.le_of_ble_eq_true rfl) rfl rfl (fun v1 => ?_)
  refine sm_if_ne (tgt := 12) (pc' := 8) d_C_memberStatus_5 rfl rfl ?_ ?_
  · refine sm_iload_n (i := 1) (j := 1) (pc' := 13) d_C_memberStatus_12 rfl rfl rfl (sm_aload_n (i := 0) (j := 0) (pc' := 14) d_C_memberStatus_13 rfl rfl rfl ?_)
    refine sm_getR (pc' := 17) d_C_memberStatus_14 rfl fl_C_37 rfl rfl (fun v2 => ?_)
    refine sm_getI (pc' := 20) d_C_memberStatus_17 rfl fl_C_175 rfl ⟨by decide, by decide⟩ (fun v3 => ?_)
    refine sm_callSi (av := [.inl x1, .inl v3]) (st := []) (mc := 0) (ms := 0) (pc' := 23) d_C_memberStatus_20 rfl (sd_C_isSet x1 v3) cs_C_isSet w_ml_C_324 rfl rfl (by decide) (Nat.le_of_ble_eq_true rfl) rfl rfl (fun v4 => ?_)
    refine sm_if_eq (tgt := 34) (pc' := 26) d_C_memberStatus_23 rfl rfl ?_ ?_
    · refine sm_iconst (pc' := 35) d_C_memberStatus_34 rfl ic_5 (sm_goto (tgt := 39) d_C_memberStatus_35 rfl ?_)
      exact sm_ireturn d_C_memberStatus_39 rfl rfl
    · refine sm_iload_n (i := 1) (j := 1) (pc' := 27) d_C_memberStatus_26 rfl rfl rfl (sm_iload_n (i := 2) (j := 2) (pc' := 28) d_C_memberStatus_27 rfl rfl rfl (sm_ishr (pc' := 29) d_C_memberStatus_28 rfl (sm_iconst (pc' := 30) d_C_memberStatus_29 rfl ic_1 (sm_iand (pc' := 31) d_C_memberStatus_30 rfl ?_))))
      refine sm_if_ne (tgt := 38) (pc' := 34) d_C_memberStatus_31 rfl rfl ?_ ?_
      · refine sm_iconst (pc' := 39) d_C_memberStatus_38 rfl ic_0 ?_
        exact sm_ireturn d_C_memberStatus_39 rfl rfl
      · refine sm_iconst (pc' := 35) d_C_memberStatus_34 rfl ic_5 (sm_goto (tgt := 39) d_C_memberStatus_35 rfl ?_)
        exact sm_ireturn d_C_memberStatus_39 rfl rfl
  · refine sm_iconst (pc' := 9) d_C_memberStatus_8 rfl ic_2 (sm_goto (tgt := 39) d_C_memberStatus_9 rfl ?_)
    exact sm_ireturn d_C_memberStatus_39 rfl rfl
theorem d_Ke_firstLeast_0 : m_D k_Ke_firstLeast 0 (.iconst 0) 1 := (by decide +kernel : decode prog_5_method_8_code 0 = .ok (.iconst 0, 1))
theorem d_Ke_firstLeast_1 : m_D k_Ke_firstLeast 1 (.istore 4) 2 := (by decide +kernel : decode prog_5_method_8_code 1 = .ok (.istore 4, 2))
theorem d_Ke_firstLeast_3 : m_D k_Ke_firstLeast 3 (.iload 4) 2 := (by decide +kernel : decode prog_5_method_8_code 3 = .ok (.iload 4, 2))
theorem d_Ke_firstLeast_5 : m_D k_Ke_firstLeast 5 (.aload_n 1) 1 := (by decide +kernel : decode prog_5_method_8_code 5 = .ok (.aload_n 1, 1))
theorem d_Ke_firstLeast_6 : m_D k_Ke_firstLeast 6 (.getfield 46) 3 := (by decide +kernel : decode prog_5_method_8_code 6 = .ok (.getfield 46, 3))
theorem d_Ke_firstLeast_9 : m_D k_Ke_firstLeast 9 (.if_icmp .ge 40) 3 := (by decide +kernel : decode prog_5_method_8_code 9 = .ok (.if_icmp .ge 40, 3))
theorem d_Ke_firstLeast_12 : m_D k_Ke_firstLeast 12 (.aload_n 1) 1 := (by decide +kernel : decode prog_5_method_8_code 12 = .ok (.aload_n 1, 1))
theorem d_Ke_firstLeast_13 : m_D k_Ke_firstLeast 13 (.iload 4) 2 := (by decide +kernel : decode prog_5_method_8_code 13 = .ok (.iload 4, 2))
theorem d_Ke_firstLeast_15 : m_D k_Ke_firstLeast 15 (.iload_n 3) 1 := (by decide +kernel : decode prog_5_method_8_code 15 = .ok (.iload_n 3, 1))
theorem d_Ke_firstLeast_16 : m_D k_Ke_firstLeast 16 (.invokestatic 60) 3 := (by decide +kernel : decode prog_5_method_8_code 16 = .ok (.invokestatic 60, 3))
theorem d_Ke_firstLeast_19 : m_D k_Ke_firstLeast 19 (.ifCond .eq 24) 3 := (by decide +kernel : decode prog_5_method_8_code 19 = .ok (.ifCond .eq 24, 3))
theorem d_Ke_firstLeast_22 : m_D k_Ke_firstLeast 22 (.aload_n 0) 1 := (by decide +kernel : decode prog_5_method_8_code 22 = .ok (.aload_n 0, 1))
theorem d_Ke_firstLeast_23 : m_D k_Ke_firstLeast 23 (.aload_n 1) 1 := (by decide +kernel : decode prog_5_method_8_code 23 = .ok (.aload_n 1, 1))
theorem d_Ke_firstLeast_24 : m_D k_Ke_firstLeast 24 (.iload_n 2) 1 := (by decide +kernel : decode prog_5_method_8_code 24 = .ok (.iload_n 2, 1))
theorem d_Ke_firstLeast_25 : m_D k_Ke_firstLeast 25 (.iload 4) 2 := (by decide +kernel : decode prog_5_method_8_code 25 = .ok (.iload 4, 2))
theorem d_Ke_firstLeast_27 : m_D k_Ke_firstLeast 27 (.iload_n 3) 1 := (by decide +kernel : decode prog_5_method_8_code 27 = .ok (.iload_n 3, 1))
theorem d_Ke_firstLeast_28 : m_D k_Ke_firstLeast 28 (.invokevirtual 64) 3 := (by decide +kernel : decode prog_5_method_8_code 28 = .ok (.invokevirtual 64, 3))
theorem d_Ke_firstLeast_31 : m_D k_Ke_firstLeast 31 (.aload_n 0) 1 := (by decide +kernel : decode prog_5_method_8_code 31 = .ok (.aload_n 0, 1))
theorem d_Ke_firstLeast_32 : m_D k_Ke_firstLeast 32 (.getfield 24) 3 := (by decide +kernel : decode prog_5_method_8_code 32 = .ok (.getfield 24, 3))
theorem d_Ke_firstLeast_35 : m_D k_Ke_firstLeast 35 (.iload_n 3) 1 := (by decide +kernel : decode prog_5_method_8_code 35 = .ok (.iload_n 3, 1))
theorem d_Ke_firstLeast_36 : m_D k_Ke_firstLeast 36 (.iaload) 1 := (by decide +kernel : decode prog_5_method_8_code 36 = .ok (.iaload, 1))
theorem d_Ke_firstLeast_37 : m_D k_Ke_firstLeast 37 (.if_icmp .ne 6) 3 := (by decide +kernel : decode prog_5_method_8_code 37 = .ok (.if_icmp .ne 6, 3))
theorem d_Ke_firstLeast_40 : m_D k_Ke_firstLeast 40 (.iload 4) 2 := (by decide +kernel : decode prog_5_method_8_code 40 = .ok (.iload 4, 2))
theorem d_Ke_firstLeast_42 : m_D k_Ke_firstLeast 42 (.ireturn) 1 := (by decide +kernel : decode prog_5_method_8_code 42 = .ok (.ireturn, 1))
theorem d_Ke_firstLeast_43 : m_D k_Ke_firstLeast 43 (.iinc 4 1) 3 := (by decide +kernel : decode prog_5_method_8_code 43 = .ok (.iinc 4 1, 3))
theorem d_Ke_firstLeast_46 : m_D k_Ke_firstLeast 46 (.goto (-43)) 3 := (by decide +kernel : decode prog_5_method_8_code 46 = .ok (.goto (-43), 3))
theorem d_Ke_firstLeast_49 : m_D k_Ke_firstLeast 49 (.iconst (-1)) 1 := (by decide +kernel : decode prog_5_method_8_code 49 = .ok (.iconst (-1), 1))
theorem d_Ke_firstLeast_50 : m_D k_Ke_firstLeast 50 (.ireturn) 1 := (by decide +kernel : decode prog_5_method_8_code 50 = .ok (.ireturn, 1))
def fn_Ke_firstLeast_l3 (x0 : Option mA) (x1 : Option mA) (x2 : Int32) (x3 : Int32) (t1 : Int32) : mP ((Int32) ⊕ (Int32)) :=
  m_bd (m_gI 3 1 x1) fun v2 =>
  if v2 ≤ t1 then
    m_rt (.inr (-1))
  else
    m_bd (fn_Ke_isFree x1 t1 x3) fun v3 =>
    if v3 = 0 then
      m_rt (.inl (t1 + 1))
    else
      m_bd (fn_Ke_loveAndBehind x0 x1 x2 t1 x3) fun v4 =>
      m_bd (m_gR 9 5 x0) fun v5 =>
      m_bd (m_aI 0 v5 x3) fun v6 =>
      if v4 = v6 then
        m_rt (.inr t1)
      else
        m_rt (.inl (t1 + 1))
def fn_Ke_firstLeast (x0 : Option mA) (x1 : Option mA) (x2 : Int32) (x3 : Int32) : mP Int32 :=
  m_th 9 x0 <|
  m_lp (fn_Ke_firstLeast_l3 x0 x1 x2 x3) m_F 0
set_option maxHeartbeats 4000000 in
set_option maxRecDepth 100000 in
theorem sd_Ke_firstLeast (x0 : Option mA) (x1 : Option mA) (x2 : Int32) (x3 : Int32) : m_Sm k_Ke_firstLeast 3 0 0 [.inr (.inr x0), .inr (.inr x1), .inl x2, .inl x3] (fn_Ke_firstLeast x0 x1 x2 x3) (fun b => some (.inl b)) := by
  refine ⟨Nat.le_of_ble_eq_true rfl, ?_⟩
  refine sm_th ?_
  refine sm_iconst (pc' := 1) d_Ke_firstLeast_0 rfl ic_0 (sm_istore (L' := [(4, .inl 0), (0, .inr (.inr x0)), (1, .inr (.inr x1)), (2, .inl x2), (3, .inl x3)]) (pc' := 3) d_Ke_firstLeast_1 rfl (Nat.le_of_ble_eq_true rfl) rfl ?_)
  refine sm_sub [0, 1, 2, 3, 4] rfl ?_
  refine sm_lp (hd := fun (t1 : Int32) => (.inl (3, [(4, .inl t1), (0, .inr (.inr x0)), (1, .inr (.inr x1)), (2, .inl x2), (3, .inl x3)], []) : mC)) (fun t1 => ?_) m_F 0
  refine sm_iload (j := 0) (pc' := 5) d_Ke_firstLeast_3 rfl rfl (sm_aload_n (i := 1) (j := 2) (pc' := 6) d_Ke_firstLeast_5 rfl rfl rfl ?_)
  refine sm_getI (pc' := 9) d_Ke_firstLeast_6 rfl fl_Ke_46 rfl ⟨by decide, by decide⟩ (fun v2 => ?_)
  refine sm_icmp_ge (tgt := 49) (pc' := 12) d_Ke_firstLeast_9 rfl rfl ?_ ?_
  · refine sm_iconst (pc' := 50) d_Ke_firstLeast_49 rfl ic_m1 ?_
    exact sm_ireturn d_Ke_firstLeast_50 rfl rfl
  · refine sm_aload_n (i := 1) (j := 2) (pc' := 13) d_Ke_firstLeast_12 rfl rfl rfl (sm_iload (j := 0) (pc' := 15) d_Ke_firstLeast_13 rfl rfl (sm_iload_n (i := 3) (j := 4) (pc' := 16) d_Ke_firstLeast_15 rfl rfl rfl ?_))
    refine sm_callSi (av := [.inr (.inr x1), .inl t1, .inl x3]) (st := []) (mc := 0) (ms := 0) (pc' := 19) d_Ke_firstLeast_16 rfl (sd_Ke_isFree x1 t1 x3) cs_Ke_isFree w_ml_Ke_60 rfl rfl (by decide) (Nat.le_of_ble_eq_true rfl) rfl rfl (fun v3 => ?_)
    refine sm_if_eq (tgt := 43) (pc' := 22) d_Ke_firstLeast_19 rfl rfl ?_ ?_
    · refine sm_iinc (j := 0) (L' := [(4, .inl (t1 + 1)), (0, .inr (.inr x0)), (1, .inr (.inr x1)), (2, .inl x2), (3, .inl x3)]) (pc' := 46) d_Ke_firstLeast_43 rfl (v := (t1 + 1)) rfl (ix_1 _) (Nat.le_of_ble_eq_true rfl) rfl (sm_goto (tgt := 3) d_Ke_firstLeast_46 rfl (sm_sub [0, 1, 2, 3, 4] rfl ?_))
      exact sm_rt rfl
    · refine sm_aload_n (i := 0) (j := 1) (pc' := 23) d_Ke_firstLeast_22 rfl rfl rfl (sm_aload_n (i := 1) (j := 2) (pc' := 24) d_Ke_firstLeast_23 rfl rfl rfl (sm_iload_n (i := 2) (j := 3) (pc' := 25) d_Ke_firstLeast_24 rfl rfl rfl (sm_iload (j := 0) (pc' := 27) d_Ke_firstLeast_25 rfl rfl (sm_iload_n (i := 3) (j := 4) (pc' := 28) d_Ke_firstLeast_27 rfl rfl rfl ?_))))
      refine sm_callVi (ci := 9) (x := x0) (av := [.inr (.inr x1), .inl x2, .inl t1, .inl x3]) (st := []) (mc := 0) (ms := 0) (pc' := 31) d_Ke_firstLeast_28 rfl (sd_Ke_loveAndBehind x0 x1 x2 t1 x3) m_lv rfl cv_Ke_loveAndBehind w_ml_Ke_64 rfl rfl (by decide) (Nat.le_of_ble_eq_true rfl) rfl rfl (fun v4 => ?_)
      refine sm_aload_n (i := 0) (j := 1) (pc' := 32) d_Ke_firstLeast_31 rfl rfl rfl ?_
      refine sm_getR (pc' := 35) d_Ke_firstLeast_32 rfl fl_Ke_24 rfl rfl (fun v5 => ?_)
      refine sm_iload_n (i := 3) (j := 4) (pc' := 36) d_Ke_firstLeast_35 rfl rfl rfl ?_
      refine sm_iald (pc' := 37) d_Ke_firstLeast_36 rfl (fun v6 => ?_)
      refine sm_icmp_ne (tgt := 43) (pc' := 40) d_Ke_firstLeast_37 rfl rfl ?_ ?_
      · refine sm_iinc (j := 0) (L' := [(4, .inl (t1 + 1)), (0, .inr (.inr x0)), (1, .inr (.inr x1)), (2, .inl x2), (3, .inl x3)]) (pc' := 46) d_Ke_firstLeast_43 rfl (v := (t1 + 1)) rfl (ix_1 _) (Nat.le_of_ble_eq_true rfl) rfl (sm_goto (tgt := 3) d_Ke_firstLeast_46 rfl (sm_sub [0, 1, 2, 3, 4] rfl ?_))
        exact sm_rt rfl
      · refine sm_iload (j := 0) (pc' := 42) d_Ke_firstLeast_40 rfl rfl ?_
        exact sm_ireturn d_Ke_firstLeast_42 rfl rfl
theorem d_Ke_cheapestOf_0 : m_D k_Ke_cheapestOf 0 (.iconst 0) 1 := (by decide +kernel : decode prog_5_method_7_code 0 = .ok (.iconst 0, 1))
theorem d_Ke_cheapestOf_1 : m_D k_Ke_cheapestOf 1 (.istore_n 3) 1 := (by decide +kernel : decode prog_5_method_7_code 1 = .ok (.istore_n 3, 1))
theorem d_Ke_cheapestOf_2 : m_D k_Ke_cheapestOf 2 (.iconst 0) 1 := (by decide +kernel : decode prog_5_method_7_code 2 = .ok (.iconst 0, 1))
theorem d_Ke_cheapestOf_3 : m_D k_Ke_cheapestOf 3 (.istore 4) 2 := (by decide +kernel : decode prog_5_method_7_code 3 = .ok (.istore 4, 2))
theorem d_Ke_cheapestOf_5 : m_D k_Ke_cheapestOf 5 (.iload 4) 2 := (by decide +kernel : decode prog_5_method_7_code 5 = .ok (.iload 4, 2))
theorem d_Ke_cheapestOf_7 : m_D k_Ke_cheapestOf 7 (.aload_n 0) 1 := (by decide +kernel : decode prog_5_method_7_code 7 = .ok (.aload_n 0, 1))
theorem d_Ke_cheapestOf_8 : m_D k_Ke_cheapestOf 8 (.getfield 27) 3 := (by decide +kernel : decode prog_5_method_7_code 8 = .ok (.getfield 27, 3))
theorem d_Ke_cheapestOf_11 : m_D k_Ke_cheapestOf 11 (.if_icmp .ge 51) 3 := (by decide +kernel : decode prog_5_method_7_code 11 = .ok (.if_icmp .ge 51, 3))
theorem d_Ke_cheapestOf_14 : m_D k_Ke_cheapestOf 14 (.aload_n 0) 1 := (by decide +kernel : decode prog_5_method_7_code 14 = .ok (.aload_n 0, 1))
theorem d_Ke_cheapestOf_15 : m_D k_Ke_cheapestOf 15 (.aload_n 1) 1 := (by decide +kernel : decode prog_5_method_7_code 15 = .ok (.aload_n 1, 1))
theorem d_Ke_cheapestOf_16 : m_D k_Ke_cheapestOf 16 (.aload_n 0) 1 := (by decide +kernel : decode prog_5_method_7_code 16 = .ok (.aload_n 0, 1))
theorem d_Ke_cheapestOf_17 : m_D k_Ke_cheapestOf 17 (.getfield 21) 3 := (by decide +kernel : decode prog_5_method_7_code 17 = .ok (.getfield 21, 3))
theorem d_Ke_cheapestOf_20 : m_D k_Ke_cheapestOf 20 (.iload 4) 2 := (by decide +kernel : decode prog_5_method_7_code 20 = .ok (.iload 4, 2))
theorem d_Ke_cheapestOf_22 : m_D k_Ke_cheapestOf 22 (.iaload) 1 := (by decide +kernel : decode prog_5_method_7_code 22 = .ok (.iaload, 1))
theorem d_Ke_cheapestOf_23 : m_D k_Ke_cheapestOf 23 (.iload_n 3) 1 := (by decide +kernel : decode prog_5_method_7_code 23 = .ok (.iload_n 3, 1))
theorem d_Ke_cheapestOf_24 : m_D k_Ke_cheapestOf 24 (.invokevirtual 93) 3 := (by decide +kernel : decode prog_5_method_7_code 24 = .ok (.invokevirtual 93, 3))
theorem d_Ke_cheapestOf_27 : m_D k_Ke_cheapestOf 27 (.istore 5) 2 := (by decide +kernel : decode prog_5_method_7_code 27 = .ok (.istore 5, 2))
theorem d_Ke_cheapestOf_29 : m_D k_Ke_cheapestOf 29 (.iload 5) 2 := (by decide +kernel : decode prog_5_method_7_code 29 = .ok (.iload 5, 2))
theorem d_Ke_cheapestOf_31 : m_D k_Ke_cheapestOf 31 (.iconst (-1)) 1 := (by decide +kernel : decode prog_5_method_7_code 31 = .ok (.iconst (-1), 1))
theorem d_Ke_cheapestOf_32 : m_D k_Ke_cheapestOf 32 (.if_icmp .eq 14) 3 := (by decide +kernel : decode prog_5_method_7_code 32 = .ok (.if_icmp .eq 14, 3))
theorem d_Ke_cheapestOf_35 : m_D k_Ke_cheapestOf 35 (.aload_n 0) 1 := (by decide +kernel : decode prog_5_method_7_code 35 = .ok (.aload_n 0, 1))
theorem d_Ke_cheapestOf_36 : m_D k_Ke_cheapestOf 36 (.getfield 21) 3 := (by decide +kernel : decode prog_5_method_7_code 36 = .ok (.getfield 21, 3))
theorem d_Ke_cheapestOf_39 : m_D k_Ke_cheapestOf 39 (.iload 4) 2 := (by decide +kernel : decode prog_5_method_7_code 39 = .ok (.iload 4, 2))
theorem d_Ke_cheapestOf_41 : m_D k_Ke_cheapestOf 41 (.iaload) 1 := (by decide +kernel : decode prog_5_method_7_code 41 = .ok (.iaload, 1))
theorem d_Ke_cheapestOf_42 : m_D k_Ke_cheapestOf 42 (.iload_n 2) 1 := (by decide +kernel : decode prog_5_method_7_code 42 = .ok (.iload_n 2, 1))
theorem d_Ke_cheapestOf_43 : m_D k_Ke_cheapestOf 43 (.if_icmp .ne 6) 3 := (by decide +kernel : decode prog_5_method_7_code 43 = .ok (.if_icmp .ne 6, 3))
theorem d_Ke_cheapestOf_46 : m_D k_Ke_cheapestOf 46 (.iload 5) 2 := (by decide +kernel : decode prog_5_method_7_code 46 = .ok (.iload 5, 2))
theorem d_Ke_cheapestOf_48 : m_D k_Ke_cheapestOf 48 (.ireturn) 1 := (by decide +kernel : decode prog_5_method_7_code 48 = .ok (.ireturn, 1))
theorem d_Ke_cheapestOf_49 : m_D k_Ke_cheapestOf 49 (.iload_n 3) 1 := (by decide +kernel : decode prog_5_method_7_code 49 = .ok (.iload_n 3, 1))
theorem d_Ke_cheapestOf_50 : m_D k_Ke_cheapestOf 50 (.iconst 1) 1 := (by decide +kernel : decode prog_5_method_7_code 50 = .ok (.iconst 1, 1))
theorem d_Ke_cheapestOf_51 : m_D k_Ke_cheapestOf 51 (.iload 5) 2 := (by decide +kernel : decode prog_5_method_7_code 51 = .ok (.iload 5, 2))
theorem d_Ke_cheapestOf_53 : m_D k_Ke_cheapestOf 53 (.ishl) 1 := (by decide +kernel : decode prog_5_method_7_code 53 = .ok (.ishl, 1))
theorem d_Ke_cheapestOf_54 : m_D k_Ke_cheapestOf 54 (.ior) 1 := (by decide +kernel : decode prog_5_method_7_code 54 = .ok (.ior, 1))
theorem d_Ke_cheapestOf_55 : m_D k_Ke_cheapestOf 55 (.istore_n 3) 1 := (by decide +kernel : decode prog_5_method_7_code 55 = .ok (.istore_n 3, 1))
theorem d_Ke_cheapestOf_56 : m_D k_Ke_cheapestOf 56 (.iinc 4 1) 3 := (by decide +kernel : decode prog_5_method_7_code 56 = .ok (.iinc 4 1, 3))
theorem d_Ke_cheapestOf_59 : m_D k_Ke_cheapestOf 59 (.goto (-54)) 3 := (by decide +kernel : decode prog_5_method_7_code 59 = .ok (.goto (-54), 3))
theorem d_Ke_cheapestOf_62 : m_D k_Ke_cheapestOf 62 (.iconst (-1)) 1 := (by decide +kernel : decode prog_5_method_7_code 62 = .ok (.iconst (-1), 1))
theorem d_Ke_cheapestOf_63 : m_D k_Ke_cheapestOf 63 (.ireturn) 1 := (by decide +kernel : decode prog_5_method_7_code 63 = .ok (.ireturn, 1))
def fn_Ke_cheapestOf_l5 (x0 : Option mA) (x1 : Option mA) (x2 : Int32) (t1 : Int32 × Int32) : mP ((Int32 × Int32) ⊕ (Int32)) :=
  m_bd (m_gI 9 4 x0) fun v2 =>
  if v2 ≤ t1.2 then
    m_rt (.inr (-1))
  else
    m_bd (m_gR 9 3 x0) fun v3 =>
    m_bd (m_aI 0 v3 t1.2) fun v4 =>
    m_bd (fn_Ke_firstLeast x0 x1 v4 t1.1) fun v5 =>
    if v5 = (-1) then
      m_rt (.inr v5)
    else
      m_bd (m_gR 9 3 x0) fun v6 =>
      m_bd (m_aI 0 v6 t1.2) fun v7 =>
      if v7 = x2 then
        m_rt (.inr v5)
      else
        m_rt (.inl ((t1.1 ||| (1 <<< (v5 &&& 31))), (t1.2 + 1)))
def fn_Ke_cheapestOf (x0 : Option mA) (x1 : Option mA) (x2 : Int32) : mP Int32 :=
  m_th 9 x0 <|
  m_lp (fn_Ke_cheapestOf_l5 x0 x1 x2) m_F (0, 0)
set_option maxHeartbeats 4000000 in
set_option maxRecDepth 100000 in
theorem sd_Ke_cheapestOf (x0 : Option mA) (x1 : Option mA) (x2 : Int32) : m_Sm k_Ke_cheapestOf 4 0 0 [.inr (.inr x0), .inr (.inr x1), .inl x2] (fn_Ke_cheapestOf x0 x1 x2) (fun b => some (.inl b)) := by
  refine ⟨Nat.le_of_ble_eq_true rfl, ?_⟩
  refine sm_th ?_
  refine sm_iconst (pc' := 1) d_Ke_cheapestOf_0 rfl ic_0 (sm_istore_n (i := 3) (L' := [(3, .inl 0), (0, .inr (.inr x0)), (1, .inr (.inr x1)), (2, .inl x2)]) (pc' := 2) d_Ke_cheapestOf_1 rfl rfl (Nat.le_of_ble_eq_true rfl) rfl (sm_iconst (pc' := 3) d_Ke_cheapestOf_2 rfl ic_0 (sm_istore (L' := [(4, .inl 0), (3, .inl 0), (0, .inr (.inr x0)), (1, .inr (.inr x1)), (2, .inl x2)]) (pc' := 5) d_Ke_cheapestOf_3 rfl (Nat.le_of_ble_eq_true rfl) rfl ?_)))
  refine sm_sub [1, 0, 2, 3, 4] rfl ?_
  refine sm_lp (hd := fun (t1 : Int32 × Int32) => (.inl (5, [(3, .inl t1.1), (4, .inl t1.2), (0, .inr (.inr x0)), (1, .inr (.inr x1)), (2, .inl x2)], []) : mC)) (fun t1 => ?_) m_F (0, 0)
  refine sm_iload (j := 1) (pc' := 7) d_Ke_cheapestOf_5 rfl rfl (sm_aload_n (i := 0) (j := 2) (pc' := 8) d_Ke_cheapestOf_7 rfl rfl rfl ?_)
  refine sm_getI (pc' := 11) d_Ke_cheapestOf_8 rfl fl_Ke_27 rfl ⟨by decide, by decide⟩ (fun v2 => ?_)
  refine sm_icmp_ge (tgt := 62) (pc' := 14) d_Ke_cheapestOf_11 rfl rfl ?_ ?_
  · refine sm_iconst (pc' := 63) d_Ke_cheapestOf_62 rfl ic_m1 ?_
    exact sm_ireturn d_Ke_cheapestOf_63 rfl rfl
  · refine sm_aload_n (i := 0) (j := 2) (pc' := 15) d_Ke_cheapestOf_14 rfl rfl rfl (sm_aload_n (i := 1) (j := 3) (pc' := 16) d_Ke_cheapestOf_15 rfl rfl rfl (sm_aload_n (i := 0) (j := 2) (pc' := 17) d_Ke_cheapestOf_16 rfl rfl rfl ?_))
    refine sm_getR (pc' := 20) d_Ke_cheapestOf_17 rfl fl_Ke_21 rfl rfl (fun v3 => ?_)
    refine sm_iload (j := 1) (pc' := 22) d_Ke_cheapestOf_20 rfl rfl ?_
    refine sm_iald (pc' := 23) d_Ke_cheapestOf_22 rfl (fun v4 => ?_)
    refine sm_iload_n (i := 3) (j := 0) (pc' := 24) d_Ke_cheapestOf_23 rfl rfl rfl ?_
    refine sm_callVi (ci := 9) (x := x0) (av := [.inr (.inr x1), .inl v4, .inl t1.1]) (st := []) (mc := 0) (ms := 0) (pc' := 27) d_Ke_cheapestOf_24 rfl (sd_Ke_firstLeast x0 x1 v4 t1.1) m_lv rfl cv_Ke_firstLeast w_ml_Ke_93 rfl rfl (by decide) (Nat.le_of_ble_eq_true rfl) rfl rfl (fun v5 => ?_)
    refine sm_istore (L' := [(5, .inl v5), (3, .inl t1.1), (4, .inl t1.2), (0, .inr (.inr x0)), (1, .inr (.inr x1)), (2, .inl x2)]) (pc' := 29) d_Ke_cheapestOf_27 rfl (Nat.le_of_ble_eq_true rfl) rfl (sm_iload (j := 0) (pc' := 31) d_Ke_cheapestOf_29 rfl rfl (sm_iconst (pc' := 32) d_Ke_cheapestOf_31 rfl ic_m1 ?_))
    refine sm_icmp_eq (tgt := 46) (pc' := 35) d_Ke_cheapestOf_32 rfl rfl ?_ ?_
    · refine sm_iload (j := 0) (pc' := 48) d_Ke_cheapestOf_46 rfl rfl ?_
      exact sm_ireturn d_Ke_cheapestOf_48 rfl rfl
    · refine sm_aload_n (i := 0) (j := 3) (pc' := 36) d_Ke_cheapestOf_35 rfl rfl rfl ?_
      refine sm_getR (pc' := 39) d_Ke_cheapestOf_36 rfl fl_Ke_21 rfl rfl (fun v6 => ?_)
      refine sm_iload (j := 2) (pc' := 41) d_Ke_cheapestOf_39 rfl rfl ?_
      refine sm_iald (pc' := 42) d_Ke_cheapestOf_41 rfl (fun v7 => ?_)
      refine sm_iload_n (i := 2) (j := 5) (pc' := 43) d_Ke_cheapestOf_42 rfl rfl rfl ?_
      refine sm_icmp_ne (tgt := 49) (pc' := 46) d_Ke_cheapestOf_43 rfl rfl ?_ ?_
      · refine sm_iload_n (i := 3) (j := 1) (pc' := 50) d_Ke_cheapestOf_49 rfl rfl rfl (sm_iconst (pc' := 51) d_Ke_cheapestOf_50 rfl ic_1 (sm_iload (j := 0) (pc' := 53) d_Ke_cheapestOf_51 rfl rfl (sm_ishl (pc' := 54) d_Ke_cheapestOf_53 rfl (sm_ior (pc' := 55) d_Ke_cheapestOf_54 rfl (sm_istore_n (i := 3) (L' := [(3, .inl (t1.1 ||| (1 <<< (v5 &&& 31)))), (5, .inl v5), (4, .inl t1.2), (0, .inr (.inr x0)), (1, .inr (.inr x1)), (2, .inl x2)]) (pc' := 56) d_Ke_cheapestOf_55 rfl rfl (Nat.le_of_ble_eq_true rfl) rfl (sm_iinc (j := 2) (L' := [(4, .inl (t1.2 + 1)), (3, .inl (t1.1 ||| (1 <<< (v5 &&& 31)))), (5, .inl v5), (0, .inr (.inr x0)), (1, .inr (.inr x1)), (2, .inl x2)]) (pc' := 59) d_Ke_cheapestOf_56 rfl (v := (t1.2 + 1)) rfl (ix_1 _) (Nat.le_of_ble_eq_true rfl) rfl (sm_goto (tgt := 5) d_Ke_cheapestOf_59 rfl (sm_sub [1, 0, 3, 4, 5] rfl ?_))))))))
        exact sm_rt rfl
      · refine sm_iload (j := 0) (pc' := 48) d_Ke_cheapestOf_46 rfl rfl ?_
        exact sm_ireturn d_Ke_cheapestOf_48 rfl rfl
theorem d_C_keeps_0 : m_D k_C_keeps 0 (.aload_n 0) 1 := (by decide +kernel : decode prog_1_method_55_code 0 = .ok (.aload_n 0, 1))
theorem d_C_keeps_1 : m_D k_C_keeps 1 (.iload_n 1) 1 := (by decide +kernel : decode prog_1_method_55_code 1 = .ok (.iload_n 1, 1))
theorem d_C_keeps_2 : m_D k_C_keeps 2 (.iload_n 2) 1 := (by decide +kernel : decode prog_1_method_55_code 2 = .ok (.iload_n 2, 1))
theorem d_C_keeps_3 : m_D k_C_keeps 3 (.invokevirtual 361) 3 := (by decide +kernel : decode prog_1_method_55_code 3 = .ok (.invokevirtual 361, 3))
theorem d_C_keeps_6 : m_D k_C_keeps 6 (.istore_n 3) 1 := (by decide +kernel : decode prog_1_method_55_code 6 = .ok (.istore_n 3, 1))
theorem d_C_keeps_7 : m_D k_C_keeps 7 (.aload_n 0) 1 := (by decide +kernel : decode prog_1_method_55_code 7 = .ok (.aload_n 0, 1))
theorem d_C_keeps_8 : m_D k_C_keeps 8 (.iload_n 3) 1 := (by decide +kernel : decode prog_1_method_55_code 8 = .ok (.iload_n 3, 1))
theorem d_C_keeps_9 : m_D k_C_keeps 9 (.ifCond .eq 7) 3 := (by decide +kernel : decode prog_1_method_55_code 9 = .ok (.ifCond .eq 7, 3))
theorem d_C_keeps_12 : m_D k_C_keeps 12 (.iload_n 3) 1 := (by decide +kernel : decode prog_1_method_55_code 12 = .ok (.iload_n 3, 1))
theorem d_C_keeps_13 : m_D k_C_keeps 13 (.goto 8) 3 := (by decide +kernel : decode prog_1_method_55_code 13 = .ok (.goto 8, 3))
theorem d_C_keeps_16 : m_D k_C_keeps 16 (.aload_n 0) 1 := (by decide +kernel : decode prog_1_method_55_code 16 = .ok (.aload_n 0, 1))
theorem d_C_keeps_17 : m_D k_C_keeps 17 (.iload_n 1) 1 := (by decide +kernel : decode prog_1_method_55_code 17 = .ok (.iload_n 1, 1))
theorem d_C_keeps_18 : m_D k_C_keeps 18 (.invokevirtual 354) 3 := (by decide +kernel : decode prog_1_method_55_code 18 = .ok (.invokevirtual 354, 3))
theorem d_C_keeps_21 : m_D k_C_keeps 21 (.putfield 9) 3 := (by decide +kernel : decode prog_1_method_55_code 21 = .ok (.putfield 9, 3))
theorem d_C_keeps_24 : m_D k_C_keeps 24 (.aload_n 0) 1 := (by decide +kernel : decode prog_1_method_55_code 24 = .ok (.aload_n 0, 1))
theorem d_C_keeps_25 : m_D k_C_keeps 25 (.getfield 9) 3 := (by decide +kernel : decode prog_1_method_55_code 25 = .ok (.getfield 9, 3))
theorem d_C_keeps_28 : m_D k_C_keeps 28 (.ifCond .eq 5) 3 := (by decide +kernel : decode prog_1_method_55_code 28 = .ok (.ifCond .eq 5, 3))
theorem d_C_keeps_31 : m_D k_C_keeps 31 (.iconst (-1)) 1 := (by decide +kernel : decode prog_1_method_55_code 31 = .ok (.iconst (-1), 1))
theorem d_C_keeps_32 : m_D k_C_keeps 32 (.ireturn) 1 := (by decide +kernel : decode prog_1_method_55_code 32 = .ok (.ireturn, 1))
theorem d_C_keeps_33 : m_D k_C_keeps 33 (.aload_n 0) 1 := (by decide +kernel : decode prog_1_method_55_code 33 = .ok (.aload_n 0, 1))
theorem d_C_keeps_34 : m_D k_C_keeps 34 (.getfield 75) 3 := (by decide +kernel : decode prog_1_method_55_code 34 = .ok (.getfield 75, 3))
theorem d_C_keeps_37 : m_D k_C_keeps 37 (.aload_n 0) 1 := (by decide +kernel : decode prog_1_method_55_code 37 = .ok (.aload_n 0, 1))
theorem d_C_keeps_38 : m_D k_C_keeps 38 (.getfield 37) 3 := (by decide +kernel : decode prog_1_method_55_code 38 = .ok (.getfield 37, 3))
theorem d_C_keeps_41 : m_D k_C_keeps 41 (.iload_n 1) 1 := (by decide +kernel : decode prog_1_method_55_code 41 = .ok (.iload_n 1, 1))
theorem d_C_keeps_42 : m_D k_C_keeps 42 (.invokevirtual 357) 3 := (by decide +kernel : decode prog_1_method_55_code 42 = .ok (.invokevirtual 357, 3))
theorem d_C_keeps_45 : m_D k_C_keeps 45 (.pop) 1 := (by decide +kernel : decode prog_1_method_55_code 45 = .ok (.pop, 1))
theorem d_C_keeps_46 : m_D k_C_keeps 46 (.aload_n 0) 1 := (by decide +kernel : decode prog_1_method_55_code 46 = .ok (.aload_n 0, 1))
theorem d_C_keeps_47 : m_D k_C_keeps 47 (.getfield 75) 3 := (by decide +kernel : decode prog_1_method_55_code 47 = .ok (.getfield 75, 3))
theorem d_C_keeps_50 : m_D k_C_keeps 50 (.aload_n 0) 1 := (by decide +kernel : decode prog_1_method_55_code 50 = .ok (.aload_n 0, 1))
theorem d_C_keeps_51 : m_D k_C_keeps 51 (.getfield 37) 3 := (by decide +kernel : decode prog_1_method_55_code 51 = .ok (.getfield 37, 3))
theorem d_C_keeps_54 : m_D k_C_keeps 54 (.iload_n 2) 1 := (by decide +kernel : decode prog_1_method_55_code 54 = .ok (.iload_n 2, 1))
theorem d_C_keeps_55 : m_D k_C_keeps 55 (.invokevirtual 364) 3 := (by decide +kernel : decode prog_1_method_55_code 55 = .ok (.invokevirtual 364, 3))
theorem d_C_keeps_58 : m_D k_C_keeps 58 (.ireturn) 1 := (by decide +kernel : decode prog_1_method_55_code 58 = .ok (.ireturn, 1))
def fn_C_keeps (x0 : Option mA) (x1 : Int32) (x2 : Int32) : mP Int32 :=
  m_th 0 x0 <|
  m_bd (fn_C_memberStatus x0 x1 x2) fun v1 =>
  m_bd (α := Int32) (
    if v1 = 0 then
      m_bd (fn_C_keepingStatus x0 x1) fun v2 =>
      m_rt v2
    else
      m_rt v1
    ) fun (t3 : Int32) =>
  m_bd (m_pI 0 0 x0 t3) fun _ =>
  m_bd (m_gI 0 0 x0) fun v4 =>
  if v4 = 0 then
    m_bd (m_gR 0 12 x0) fun v5 =>
    m_bd (m_gR 0 5 x0) fun v6 =>
    m_bd (fn_Ke_leastLove v5 v6 x1) fun v7 =>
    m_bd (m_gR 0 12 x0) fun v8 =>
    m_bd (m_gR 0 5 x0) fun v9 =>
    m_bd (fn_Ke_cheapestOf v8 v9 x2) fun v10 =>
    m_rt v10
  else
    m_rt (-1)
set_option maxHeartbeats 4000000 in
set_option maxRecDepth 100000 in
theorem sd_C_keeps (x0 : Option mA) (x1 : Int32) (x2 : Int32) : m_Sm k_C_keeps 5 0 0 [.inr (.inr x0), .inl x1, .inl x2] (fn_C_keeps x0 x1 x2) (fun b => some (.inl b)) := by
  refine ⟨Nat.le_of_ble_eq_true rfl, ?_⟩
  refine sm_th ?_
  refine sm_aload_n (i := 0) (j := 0) (pc' := 1) d_C_keeps_0 rfl rfl rfl (sm_iload_n (i := 1) (j := 1) (pc' := 2) d_C_keeps_1 rfl rfl rfl (sm_iload_n (i := 2) (j := 2) (pc' := 3) d_C_keeps_2 rfl rfl rfl ?_))
  refine sm_callVi (ci := 0) (x := x0) (av := [.inl x1, .inl x2]) (st := []) (mc := 0) (ms := 0) (pc' := 6) d_C_keeps_3 rfl (sd_C_memberStatus x0 x1 x2) m_lv rfl cv_C_memberStatus w_ml_C_361 rfl rfl (by decide) (Nat.le_of_ble_eq_true rfl) rfl rfl (fun v1 => ?_)
  refine sm_istore_n (i := 3) (L' := [(3, .inl v1), (0, .inr (.inr x0)), (1, .inl x1), (2, .inl x2)]) (pc' := 7) d_C_keeps_6 rfl rfl (Nat.le_of_ble_eq_true rfl) rfl (sm_aload_n (i := 0) (j := 1) (pc' := 8) d_C_keeps_7 rfl rfl rfl (sm_iload_n (i := 3) (j := 0) (pc' := 9) d_C_keeps_8 rfl rfl rfl ?_))
  refine sm_bd (mid := fun (t3 : Int32) => .inl (21, [(0, .inr (.inr x0)), (1, .inl x1), (2, .inl x2)], [.inl t3, .inr (.inr x0)])) ?_ (fun t3 => ?_)
  · refine sm_if_eq (tgt := 16) (pc' := 12) d_C_keeps_9 rfl rfl ?_ ?_
    · refine sm_aload_n (i := 0) (j := 1) (pc' := 17) d_C_keeps_16 rfl rfl rfl (sm_iload_n (i := 1) (j := 2) (pc' := 18) d_C_keeps_17 rfl rfl rfl ?_)
      refine sm_callVi (ci := 0) (x := x0) (av := [.inl x1]) (st := [.inr (.inr x0)]) (mc := 0) (ms := 0) (pc' := 21) d_C_keeps_18 rfl (sd_C_keepingStatus x0 x1) m_lv rfl cv_C_keepingStatus w_ml_C_354 rfl rfl (by decide) (Nat.le_of_ble_eq_true rfl) rfl rfl (fun v2 => ?_)
      refine sm_sub [1, 2, 3] rfl ?_
      exact sm_rt rfl
    · refine sm_iload_n (i := 3) (j := 0) (pc' := 13) d_C_keeps_12 rfl rfl rfl (sm_goto (tgt := 21) d_C_keeps_13 rfl (sm_sub [1, 2, 3] rfl ?_))
      exact sm_rt rfl
  · refine sm_putI (pc' := 24) d_C_keeps_21 rfl fl_C_9 (Or.inl rfl) rfl (sm_aload_n (i := 0) (j := 0) (pc' := 25) d_C_keeps_24 rfl rfl rfl ?_)
    refine sm_getI (pc' := 28) d_C_keeps_25 rfl fl_C_9 rfl ⟨by decide, by decide⟩ (fun v4 => ?_)
    refine sm_if_eq (tgt := 33) (pc' := 31) d_C_keeps_28 rfl rfl ?_ ?_
    · refine sm_aload_n (i := 0) (j := 0) (pc' := 34) d_C_keeps_33 rfl rfl rfl ?_
      refine sm_getR (pc' := 37) d_C_keeps_34 rfl fl_C_75 rfl rfl (fun v5 => ?_)
      refine sm_aload_n (i := 0) (j := 0) (pc' := 38) d_C_keeps_37 rfl rfl rfl ?_
      refine sm_getR (pc' := 41) d_C_keeps_38 rfl fl_C_37 rfl rfl (fun v6 => ?_)
      refine sm_iload_n (i := 1) (j := 1) (pc' := 42) d_C_keeps_41 rfl rfl rfl ?_
      refine sm_callVi (ci := 9) (x := v5) (av := [.inr (.inr v6), .inl x1]) (st := []) (mc := 0) (ms := 0) (pc' := 45) d_C_keeps_42 rfl (sd_Ke_leastLove v5 v6 x1) m_lv rfl cv_Ke_leastLove w_ml_C_357 rfl rfl (by decide) (Nat.le_of_ble_eq_true rfl) rfl rfl (fun v7 => ?_)
      refine sm_pop (pc' := 46) d_C_keeps_45 rfl rfl (sm_aload_n (i := 0) (j := 0) (pc' := 47) d_C_keeps_46 rfl rfl rfl ?_)
      refine sm_getR (pc' := 50) d_C_keeps_47 rfl fl_C_75 rfl rfl (fun v8 => ?_)
      refine sm_aload_n (i := 0) (j := 0) (pc' := 51) d_C_keeps_50 rfl rfl rfl ?_
      refine sm_getR (pc' := 54) d_C_keeps_51 rfl fl_C_37 rfl rfl (fun v9 => ?_)
      refine sm_iload_n (i := 2) (j := 2) (pc' := 55) d_C_keeps_54 rfl rfl rfl ?_
      refine sm_callVi (ci := 9) (x := v8) (av := [.inr (.inr v9), .inl x2]) (st := []) (mc := 0) (ms := 0) (pc' := 58) d_C_keeps_55 rfl (sd_Ke_cheapestOf v8 v9 x2) m_lv rfl cv_Ke_cheapestOf w_ml_C_364 rfl rfl (by decide) (Nat.le_of_ble_eq_true rfl) rfl rfl (fun v10 => ?_)
      exact sm_ireturn d_C_keeps_58 rfl rfl
    · refine sm_iconst (pc' := 32) d_C_keeps_31 rfl ic_m1 ?_
      exact sm_ireturn d_C_keeps_32 rfl rfl
theorem d_Ke_wouldTake_0 : m_D k_Ke_wouldTake 0 (.aload_n 0) 1 := (by decide +kernel : decode prog_5_method_13_code 0 = .ok (.aload_n 0, 1))
theorem d_Ke_wouldTake_1 : m_D k_Ke_wouldTake 1 (.getfield 15) 3 := (by decide +kernel : decode prog_5_method_13_code 1 = .ok (.getfield 15, 3))
theorem d_Ke_wouldTake_4 : m_D k_Ke_wouldTake 4 (.iload_n 3) 1 := (by decide +kernel : decode prog_5_method_13_code 4 = .ok (.iload_n 3, 1))
theorem d_Ke_wouldTake_5 : m_D k_Ke_wouldTake 5 (.iaload) 1 := (by decide +kernel : decode prog_5_method_13_code 5 = .ok (.iaload, 1))
theorem d_Ke_wouldTake_6 : m_D k_Ke_wouldTake 6 (.iconst (-1)) 1 := (by decide +kernel : decode prog_5_method_13_code 6 = .ok (.iconst (-1), 1))
theorem d_Ke_wouldTake_7 : m_D k_Ke_wouldTake 7 (.if_icmp .eq 33) 3 := (by decide +kernel : decode prog_5_method_13_code 7 = .ok (.if_icmp .eq 33, 3))
theorem d_Ke_wouldTake_10 : m_D k_Ke_wouldTake 10 (.aload_n 1) 1 := (by decide +kernel : decode prog_5_method_13_code 10 = .ok (.aload_n 1, 1))
theorem d_Ke_wouldTake_11 : m_D k_Ke_wouldTake 11 (.getfield 84) 3 := (by decide +kernel : decode prog_5_method_13_code 11 = .ok (.getfield 84, 3))
theorem d_Ke_wouldTake_14 : m_D k_Ke_wouldTake 14 (.aload_n 0) 1 := (by decide +kernel : decode prog_5_method_13_code 14 = .ok (.aload_n 0, 1))
theorem d_Ke_wouldTake_15 : m_D k_Ke_wouldTake 15 (.getfield 15) 3 := (by decide +kernel : decode prog_5_method_13_code 15 = .ok (.getfield 15, 3))
theorem d_Ke_wouldTake_18 : m_D k_Ke_wouldTake 18 (.iload_n 3) 1 := (by decide +kernel : decode prog_5_method_13_code 18 = .ok (.iload_n 3, 1))
theorem d_Ke_wouldTake_19 : m_D k_Ke_wouldTake 19 (.iaload) 1 := (by decide +kernel : decode prog_5_method_13_code 19 = .ok (.iaload, 1))
theorem d_Ke_wouldTake_20 : m_D k_Ke_wouldTake 20 (.aaload) 1 := (by decide +kernel : decode prog_5_method_13_code 20 = .ok (.aaload, 1))
theorem d_Ke_wouldTake_21 : m_D k_Ke_wouldTake 21 (.getfield 88) 3 := (by decide +kernel : decode prog_5_method_13_code 21 = .ok (.getfield 88, 3))
theorem d_Ke_wouldTake_24 : m_D k_Ke_wouldTake 24 (.iload_n 3) 1 := (by decide +kernel : decode prog_5_method_13_code 24 = .ok (.iload_n 3, 1))
theorem d_Ke_wouldTake_25 : m_D k_Ke_wouldTake 25 (.iaload) 1 := (by decide +kernel : decode prog_5_method_13_code 25 = .ok (.iaload, 1))
theorem d_Ke_wouldTake_26 : m_D k_Ke_wouldTake 26 (.aload_n 1) 1 := (by decide +kernel : decode prog_5_method_13_code 26 = .ok (.aload_n 1, 1))
theorem d_Ke_wouldTake_27 : m_D k_Ke_wouldTake 27 (.getfield 84) 3 := (by decide +kernel : decode prog_5_method_13_code 27 = .ok (.getfield 84, 3))
theorem d_Ke_wouldTake_30 : m_D k_Ke_wouldTake 30 (.iload_n 2) 1 := (by decide +kernel : decode prog_5_method_13_code 30 = .ok (.iload_n 2, 1))
theorem d_Ke_wouldTake_31 : m_D k_Ke_wouldTake 31 (.aaload) 1 := (by decide +kernel : decode prog_5_method_13_code 31 = .ok (.aaload, 1))
theorem d_Ke_wouldTake_32 : m_D k_Ke_wouldTake 32 (.getfield 88) 3 := (by decide +kernel : decode prog_5_method_13_code 32 = .ok (.getfield 88, 3))
theorem d_Ke_wouldTake_35 : m_D k_Ke_wouldTake 35 (.iload_n 3) 1 := (by decide +kernel : decode prog_5_method_13_code 35 = .ok (.iload_n 3, 1))
theorem d_Ke_wouldTake_36 : m_D k_Ke_wouldTake 36 (.iaload) 1 := (by decide +kernel : decode prog_5_method_13_code 36 = .ok (.iaload, 1))
theorem d_Ke_wouldTake_37 : m_D k_Ke_wouldTake 37 (.if_icmp .le 7) 3 := (by decide +kernel : decode prog_5_method_13_code 37 = .ok (.if_icmp .le 7, 3))
theorem d_Ke_wouldTake_40 : m_D k_Ke_wouldTake 40 (.iconst 1) 1 := (by decide +kernel : decode prog_5_method_13_code 40 = .ok (.iconst 1, 1))
theorem d_Ke_wouldTake_41 : m_D k_Ke_wouldTake 41 (.goto 4) 3 := (by decide +kernel : decode prog_5_method_13_code 41 = .ok (.goto 4, 3))
theorem d_Ke_wouldTake_44 : m_D k_Ke_wouldTake 44 (.iconst 0) 1 := (by decide +kernel : decode prog_5_method_13_code 44 = .ok (.iconst 0, 1))
theorem d_Ke_wouldTake_45 : m_D k_Ke_wouldTake 45 (.ireturn) 1 := (by decide +kernel : decode prog_5_method_13_code 45 = .ok (.ireturn, 1))
def fn_Ke_wouldTake (x0 : Option mA) (x1 : Option mA) (x2 : Int32) (x3 : Int32) : mP Int32 :=
  m_th 9 x0 <|
  m_bd (m_gR 9 1 x0) fun v1 =>
  m_bd (m_aI 0 v1 x3) fun v2 =>
  if v2 = (-1) then
    m_rt 1
  else
    m_bd (m_gR 3 7 x1) fun v3 =>
    m_bd (m_gR 9 1 x0) fun v4 =>
    m_bd (m_aI 0 v4 x3) fun v5 =>
    m_bd (m_aR 6 v3 v5) fun v6 =>
    m_bd (m_gR 4 4 v6) fun v7 =>
    m_bd (m_aI 0 v7 x3) fun v8 =>
    m_bd (m_gR 3 7 x1) fun v9 =>
    m_bd (m_aR 6 v9 x2) fun v10 =>
    m_bd (m_gR 4 4 v10) fun v11 =>
    m_bd (m_aI 0 v11 x3) fun v12 =>
    if v8 ≤ v12 then
      m_rt 0
    else
      m_rt 1
set_option maxHeartbeats 4000000 in
set_option maxRecDepth 100000 in
theorem sd_Ke_wouldTake (x0 : Option mA) (x1 : Option mA) (x2 : Int32) (x3 : Int32) : m_Sm k_Ke_wouldTake 1 0 0 [.inr (.inr x0), .inr (.inr x1), .inl x2, .inl x3] (fn_Ke_wouldTake x0 x1 x2 x3) (fun b => some (.inl b)) := by
  refine ⟨Nat.le_of_ble_eq_true rfl, ?_⟩
  refine sm_th ?_
  refine sm_aload_n (i := 0) (j := 0) (pc' := 1) d_Ke_wouldTake_0 rfl rfl rfl ?_
  refine sm_getR (pc' := 4) d_Ke_wouldTake_1 rfl fl_Ke_15 rfl rfl (fun v1 => ?_)
  refine sm_iload_n (i := 3) (j := 3) (pc' := 5) d_Ke_wouldTake_4 rfl rfl rfl ?_
  refine sm_iald (pc' := 6) d_Ke_wouldTake_5 rfl (fun v2 => ?_)
  refine sm_iconst (pc' := 7) d_Ke_wouldTake_6 rfl ic_m1 ?_
  refine sm_icmp_eq (tgt := 40) (pc' := 10) d_Ke_wouldTake_7 rfl rfl ?_ ?_
  · refine sm_iconst (pc' := 41) d_Ke_wouldTake_40 rfl ic_1 (sm_goto (tgt := 45) d_Ke_wouldTake_41 rfl ?_)
    exact sm_zreturn d_Ke_wouldTake_45 rfl (by decide) rfl
  · refine sm_aload_n (i := 1) (j := 1) (pc' := 11) d_Ke_wouldTake_10 rfl rfl rfl ?_
    refine sm_getR (pc' := 14) d_Ke_wouldTake_11 rfl fl_Ke_84 rfl rfl (fun v3 => ?_)
    refine sm_aload_n (i := 0) (j := 0) (pc' := 15) d_Ke_wouldTake_14 rfl rfl rfl ?_
    refine sm_getR (pc' := 18) d_Ke_wouldTake_15 rfl fl_Ke_15 rfl rfl (fun v4 => ?_)
    refine sm_iload_n (i := 3) (j := 3) (pc' := 19) d_Ke_wouldTake_18 rfl rfl rfl ?_
    refine sm_iald (pc' := 20) d_Ke_wouldTake_19 rfl (fun v5 => ?_)
    refine sm_aald (t := 6) ⟨by decide, by decide⟩ rfl (pc' := 21) d_Ke_wouldTake_20 rfl (fun v6 => ?_)
    refine sm_getR (pc' := 24) d_Ke_wouldTake_21 rfl fl_Ke_88 rfl rfl (fun v7 => ?_)
    refine sm_iload_n (i := 3) (j := 3) (pc' := 25) d_Ke_wouldTake_24 rfl rfl rfl ?_
    refine sm_iald (pc' := 26) d_Ke_wouldTake_25 rfl (fun v8 => ?_)
    refine sm_aload_n (i := 1) (j := 1) (pc' := 27) d_Ke_wouldTake_26 rfl rfl rfl ?_
    refine sm_getR (pc' := 30) d_Ke_wouldTake_27 rfl fl_Ke_84 rfl rfl (fun v9 => ?_)
    refine sm_iload_n (i := 2) (j := 2) (pc' := 31) d_Ke_wouldTake_30 rfl rfl rfl ?_
    refine sm_aald (t := 6) ⟨by decide, by decide⟩ rfl (pc' := 32) d_Ke_wouldTake_31 rfl (fun v10 => ?_)
    refine sm_getR (pc' := 35) d_Ke_wouldTake_32 rfl fl_Ke_88 rfl rfl (fun v11 => ?_)
    refine sm_iload_n (i := 3) (j := 3) (pc' := 36) d_Ke_wouldTake_35 rfl rfl rfl ?_
    refine sm_iald (pc' := 37) d_Ke_wouldTake_36 rfl (fun v12 => ?_)
    refine sm_icmp_le (tgt := 44) (pc' := 40) d_Ke_wouldTake_37 rfl rfl ?_ ?_
    · refine sm_iconst (pc' := 45) d_Ke_wouldTake_44 rfl ic_0 ?_
      exact sm_zreturn d_Ke_wouldTake_45 rfl (by decide) rfl
    · refine sm_iconst (pc' := 41) d_Ke_wouldTake_40 rfl ic_1 (sm_goto (tgt := 45) d_Ke_wouldTake_41 rfl ?_)
      exact sm_zreturn d_Ke_wouldTake_45 rfl (by decide) rfl
theorem d_Ke_askFor_0 : m_D k_Ke_askFor 0 (.aload_n 0) 1 := (by decide +kernel : decode prog_5_method_12_code 0 = .ok (.aload_n 0, 1))
theorem d_Ke_askFor_1 : m_D k_Ke_askFor 1 (.getfield 18) 3 := (by decide +kernel : decode prog_5_method_12_code 1 = .ok (.getfield 18, 3))
theorem d_Ke_askFor_4 : m_D k_Ke_askFor 4 (.iload_n 2) 1 := (by decide +kernel : decode prog_5_method_12_code 4 = .ok (.iload_n 2, 1))
theorem d_Ke_askFor_5 : m_D k_Ke_askFor 5 (.dup2) 1 := (by decide +kernel : decode prog_5_method_12_code 5 = .ok (.dup2, 1))
theorem d_Ke_askFor_6 : m_D k_Ke_askFor 6 (.iaload) 1 := (by decide +kernel : decode prog_5_method_12_code 6 = .ok (.iaload, 1))
theorem d_Ke_askFor_7 : m_D k_Ke_askFor 7 (.iconst 1) 1 := (by decide +kernel : decode prog_5_method_12_code 7 = .ok (.iconst 1, 1))
theorem d_Ke_askFor_8 : m_D k_Ke_askFor 8 (.iload_n 3) 1 := (by decide +kernel : decode prog_5_method_12_code 8 = .ok (.iload_n 3, 1))
theorem d_Ke_askFor_9 : m_D k_Ke_askFor 9 (.ishl) 1 := (by decide +kernel : decode prog_5_method_12_code 9 = .ok (.ishl, 1))
theorem d_Ke_askFor_10 : m_D k_Ke_askFor 10 (.ior) 1 := (by decide +kernel : decode prog_5_method_12_code 10 = .ok (.ior, 1))
theorem d_Ke_askFor_11 : m_D k_Ke_askFor 11 (.iastore) 1 := (by decide +kernel : decode prog_5_method_12_code 11 = .ok (.iastore, 1))
theorem d_Ke_askFor_12 : m_D k_Ke_askFor 12 (.aload_n 0) 1 := (by decide +kernel : decode prog_5_method_12_code 12 = .ok (.aload_n 0, 1))
theorem d_Ke_askFor_13 : m_D k_Ke_askFor 13 (.aload_n 1) 1 := (by decide +kernel : decode prog_5_method_12_code 13 = .ok (.aload_n 1, 1))
theorem d_Ke_askFor_14 : m_D k_Ke_askFor 14 (.iload_n 2) 1 := (by decide +kernel : decode prog_5_method_12_code 14 = .ok (.iload_n 2, 1))
theorem d_Ke_askFor_15 : m_D k_Ke_askFor 15 (.iload_n 3) 1 := (by decide +kernel : decode prog_5_method_12_code 15 = .ok (.iload_n 3, 1))
theorem d_Ke_askFor_16 : m_D k_Ke_askFor 16 (.invokevirtual 108) 3 := (by decide +kernel : decode prog_5_method_12_code 16 = .ok (.invokevirtual 108, 3))
theorem d_Ke_askFor_19 : m_D k_Ke_askFor 19 (.ifCond .eq 39) 3 := (by decide +kernel : decode prog_5_method_12_code 19 = .ok (.ifCond .eq 39, 3))
theorem d_Ke_askFor_22 : m_D k_Ke_askFor 22 (.aload_n 0) 1 := (by decide +kernel : decode prog_5_method_12_code 22 = .ok (.aload_n 0, 1))
theorem d_Ke_askFor_23 : m_D k_Ke_askFor 23 (.getfield 15) 3 := (by decide +kernel : decode prog_5_method_12_code 23 = .ok (.getfield 15, 3))
theorem d_Ke_askFor_26 : m_D k_Ke_askFor 26 (.iload_n 3) 1 := (by decide +kernel : decode prog_5_method_12_code 26 = .ok (.iload_n 3, 1))
theorem d_Ke_askFor_27 : m_D k_Ke_askFor 27 (.iaload) 1 := (by decide +kernel : decode prog_5_method_12_code 27 = .ok (.iaload, 1))
theorem d_Ke_askFor_28 : m_D k_Ke_askFor 28 (.iconst (-1)) 1 := (by decide +kernel : decode prog_5_method_12_code 28 = .ok (.iconst (-1), 1))
theorem d_Ke_askFor_29 : m_D k_Ke_askFor 29 (.if_icmp .eq 15) 3 := (by decide +kernel : decode prog_5_method_12_code 29 = .ok (.if_icmp .eq 15, 3))
theorem d_Ke_askFor_32 : m_D k_Ke_askFor 32 (.aload_n 0) 1 := (by decide +kernel : decode prog_5_method_12_code 32 = .ok (.aload_n 0, 1))
theorem d_Ke_askFor_33 : m_D k_Ke_askFor 33 (.getfield 9) 3 := (by decide +kernel : decode prog_5_method_12_code 33 = .ok (.getfield 9, 3))
theorem d_Ke_askFor_36 : m_D k_Ke_askFor 36 (.aload_n 0) 1 := (by decide +kernel : decode prog_5_method_12_code 36 = .ok (.aload_n 0, 1))
theorem d_Ke_askFor_37 : m_D k_Ke_askFor 37 (.getfield 15) 3 := (by decide +kernel : decode prog_5_method_12_code 37 = .ok (.getfield 15, 3))
theorem d_Ke_askFor_40 : m_D k_Ke_askFor 40 (.iload_n 3) 1 := (by decide +kernel : decode prog_5_method_12_code 40 = .ok (.iload_n 3, 1))
theorem d_Ke_askFor_41 : m_D k_Ke_askFor 41 (.iaload) 1 := (by decide +kernel : decode prog_5_method_12_code 41 = .ok (.iaload, 1))
theorem d_Ke_askFor_42 : m_D k_Ke_askFor 42 (.iconst (-1)) 1 := (by decide +kernel : decode prog_5_method_12_code 42 = .ok (.iconst (-1), 1))
theorem d_Ke_askFor_43 : m_D k_Ke_askFor 43 (.iastore) 1 := (by decide +kernel : decode prog_5_method_12_code 43 = .ok (.iastore, 1))
theorem d_Ke_askFor_44 : m_D k_Ke_askFor 44 (.aload_n 0) 1 := (by decide +kernel : decode prog_5_method_12_code 44 = .ok (.aload_n 0, 1))
theorem d_Ke_askFor_45 : m_D k_Ke_askFor 45 (.getfield 15) 3 := (by decide +kernel : decode prog_5_method_12_code 45 = .ok (.getfield 15, 3))
theorem d_Ke_askFor_48 : m_D k_Ke_askFor 48 (.iload_n 3) 1 := (by decide +kernel : decode prog_5_method_12_code 48 = .ok (.iload_n 3, 1))
theorem d_Ke_askFor_49 : m_D k_Ke_askFor 49 (.iload_n 2) 1 := (by decide +kernel : decode prog_5_method_12_code 49 = .ok (.iload_n 2, 1))
theorem d_Ke_askFor_50 : m_D k_Ke_askFor 50 (.iastore) 1 := (by decide +kernel : decode prog_5_method_12_code 50 = .ok (.iastore, 1))
theorem d_Ke_askFor_51 : m_D k_Ke_askFor 51 (.aload_n 0) 1 := (by decide +kernel : decode prog_5_method_12_code 51 = .ok (.aload_n 0, 1))
theorem d_Ke_askFor_52 : m_D k_Ke_askFor 52 (.getfield 9) 3 := (by decide +kernel : decode prog_5_method_12_code 52 = .ok (.getfield 9, 3))
theorem d_Ke_askFor_55 : m_D k_Ke_askFor 55 (.iload_n 2) 1 := (by decide +kernel : decode prog_5_method_12_code 55 = .ok (.iload_n 2, 1))
theorem d_Ke_askFor_56 : m_D k_Ke_askFor 56 (.iload_n 3) 1 := (by decide +kernel : decode prog_5_method_12_code 56 = .ok (.iload_n 3, 1))
theorem d_Ke_askFor_57 : m_D k_Ke_askFor 57 (.iastore) 1 := (by decide +kernel : decode prog_5_method_12_code 57 = .ok (.iastore, 1))
theorem d_Ke_askFor_58 : m_D k_Ke_askFor 58 (.return_) 1 := (by decide +kernel : decode prog_5_method_12_code 58 = .ok (.return_, 1))
def fn_Ke_askFor (x0 : Option mA) (x1 : Option mA) (x2 : Int32) (x3 : Int32) : mP Unit :=
  m_th 9 x0 <|
  m_bd (m_gR 9 2 x0) fun v1 =>
  m_bd (m_aI 0 v1 x2) fun v2 =>
  m_bd (m_tI 0 v1 x2 (v2 ||| (1 <<< (x3 &&& 31)))) fun _ =>
  m_bd (fn_Ke_wouldTake x0 x1 x2 x3) fun v3 =>
  if v3 = 0 then
    m_rt ()
  else
    m_bd (m_gR 9 1 x0) fun v4 =>
    m_bd (m_aI 0 v4 x3) fun v5 =>
    m_bd (α := Unit) (
      if v5 = (-1) then
        m_rt ()
      else
        m_bd (m_gR 9 0 x0) fun v6 =>
        m_bd (m_gR 9 1 x0) fun v7 =>
        m_bd (m_aI 0 v7 x3) fun v8 =>
        m_bd (m_tI 0 v6 v8 (-1)) fun _ =>
        m_rt ()
      ) fun (t9 : Unit) =>
    m_bd (m_gR 9 1 x0) fun v10 =>
    m_bd (m_tI 0 v10 x3 x2) fun _ =>
    m_bd (m_gR 9 0 x0) fun v11 =>
    m_bd (m_tI 0 v11 x2 x3) fun _ =>
    m_rt ()
set_option maxHeartbeats 4000000 in
set_option maxRecDepth 100000 in
theorem sd_Ke_askFor (x0 : Option mA) (x1 : Option mA) (x2 : Int32) (x3 : Int32) : m_Sm k_Ke_askFor 2 0 0 [.inr (.inr x0), .inr (.inr x1), .inl x2, .inl x3] (fn_Ke_askFor x0 x1 x2 x3) (fun _ => none) := by
  refine ⟨Nat.le_of_ble_eq_true rfl, ?_⟩
  refine sm_th ?_
  refine sm_aload_n (i := 0) (j := 0) (pc' := 1) d_Ke_askFor_0 rfl rfl rfl ?_
  refine sm_getR (pc' := 4) d_Ke_askFor_1 rfl fl_Ke_18 rfl rfl (fun v1 => ?_)
  refine sm_iload_n (i := 2) (j := 2) (pc' := 5) d_Ke_askFor_4 rfl rfl rfl (sm_dup2 (pc' := 6) d_Ke_askFor_5 rfl rfl rfl ?_)
  refine sm_iald (pc' := 7) d_Ke_askFor_6 rfl (fun v2 => ?_)
  refine sm_iconst (pc' := 8) d_Ke_askFor_7 rfl ic_1 (sm_iload_n (i := 3) (j := 3) (pc' := 9) d_Ke_askFor_8 rfl rfl rfl (sm_ishl (pc' := 10) d_Ke_askFor_9 rfl (sm_ior (pc' := 11) d_Ke_askFor_10 rfl (sm_iast (pc' := 12) d_Ke_askFor_11 rfl (sm_aload_n (i := 0) (j := 0) (pc' := 13) d_Ke_askFor_12 rfl rfl rfl (sm_aload_n (i := 1) (j := 1) (pc' := 14) d_Ke_askFor_13 rfl rfl rfl (sm_iload_n (i := 2) (j := 2) (pc' := 15) d_Ke_askFor_14 rfl rfl rfl (sm_iload_n (i := 3) (j := 3) (pc' := 16) d_Ke_askFor_15 rfl rfl rfl ?_))))))))
  refine sm_callVi (ci := 9) (x := x0) (av := [.inr (.inr x1), .inl x2, .inl x3]) (st := []) (mc := 0) (ms := 0) (pc' := 19) d_Ke_askFor_16 rfl (sd_Ke_wouldTake x0 x1 x2 x3) m_lv rfl cv_Ke_wouldTake w_ml_Ke_108 rfl rfl (by decide) (Nat.le_of_ble_eq_true rfl) rfl rfl (fun v3 => ?_)
  refine sm_if_eq (tgt := 58) (pc' := 22) d_Ke_askFor_19 rfl rfl ?_ ?_
  · exact sm_return d_Ke_askFor_58 rfl rfl
  · refine sm_aload_n (i := 0) (j := 0) (pc' := 23) d_Ke_askFor_22 rfl rfl rfl ?_
    refine sm_getR (pc' := 26) d_Ke_askFor_23 rfl fl_Ke_15 rfl rfl (fun v4 => ?_)
    refine sm_iload_n (i := 3) (j := 3) (pc' := 27) d_Ke_askFor_26 rfl rfl rfl ?_
    refine sm_iald (pc' := 28) d_Ke_askFor_27 rfl (fun v5 => ?_)
    refine sm_iconst (pc' := 29) d_Ke_askFor_28 rfl ic_m1 ?_
    refine sm_bd (mid := fun (t9 : Unit) => .inl (44, [(0, .inr (.inr x0)), (2, .inl x2), (3, .inl x3)], [])) ?_ (fun t9 => ?_)
    · refine sm_icmp_eq (tgt := 44) (pc' := 32) d_Ke_askFor_29 rfl rfl ?_ ?_
      · refine sm_sub [0, 2, 3] rfl ?_
        exact sm_rt rfl
      · refine sm_aload_n (i := 0) (j := 0) (pc' := 33) d_Ke_askFor_32 rfl rfl rfl ?_
        refine sm_getR (pc' := 36) d_Ke_askFor_33 rfl fl_Ke_9 rfl rfl (fun v6 => ?_)
        refine sm_aload_n (i := 0) (j := 0) (pc' := 37) d_Ke_askFor_36 rfl rfl rfl ?_
        refine sm_getR (pc' := 40) d_Ke_askFor_37 rfl fl_Ke_15 rfl rfl (fun v7 => ?_)
        refine sm_iload_n (i := 3) (j := 3) (pc' := 41) d_Ke_askFor_40 rfl rfl rfl ?_
        refine sm_iald (pc' := 42) d_Ke_askFor_41 rfl (fun v8 => ?_)
        refine sm_iconst (pc' := 43) d_Ke_askFor_42 rfl ic_m1 (sm_iast (pc' := 44) d_Ke_askFor_43 rfl (sm_sub [0, 2, 3] rfl ?_))
        exact sm_rt rfl
    · refine sm_aload_n (i := 0) (j := 0) (pc' := 45) d_Ke_askFor_44 rfl rfl rfl ?_
      refine sm_getR (pc' := 48) d_Ke_askFor_45 rfl fl_Ke_15 rfl rfl (fun v10 => ?_)
      refine sm_iload_n (i := 3) (j := 2) (pc' := 49) d_Ke_askFor_48 rfl rfl rfl (sm_iload_n (i := 2) (j := 1) (pc' := 50) d_Ke_askFor_49 rfl rfl rfl (sm_iast (pc' := 51) d_Ke_askFor_50 rfl (sm_aload_n (i := 0) (j := 0) (pc' := 52) d_Ke_askFor_51 rfl rfl rfl ?_)))
      refine sm_getR (pc' := 55) d_Ke_askFor_52 rfl fl_Ke_9 rfl rfl (fun v11 => ?_)
      refine sm_iload_n (i := 2) (j := 1) (pc' := 56) d_Ke_askFor_55 rfl rfl rfl (sm_iload_n (i := 3) (j := 2) (pc' := 57) d_Ke_askFor_56 rfl rfl rfl (sm_iast (pc' := 58) d_Ke_askFor_57 rfl ?_))
      exact sm_return d_Ke_askFor_58 rfl rfl
theorem d_Ke_mostLoved_0 : m_D k_Ke_mostLoved 0 (.iconst (-1)) 1 := (by decide +kernel : decode prog_5_method_11_code 0 = .ok (.iconst (-1), 1))
theorem d_Ke_mostLoved_1 : m_D k_Ke_mostLoved 1 (.istore_n 3) 1 := (by decide +kernel : decode prog_5_method_11_code 1 = .ok (.istore_n 3, 1))
theorem d_Ke_mostLoved_2 : m_D k_Ke_mostLoved 2 (.iconst 0) 1 := (by decide +kernel : decode prog_5_method_11_code 2 = .ok (.iconst 0, 1))
theorem d_Ke_mostLoved_3 : m_D k_Ke_mostLoved 3 (.istore 4) 2 := (by decide +kernel : decode prog_5_method_11_code 3 = .ok (.istore 4, 2))
theorem d_Ke_mostLoved_5 : m_D k_Ke_mostLoved 5 (.iconst 0) 1 := (by decide +kernel : decode prog_5_method_11_code 5 = .ok (.iconst 0, 1))
theorem d_Ke_mostLoved_6 : m_D k_Ke_mostLoved 6 (.istore 5) 2 := (by decide +kernel : decode prog_5_method_11_code 6 = .ok (.istore 5, 2))
theorem d_Ke_mostLoved_8 : m_D k_Ke_mostLoved 8 (.iload 5) 2 := (by decide +kernel : decode prog_5_method_11_code 8 = .ok (.iload 5, 2))
theorem d_Ke_mostLoved_10 : m_D k_Ke_mostLoved 10 (.aload_n 1) 1 := (by decide +kernel : decode prog_5_method_11_code 10 = .ok (.aload_n 1, 1))
theorem d_Ke_mostLoved_11 : m_D k_Ke_mostLoved 11 (.getfield 46) 3 := (by decide +kernel : decode prog_5_method_11_code 11 = .ok (.getfield 46, 3))
theorem d_Ke_mostLoved_14 : m_D k_Ke_mostLoved 14 (.if_icmp .ge 52) 3 := (by decide +kernel : decode prog_5_method_11_code 14 = .ok (.if_icmp .ge 52, 3))
theorem d_Ke_mostLoved_17 : m_D k_Ke_mostLoved 17 (.aload_n 1) 1 := (by decide +kernel : decode prog_5_method_11_code 17 = .ok (.aload_n 1, 1))
theorem d_Ke_mostLoved_18 : m_D k_Ke_mostLoved 18 (.getfield 84) 3 := (by decide +kernel : decode prog_5_method_11_code 18 = .ok (.getfield 84, 3))
theorem d_Ke_mostLoved_21 : m_D k_Ke_mostLoved 21 (.iload_n 2) 1 := (by decide +kernel : decode prog_5_method_11_code 21 = .ok (.iload_n 2, 1))
theorem d_Ke_mostLoved_22 : m_D k_Ke_mostLoved 22 (.aaload) 1 := (by decide +kernel : decode prog_5_method_11_code 22 = .ok (.aaload, 1))
theorem d_Ke_mostLoved_23 : m_D k_Ke_mostLoved 23 (.getfield 88) 3 := (by decide +kernel : decode prog_5_method_11_code 23 = .ok (.getfield 88, 3))
theorem d_Ke_mostLoved_26 : m_D k_Ke_mostLoved 26 (.iload 5) 2 := (by decide +kernel : decode prog_5_method_11_code 26 = .ok (.iload 5, 2))
theorem d_Ke_mostLoved_28 : m_D k_Ke_mostLoved 28 (.iaload) 1 := (by decide +kernel : decode prog_5_method_11_code 28 = .ok (.iaload, 1))
theorem d_Ke_mostLoved_29 : m_D k_Ke_mostLoved 29 (.istore 6) 2 := (by decide +kernel : decode prog_5_method_11_code 29 = .ok (.istore 6, 2))
theorem d_Ke_mostLoved_31 : m_D k_Ke_mostLoved 31 (.iload 6) 2 := (by decide +kernel : decode prog_5_method_11_code 31 = .ok (.iload 6, 2))
theorem d_Ke_mostLoved_33 : m_D k_Ke_mostLoved 33 (.iload 4) 2 := (by decide +kernel : decode prog_5_method_11_code 33 = .ok (.iload 4, 2))
theorem d_Ke_mostLoved_35 : m_D k_Ke_mostLoved 35 (.if_icmp .le 25) 3 := (by decide +kernel : decode prog_5_method_11_code 35 = .ok (.if_icmp .le 25, 3))
theorem d_Ke_mostLoved_38 : m_D k_Ke_mostLoved 38 (.aload_n 1) 1 := (by decide +kernel : decode prog_5_method_11_code 38 = .ok (.aload_n 1, 1))
theorem d_Ke_mostLoved_39 : m_D k_Ke_mostLoved 39 (.iload 5) 2 := (by decide +kernel : decode prog_5_method_11_code 39 = .ok (.iload 5, 2))
theorem d_Ke_mostLoved_41 : m_D k_Ke_mostLoved 41 (.aload_n 0) 1 := (by decide +kernel : decode prog_5_method_11_code 41 = .ok (.aload_n 0, 1))
theorem d_Ke_mostLoved_42 : m_D k_Ke_mostLoved 42 (.getfield 18) 3 := (by decide +kernel : decode prog_5_method_11_code 42 = .ok (.getfield 18, 3))
theorem d_Ke_mostLoved_45 : m_D k_Ke_mostLoved 45 (.iload_n 2) 1 := (by decide +kernel : decode prog_5_method_11_code 45 = .ok (.iload_n 2, 1))
theorem d_Ke_mostLoved_46 : m_D k_Ke_mostLoved 46 (.iaload) 1 := (by decide +kernel : decode prog_5_method_11_code 46 = .ok (.iaload, 1))
theorem d_Ke_mostLoved_47 : m_D k_Ke_mostLoved 47 (.invokestatic 60) 3 := (by decide +kernel : decode prog_5_method_11_code 47 = .ok (.invokestatic 60, 3))
theorem d_Ke_mostLoved_50 : m_D k_Ke_mostLoved 50 (.ifCond .eq 10) 3 := (by decide +kernel : decode prog_5_method_11_code 50 = .ok (.ifCond .eq 10, 3))
theorem d_Ke_mostLoved_53 : m_D k_Ke_mostLoved 53 (.iload 5) 2 := (by decide +kernel : decode prog_5_method_11_code 53 = .ok (.iload 5, 2))
theorem d_Ke_mostLoved_55 : m_D k_Ke_mostLoved 55 (.istore_n 3) 1 := (by decide +kernel : decode prog_5_method_11_code 55 = .ok (.istore_n 3, 1))
theorem d_Ke_mostLoved_56 : m_D k_Ke_mostLoved 56 (.iload 6) 2 := (by decide +kernel : decode prog_5_method_11_code 56 = .ok (.iload 6, 2))
theorem d_Ke_mostLoved_58 : m_D k_Ke_mostLoved 58 (.istore 4) 2 := (by decide +kernel : decode prog_5_method_11_code 58 = .ok (.istore 4, 2))
theorem d_Ke_mostLoved_60 : m_D k_Ke_mostLoved 60 (.iinc 5 1) 3 := (by decide +kernel : decode prog_5_method_11_code 60 = .ok (.iinc 5 1, 3))
theorem d_Ke_mostLoved_63 : m_D k_Ke_mostLoved 63 (.goto (-55)) 3 := (by decide +kernel : decode prog_5_method_11_code 63 = .ok (.goto (-55), 3))
theorem d_Ke_mostLoved_66 : m_D k_Ke_mostLoved 66 (.iload_n 3) 1 := (by decide +kernel : decode prog_5_method_11_code 66 = .ok (.iload_n 3, 1))
theorem d_Ke_mostLoved_67 : m_D k_Ke_mostLoved 67 (.ireturn) 1 := (by decide +kernel : decode prog_5_method_11_code 67 = .ok (.ireturn, 1))
def fn_Ke_mostLoved_l8 (x0 : Option mA) (x1 : Option mA) (x2 : Int32) (t1 : Int32 × Int32 × Int32) : mP ((Int32 × Int32 × Int32) ⊕ (Int32)) :=
  m_bd (m_gI 3 1 x1) fun v2 =>
  if v2 ≤ t1.2.2 then
    m_rt (.inr t1.1)
  else
    m_bd (m_gR 3 7 x1) fun v3 =>
    m_bd (m_aR 6 v3 x2) fun v4 =>
    m_bd (m_gR 4 4 v4) fun v5 =>
    m_bd (m_aI 0 v5 t1.2.2) fun v6 =>
    m_bd (α := Int32 × Int32) (
      if v6 ≤ t1.2.1 then
        m_rt (t1.1, t1.2.1)
      else
        m_bd (m_gR 9 2 x0) fun v7 =>
        m_bd (m_aI 0 v7 x2) fun v8 =>
        m_bd (fn_Ke_isFree x1 t1.2.2 v8) fun v9 =>
        if v9 = 0 then
          m_rt (t1.1, t1.2.1)
        else
          m_rt (t1.2.2, v6)
      ) fun (t10 : Int32 × Int32) =>
    m_rt (.inl (t10.1, t10.2, (t1.2.2 + 1)))
def fn_Ke_mostLoved (x0 : Option mA) (x1 : Option mA) (x2 : Int32) : mP Int32 :=
  m_th 9 x0 <|
  m_bd (m_lp (fn_Ke_mostLoved_l8 x0 x1 x2) m_F ((-1), 0, 0)) fun (t11 : Int32) =>
  m_rt t11
set_option maxHeartbeats 4000000 in
set_option maxRecDepth 100000 in
theorem sd_Ke_mostLoved (x0 : Option mA) (x1 : Option mA) (x2 : Int32) : m_Sm k_Ke_mostLoved 3 0 0 [.inr (.inr x0), .inr (.inr x1), .inl x2] (fn_Ke_mostLoved x0 x1 x2) (fun b => some (.inl b)) := by
  refine ⟨Nat.le_of_ble_eq_true rfl, ?_⟩
  refine sm_th ?_
  refine sm_iconst (pc' := 1) d_Ke_mostLoved_0 rfl ic_m1 (sm_istore_n (i := 3) (L' := [(3, .inl (-1)), (0, .inr (.inr x0)), (1, .inr (.inr x1)), (2, .inl x2)]) (pc' := 2) d_Ke_mostLoved_1 rfl rfl (Nat.le_of_ble_eq_true rfl) rfl (sm_iconst (pc' := 3) d_Ke_mostLoved_2 rfl ic_0 (sm_istore (L' := [(4, .inl 0), (3, .inl (-1)), (0, .inr (.inr x0)), (1, .inr (.inr x1)), (2, .inl x2)]) (pc' := 5) d_Ke_mostLoved_3 rfl (Nat.le_of_ble_eq_true rfl) rfl (sm_iconst (pc' := 6) d_Ke_mostLoved_5 rfl ic_0 (sm_istore (L' := [(5, .inl 0), (4, .inl 0), (3, .inl (-1)), (0, .inr (.inr x0)), (1, .inr (.inr x1)), (2, .inl x2)]) (pc' := 8) d_Ke_mostLoved_6 rfl (Nat.le_of_ble_eq_true rfl) rfl ?_)))))
  refine sm_sub [2, 1, 0, 3, 4, 5] rfl ?_
  refine sm_bd (mid := fun (t11 : Int32) => .inl (66, [(3, .inl t11)], [])) (sm_lp (hd := fun (t1 : Int32 × Int32 × Int32) => (.inl (8, [(3, .inl t1.1), (4, .inl t1.2.1), (5, .inl t1.2.2), (0, .inr (.inr x0)), (1, .inr (.inr x1)), (2, .inl x2)], []) : mC)) (fun t1 => ?_) m_F ((-1), 0, 0)) (fun t11 => ?_)
  · refine sm_iload (j := 2) (pc' := 10) d_Ke_mostLoved_8 rfl rfl (sm_aload_n (i := 1) (j := 4) (pc' := 11) d_Ke_mostLoved_10 rfl rfl rfl ?_)
    refine sm_getI (pc' := 14) d_Ke_mostLoved_11 rfl fl_Ke_46 rfl ⟨by decide, by decide⟩ (fun v2 => ?_)
    refine sm_icmp_ge (tgt := 66) (pc' := 17) d_Ke_mostLoved_14 rfl rfl ?_ ?_
    · refine sm_sub [0] rfl ?_
      exact sm_rt rfl
    · refine sm_aload_n (i := 1) (j := 4) (pc' := 18) d_Ke_mostLoved_17 rfl rfl rfl ?_
      refine sm_getR (pc' := 21) d_Ke_mostLoved_18 rfl fl_Ke_84 rfl rfl (fun v3 => ?_)
      refine sm_iload_n (i := 2) (j := 5) (pc' := 22) d_Ke_mostLoved_21 rfl rfl rfl ?_
      refine sm_aald (t := 6) ⟨by decide, by decide⟩ rfl (pc' := 23) d_Ke_mostLoved_22 rfl (fun v4 => ?_)
      refine sm_getR (pc' := 26) d_Ke_mostLoved_23 rfl fl_Ke_88 rfl rfl (fun v5 => ?_)
      refine sm_iload (j := 2) (pc' := 28) d_Ke_mostLoved_26 rfl rfl ?_
      refine sm_iald (pc' := 29) d_Ke_mostLoved_28 rfl (fun v6 => ?_)
      refine sm_istore (L' := [(6, .inl v6), (3, .inl t1.1), (4, .inl t1.2.1), (5, .inl t1.2.2), (0, .inr (.inr x0)), (1, .inr (.inr x1)), (2, .inl x2)]) (pc' := 31) d_Ke_mostLoved_29 rfl (Nat.le_of_ble_eq_true rfl) rfl (sm_iload (j := 0) (pc' := 33) d_Ke_mostLoved_31 rfl rfl (sm_iload (j := 2) (pc' := 35) d_Ke_mostLoved_33 rfl rfl ?_))
      refine sm_bd (mid := fun (t10 : Int32 × Int32) => .inl (60, [(0, .inr (.inr x0)), (1, .inr (.inr x1)), (2, .inl x2), (3, .inl t10.1), (4, .inl t10.2), (5, .inl t1.2.2)], [])) ?_ (fun t10 => ?_)
      · refine sm_icmp_le (tgt := 60) (pc' := 38) d_Ke_mostLoved_35 rfl rfl ?_ ?_
        · refine sm_sub [4, 5, 6, 1, 2, 3] rfl ?_
          exact sm_rt rfl
        · refine sm_aload_n (i := 1) (j := 5) (pc' := 39) d_Ke_mostLoved_38 rfl rfl rfl (sm_iload (j := 3) (pc' := 41) d_Ke_mostLoved_39 rfl rfl (sm_aload_n (i := 0) (j := 4) (pc' := 42) d_Ke_mostLoved_41 rfl rfl rfl ?_))
          refine sm_getR (pc' := 45) d_Ke_mostLoved_42 rfl fl_Ke_18 rfl rfl (fun v7 => ?_)
          refine sm_iload_n (i := 2) (j := 6) (pc' := 46) d_Ke_mostLoved_45 rfl rfl rfl ?_
          refine sm_iald (pc' := 47) d_Ke_mostLoved_46 rfl (fun v8 => ?_)
          refine sm_callSi (av := [.inr (.inr x1), .inl t1.2.2, .inl v8]) (st := []) (mc := 0) (ms := 0) (pc' := 50) d_Ke_mostLoved_47 rfl (sd_Ke_isFree x1 t1.2.2 v8) cs_Ke_isFree w_ml_Ke_60 rfl rfl (by decide) (Nat.le_of_ble_eq_true rfl) rfl rfl (fun v9 => ?_)
          refine sm_if_eq (tgt := 60) (pc' := 53) d_Ke_mostLoved_50 rfl rfl ?_ ?_
          · refine sm_sub [4, 5, 6, 1, 2, 3] rfl ?_
            exact sm_rt rfl
          · refine sm_iload (j := 3) (pc' := 55) d_Ke_mostLoved_53 rfl rfl (sm_istore_n (i := 3) (L' := [(3, .inl t1.2.2), (6, .inl v6), (4, .inl t1.2.1), (5, .inl t1.2.2), (0, .inr (.inr x0)), (1, .inr (.inr x1)), (2, .inl x2)]) (pc' := 56) d_Ke_mostLoved_55 rfl rfl (Nat.le_of_ble_eq_true rfl) rfl (sm_iload (j := 1) (pc' := 58) d_Ke_mostLoved_56 rfl rfl (sm_istore (L' := [(4, .inl v6), (3, .inl t1.2.2), (6, .inl v6), (5, .inl t1.2.2), (0, .inr (.inr x0)), (1, .inr (.inr x1)), (2, .inl x2)]) (pc' := 60) d_Ke_mostLoved_58 rfl (Nat.le_of_ble_eq_true rfl) rfl (sm_sub [4, 5, 6, 1, 0, 3] rfl ?_))))
            exact sm_rt rfl
      · refine sm_iinc (j := 5) (L' := [(5, .inl (t1.2.2 + 1)), (0, .inr (.inr x0)), (1, .inr (.inr x1)), (2, .inl x2), (3, .inl t10.1), (4, .inl t10.2)]) (pc' := 63) d_Ke_mostLoved_60 rfl (v := (t1.2.2 + 1)) rfl (ix_1 _) (Nat.le_of_ble_eq_true rfl) rfl (sm_goto (tgt := 8) d_Ke_mostLoved_63 rfl (sm_sub [4, 5, 0, 1, 2, 3] rfl ?_))
        exact sm_rt rfl
  · refine sm_iload_n (i := 3) (j := 0) (pc' := 67) d_Ke_mostLoved_66 rfl rfl rfl ?_
    exact sm_ireturn d_Ke_mostLoved_67 rfl rfl
theorem d_Ke_askOnce_0 : m_D k_Ke_askOnce 0 (.iconst 0) 1 := (by decide +kernel : decode prog_5_method_10_code 0 = .ok (.iconst 0, 1))
theorem d_Ke_askOnce_1 : m_D k_Ke_askOnce 1 (.istore_n 2) 1 := (by decide +kernel : decode prog_5_method_10_code 1 = .ok (.istore_n 2, 1))
theorem d_Ke_askOnce_2 : m_D k_Ke_askOnce 2 (.iload_n 2) 1 := (by decide +kernel : decode prog_5_method_10_code 2 = .ok (.iload_n 2, 1))
theorem d_Ke_askOnce_3 : m_D k_Ke_askOnce 3 (.aload_n 0) 1 := (by decide +kernel : decode prog_5_method_10_code 3 = .ok (.aload_n 0, 1))
theorem d_Ke_askOnce_4 : m_D k_Ke_askOnce 4 (.getfield 27) 3 := (by decide +kernel : decode prog_5_method_10_code 4 = .ok (.getfield 27, 3))
theorem d_Ke_askOnce_7 : m_D k_Ke_askOnce 7 (.if_icmp .ge 54) 3 := (by decide +kernel : decode prog_5_method_10_code 7 = .ok (.if_icmp .ge 54, 3))
theorem d_Ke_askOnce_10 : m_D k_Ke_askOnce 10 (.aload_n 0) 1 := (by decide +kernel : decode prog_5_method_10_code 10 = .ok (.aload_n 0, 1))
theorem d_Ke_askOnce_11 : m_D k_Ke_askOnce 11 (.getfield 21) 3 := (by decide +kernel : decode prog_5_method_10_code 11 = .ok (.getfield 21, 3))
theorem d_Ke_askOnce_14 : m_D k_Ke_askOnce 14 (.iload_n 2) 1 := (by decide +kernel : decode prog_5_method_10_code 14 = .ok (.iload_n 2, 1))
theorem d_Ke_askOnce_15 : m_D k_Ke_askOnce 15 (.iaload) 1 := (by decide +kernel : decode prog_5_method_10_code 15 = .ok (.iaload, 1))
theorem d_Ke_askOnce_16 : m_D k_Ke_askOnce 16 (.istore_n 3) 1 := (by decide +kernel : decode prog_5_method_10_code 16 = .ok (.istore_n 3, 1))
theorem d_Ke_askOnce_17 : m_D k_Ke_askOnce 17 (.aload_n 0) 1 := (by decide +kernel : decode prog_5_method_10_code 17 = .ok (.aload_n 0, 1))
theorem d_Ke_askOnce_18 : m_D k_Ke_askOnce 18 (.getfield 9) 3 := (by decide +kernel : decode prog_5_method_10_code 18 = .ok (.getfield 9, 3))
theorem d_Ke_askOnce_21 : m_D k_Ke_askOnce 21 (.iload_n 3) 1 := (by decide +kernel : decode prog_5_method_10_code 21 = .ok (.iload_n 3, 1))
theorem d_Ke_askOnce_22 : m_D k_Ke_askOnce 22 (.iaload) 1 := (by decide +kernel : decode prog_5_method_10_code 22 = .ok (.iaload, 1))
theorem d_Ke_askOnce_23 : m_D k_Ke_askOnce 23 (.iconst (-1)) 1 := (by decide +kernel : decode prog_5_method_10_code 23 = .ok (.iconst (-1), 1))
theorem d_Ke_askOnce_24 : m_D k_Ke_askOnce 24 (.if_icmp .ne 12) 3 := (by decide +kernel : decode prog_5_method_10_code 24 = .ok (.if_icmp .ne 12, 3))
theorem d_Ke_askOnce_27 : m_D k_Ke_askOnce 27 (.aload_n 0) 1 := (by decide +kernel : decode prog_5_method_10_code 27 = .ok (.aload_n 0, 1))
theorem d_Ke_askOnce_28 : m_D k_Ke_askOnce 28 (.aload_n 1) 1 := (by decide +kernel : decode prog_5_method_10_code 28 = .ok (.aload_n 1, 1))
theorem d_Ke_askOnce_29 : m_D k_Ke_askOnce 29 (.iload_n 3) 1 := (by decide +kernel : decode prog_5_method_10_code 29 = .ok (.iload_n 3, 1))
theorem d_Ke_askOnce_30 : m_D k_Ke_askOnce 30 (.invokevirtual 100) 3 := (by decide +kernel : decode prog_5_method_10_code 30 = .ok (.invokevirtual 100, 3))
theorem d_Ke_askOnce_33 : m_D k_Ke_askOnce 33 (.goto 4) 3 := (by decide +kernel : decode prog_5_method_10_code 33 = .ok (.goto 4, 3))
theorem d_Ke_askOnce_36 : m_D k_Ke_askOnce 36 (.iconst (-1)) 1 := (by decide +kernel : decode prog_5_method_10_code 36 = .ok (.iconst (-1), 1))
theorem d_Ke_askOnce_37 : m_D k_Ke_askOnce 37 (.istore 4) 2 := (by decide +kernel : decode prog_5_method_10_code 37 = .ok (.istore 4, 2))
theorem d_Ke_askOnce_39 : m_D k_Ke_askOnce 39 (.iload 4) 2 := (by decide +kernel : decode prog_5_method_10_code 39 = .ok (.iload 4, 2))
theorem d_Ke_askOnce_41 : m_D k_Ke_askOnce 41 (.iconst (-1)) 1 := (by decide +kernel : decode prog_5_method_10_code 41 = .ok (.iconst (-1), 1))
theorem d_Ke_askOnce_42 : m_D k_Ke_askOnce 42 (.if_icmp .eq 13) 3 := (by decide +kernel : decode prog_5_method_10_code 42 = .ok (.if_icmp .eq 13, 3))
theorem d_Ke_askOnce_45 : m_D k_Ke_askOnce 45 (.aload_n 0) 1 := (by decide +kernel : decode prog_5_method_10_code 45 = .ok (.aload_n 0, 1))
theorem d_Ke_askOnce_46 : m_D k_Ke_askOnce 46 (.aload_n 1) 1 := (by decide +kernel : decode prog_5_method_10_code 46 = .ok (.aload_n 1, 1))
theorem d_Ke_askOnce_47 : m_D k_Ke_askOnce 47 (.iload_n 3) 1 := (by decide +kernel : decode prog_5_method_10_code 47 = .ok (.iload_n 3, 1))
theorem d_Ke_askOnce_48 : m_D k_Ke_askOnce 48 (.iload 4) 2 := (by decide +kernel : decode prog_5_method_10_code 48 = .ok (.iload 4, 2))
theorem d_Ke_askOnce_50 : m_D k_Ke_askOnce 50 (.invokevirtual 104) 3 := (by decide +kernel : decode prog_5_method_10_code 50 = .ok (.invokevirtual 104, 3))
theorem d_Ke_askOnce_53 : m_D k_Ke_askOnce 53 (.iconst 1) 1 := (by decide +kernel : decode prog_5_method_10_code 53 = .ok (.iconst 1, 1))
theorem d_Ke_askOnce_54 : m_D k_Ke_askOnce 54 (.ireturn) 1 := (by decide +kernel : decode prog_5_method_10_code 54 = .ok (.ireturn, 1))
theorem d_Ke_askOnce_55 : m_D k_Ke_askOnce 55 (.iinc 2 1) 3 := (by decide +kernel : decode prog_5_method_10_code 55 = .ok (.iinc 2 1, 3))
theorem d_Ke_askOnce_58 : m_D k_Ke_askOnce 58 (.goto (-56)) 3 := (by decide +kernel : decode prog_5_method_10_code 58 = .ok (.goto (-56), 3))
theorem d_Ke_askOnce_61 : m_D k_Ke_askOnce 61 (.iconst 0) 1 := (by decide +kernel : decode prog_5_method_10_code 61 = .ok (.iconst 0, 1))
theorem d_Ke_askOnce_62 : m_D k_Ke_askOnce 62 (.ireturn) 1 := (by decide +kernel : decode prog_5_method_10_code 62 = .ok (.ireturn, 1))
def fn_Ke_askOnce_l2 (x0 : Option mA) (x1 : Option mA) (t1 : Int32) : mP ((Int32) ⊕ (Int32)) :=
  m_bd (m_gI 9 4 x0) fun v2 =>
  if v2 ≤ t1 then
    m_rt (.inr 0)
  else
    m_bd (m_gR 9 3 x0) fun v3 =>
    m_bd (m_aI 0 v3 t1) fun v4 =>
    m_bd (m_gR 9 0 x0) fun v5 =>
    m_bd (m_aI 0 v5 v4) fun v6 =>
    m_bd (α := Int32) (
      if v6 = (-1) then
        m_bd (fn_Ke_mostLoved x0 x1 v4) fun v7 =>
        m_rt v7
      else
        m_rt (-1)
      ) fun (t8 : Int32) =>
    if t8 = (-1) then
      m_rt (.inl (t1 + 1))
    else
      m_bd (fn_Ke_askFor x0 x1 v4 t8) fun _ =>
      m_rt (.inr 1)
def fn_Ke_askOnce (x0 : Option mA) (x1 : Option mA) : mP Int32 :=
  m_th 9 x0 <|
  m_lp (fn_Ke_askOnce_l2 x0 x1) m_F 0
set_option maxHeartbeats 4000000 in
set_option maxRecDepth 100000 in
theorem sd_Ke_askOnce (x0 : Option mA) (x1 : Option mA) : m_Sm k_Ke_askOnce 4 0 0 [.inr (.inr x0), .inr (.inr x1)] (fn_Ke_askOnce x0 x1) (fun b => some (.inl b)) := by
  refine ⟨Nat.le_of_ble_eq_true rfl, ?_⟩
  refine sm_th ?_
  refine sm_iconst (pc' := 1) d_Ke_askOnce_0 rfl ic_0 (sm_istore_n (i := 2) (L' := [(2, .inl 0), (0, .inr (.inr x0)), (1, .inr (.inr x1))]) (pc' := 2) d_Ke_askOnce_1 rfl rfl (Nat.le_of_ble_eq_true rfl) rfl ?_)
  refine sm_sub [0, 1, 2] rfl ?_
  refine sm_lp (hd := fun (t1 : Int32) => (.inl (2, [(2, .inl t1), (0, .inr (.inr x0)), (1, .inr (.inr x1))], []) : mC)) (fun t1 => ?_) m_F 0
  refine sm_iload_n (i := 2) (j := 0) (pc' := 3) d_Ke_askOnce_2 rfl rfl rfl (sm_aload_n (i := 0) (j := 1) (pc' := 4) d_Ke_askOnce_3 rfl rfl rfl ?_)
  refine sm_getI (pc' := 7) d_Ke_askOnce_4 rfl fl_Ke_27 rfl ⟨by decide, by decide⟩ (fun v2 => ?_)
  refine sm_icmp_ge (tgt := 61) (pc' := 10) d_Ke_askOnce_7 rfl rfl ?_ ?_
  · refine sm_iconst (pc' := 62) d_Ke_askOnce_61 rfl ic_0 ?_
    exact sm_zreturn d_Ke_askOnce_62 rfl (by decide) rfl
  · refine sm_aload_n (i := 0) (j := 1) (pc' := 11) d_Ke_askOnce_10 rfl rfl rfl ?_
    refine sm_getR (pc' := 14) d_Ke_askOnce_11 rfl fl_Ke_21 rfl rfl (fun v3 => ?_)
    refine sm_iload_n (i := 2) (j := 0) (pc' := 15) d_Ke_askOnce_14 rfl rfl rfl ?_
    refine sm_iald (pc' := 16) d_Ke_askOnce_15 rfl (fun v4 => ?_)
    refine sm_istore_n (i := 3) (L' := [(3, .inl v4), (2, .inl t1), (0, .inr (.inr x0)), (1, .inr (.inr x1))]) (pc' := 17) d_Ke_askOnce_16 rfl rfl (Nat.le_of_ble_eq_true rfl) rfl (sm_aload_n (i := 0) (j := 2) (pc' := 18) d_Ke_askOnce_17 rfl rfl rfl ?_)
    refine sm_getR (pc' := 21) d_Ke_askOnce_18 rfl fl_Ke_9 rfl rfl (fun v5 => ?_)
    refine sm_iload_n (i := 3) (j := 0) (pc' := 22) d_Ke_askOnce_21 rfl rfl rfl ?_
    refine sm_iald (pc' := 23) d_Ke_askOnce_22 rfl (fun v6 => ?_)
    refine sm_iconst (pc' := 24) d_Ke_askOnce_23 rfl ic_m1 ?_
    refine sm_bd (mid := fun (t8 : Int32) => .inl (37, [(0, .inr (.inr x0)), (1, .inr (.inr x1)), (2, .inl t1), (3, .inl v4)], [.inl t8])) ?_ (fun t8 => ?_)
    · refine sm_icmp_ne (tgt := 36) (pc' := 27) d_Ke_askOnce_24 rfl rfl ?_ ?_
      · refine sm_iconst (pc' := 37) d_Ke_askOnce_36 rfl ic_m1 (sm_sub [2, 3, 1, 0] rfl ?_)
        exact sm_rt rfl
      · refine sm_aload_n (i := 0) (j := 2) (pc' := 28) d_Ke_askOnce_27 rfl rfl rfl (sm_aload_n (i := 1) (j := 3) (pc' := 29) d_Ke_askOnce_28 rfl rfl rfl (sm_iload_n (i := 3) (j := 0) (pc' := 30) d_Ke_askOnce_29 rfl rfl rfl ?_))
        refine sm_callVi (ci := 9) (x := x0) (av := [.inr (.inr x1), .inl v4]) (st := []) (mc := 0) (ms := 0) (pc' := 33) d_Ke_askOnce_30 rfl (sd_Ke_mostLoved x0 x1 v4) m_lv rfl cv_Ke_mostLoved w_ml_Ke_100 rfl rfl (by decide) (Nat.le_of_ble_eq_true rfl) rfl rfl (fun v7 => ?_)
        refine sm_goto (tgt := 37) d_Ke_askOnce_33 rfl (sm_sub [2, 3, 1, 0] rfl ?_)
        exact sm_rt rfl
    · refine sm_istore (L' := [(4, .inl t8), (0, .inr (.inr x0)), (1, .inr (.inr x1)), (2, .inl t1), (3, .inl v4)]) (pc' := 39) d_Ke_askOnce_37 rfl (Nat.le_of_ble_eq_true rfl) rfl (sm_iload (j := 0) (pc' := 41) d_Ke_askOnce_39 rfl rfl (sm_iconst (pc' := 42) d_Ke_askOnce_41 rfl ic_m1 ?_))
      refine sm_icmp_eq (tgt := 55) (pc' := 45) d_Ke_askOnce_42 rfl rfl ?_ ?_
      · refine sm_iinc (j := 3) (L' := [(2, .inl (t1 + 1)), (4, .inl t8), (0, .inr (.inr x0)), (1, .inr (.inr x1)), (3, .inl v4)]) (pc' := 58) d_Ke_askOnce_55 rfl (v := (t1 + 1)) rfl (ix_1 _) (Nat.le_of_ble_eq_true rfl) rfl (sm_goto (tgt := 2) d_Ke_askOnce_58 rfl (sm_sub [0, 2, 3] rfl ?_))
        exact sm_rt rfl
      · refine sm_aload_n (i := 0) (j := 1) (pc' := 46) d_Ke_askOnce_45 rfl rfl rfl (sm_aload_n (i := 1) (j := 2) (pc' := 47) d_Ke_askOnce_46 rfl rfl rfl (sm_iload_n (i := 3) (j := 4) (pc' := 48) d_Ke_askOnce_47 rfl rfl rfl (sm_iload (j := 0) (pc' := 50) d_Ke_askOnce_48 rfl rfl ?_)))
        refine sm_callVv (ci := 9) (x := x0) (av := [.inr (.inr x1), .inl v4, .inl t8]) (st := []) (mc := 0) (ms := 0) (pc' := 53) d_Ke_askOnce_50 rfl (sd_Ke_askFor x0 x1 v4 t8) m_lv rfl cv_Ke_askFor w_ml_Ke_104 rfl rfl (by decide) (Nat.le_of_ble_eq_true rfl) rfl rfl ?_
        refine sm_iconst (pc' := 54) d_Ke_askOnce_53 rfl ic_1 ?_
        exact sm_zreturn d_Ke_askOnce_54 rfl (by decide) rfl
theorem d_Ke_askAround_0 : m_D k_Ke_askAround 0 (.aload_n 0) 1 := (by decide +kernel : decode prog_5_method_9_code 0 = .ok (.aload_n 0, 1))
theorem d_Ke_askAround_1 : m_D k_Ke_askAround 1 (.aload_n 1) 1 := (by decide +kernel : decode prog_5_method_9_code 1 = .ok (.aload_n 1, 1))
theorem d_Ke_askAround_2 : m_D k_Ke_askAround 2 (.iload_n 2) 1 := (by decide +kernel : decode prog_5_method_9_code 2 = .ok (.iload_n 2, 1))
theorem d_Ke_askAround_3 : m_D k_Ke_askAround 3 (.invokevirtual 42) 3 := (by decide +kernel : decode prog_5_method_9_code 3 = .ok (.invokevirtual 42, 3))
theorem d_Ke_askAround_6 : m_D k_Ke_askAround 6 (.iconst 0) 1 := (by decide +kernel : decode prog_5_method_9_code 6 = .ok (.iconst 0, 1))
theorem d_Ke_askAround_7 : m_D k_Ke_askAround 7 (.istore_n 3) 1 := (by decide +kernel : decode prog_5_method_9_code 7 = .ok (.istore_n 3, 1))
theorem d_Ke_askAround_8 : m_D k_Ke_askAround 8 (.iload_n 3) 1 := (by decide +kernel : decode prog_5_method_9_code 8 = .ok (.iload_n 3, 1))
theorem d_Ke_askAround_9 : m_D k_Ke_askAround 9 (.bipush 48) 2 := (by decide +kernel : decode prog_5_method_9_code 9 = .ok (.bipush 48, 2))
theorem d_Ke_askAround_11 : m_D k_Ke_askAround 11 (.if_icmp .ge 18) 3 := (by decide +kernel : decode prog_5_method_9_code 11 = .ok (.if_icmp .ge 18, 3))
theorem d_Ke_askAround_14 : m_D k_Ke_askAround 14 (.aload_n 0) 1 := (by decide +kernel : decode prog_5_method_9_code 14 = .ok (.aload_n 0, 1))
theorem d_Ke_askAround_15 : m_D k_Ke_askAround 15 (.aload_n 1) 1 := (by decide +kernel : decode prog_5_method_9_code 15 = .ok (.aload_n 1, 1))
theorem d_Ke_askAround_16 : m_D k_Ke_askAround 16 (.invokevirtual 96) 3 := (by decide +kernel : decode prog_5_method_9_code 16 = .ok (.invokevirtual 96, 3))
theorem d_Ke_askAround_19 : m_D k_Ke_askAround 19 (.ifCond .ne 4) 3 := (by decide +kernel : decode prog_5_method_9_code 19 = .ok (.ifCond .ne 4, 3))
theorem d_Ke_askAround_22 : m_D k_Ke_askAround 22 (.return_) 1 := (by decide +kernel : decode prog_5_method_9_code 22 = .ok (.return_, 1))
theorem d_Ke_askAround_23 : m_D k_Ke_askAround 23 (.iinc 3 1) 3 := (by decide +kernel : decode prog_5_method_9_code 23 = .ok (.iinc 3 1, 3))
theorem d_Ke_askAround_26 : m_D k_Ke_askAround 26 (.goto (-18)) 3 := (by decide +kernel : decode prog_5_method_9_code 26 = .ok (.goto (-18), 3))
theorem d_Ke_askAround_29 : m_D k_Ke_askAround 29 (.return_) 1 := (by decide +kernel : decode prog_5_method_9_code 29 = .ok (.return_, 1))
def fn_Ke_askAround_l8 (x0 : Option mA) (x1 : Option mA) (t1 : Int32) : mP ((Int32) ⊕ (Unit)) :=
  if 48 ≤ t1 then
    m_rt (.inr ())
  else
    m_bd (fn_Ke_askOnce x0 x1) fun v2 =>
    if v2 = 0 then
      m_rt (.inr ())
    else
      m_rt (.inl (t1 + 1))
def fn_Ke_askAround (x0 : Option mA) (x1 : Option mA) (x2 : Int32) : mP Unit :=
  m_th 9 x0 <|
  m_bd (fn_Ke_gather x0 x1 x2) fun _ =>
  m_lp (fn_Ke_askAround_l8 x0 x1) m_F 0
set_option maxHeartbeats 4000000 in
set_option maxRecDepth 100000 in
theorem sd_Ke_askAround (x0 : Option mA) (x1 : Option mA) (x2 : Int32) : m_Sm k_Ke_askAround 5 0 0 [.inr (.inr x0), .inr (.inr x1), .inl x2] (fn_Ke_askAround x0 x1 x2) (fun _ => none) := by
  refine ⟨Nat.le_of_ble_eq_true rfl, ?_⟩
  refine sm_th ?_
  refine sm_aload_n (i := 0) (j := 0) (pc' := 1) d_Ke_askAround_0 rfl rfl rfl (sm_aload_n (i := 1) (j := 1) (pc' := 2) d_Ke_askAround_1 rfl rfl rfl (sm_iload_n (i := 2) (j := 2) (pc' := 3) d_Ke_askAround_2 rfl rfl rfl ?_))
  refine sm_callVv (ci := 9) (x := x0) (av := [.inr (.inr x1), .inl x2]) (st := []) (mc := 0) (ms := 0) (pc' := 6) d_Ke_askAround_3 rfl (sd_Ke_gather x0 x1 x2) m_lv rfl cv_Ke_gather w_ml_Ke_42 rfl rfl (by decide) (Nat.le_of_ble_eq_true rfl) rfl rfl ?_
  refine sm_iconst (pc' := 7) d_Ke_askAround_6 rfl ic_0 (sm_istore_n (i := 3) (L' := [(3, .inl 0), (0, .inr (.inr x0)), (1, .inr (.inr x1)), (2, .inl x2)]) (pc' := 8) d_Ke_askAround_7 rfl rfl (Nat.le_of_ble_eq_true rfl) rfl ?_)
  refine sm_sub [0, 1, 2] rfl ?_
  refine sm_lp (hd := fun (t1 : Int32) => (.inl (8, [(3, .inl t1), (0, .inr (.inr x0)), (1, .inr (.inr x1))], []) : mC)) (fun t1 => ?_) m_F 0
  refine sm_iload_n (i := 3) (j := 0) (pc' := 9) d_Ke_askAround_8 rfl rfl rfl (sm_bipush (pc' := 11) d_Ke_askAround_9 rfl ib_48 ?_)
  refine sm_icmp_ge (tgt := 29) (pc' := 14) d_Ke_askAround_11 rfl rfl ?_ ?_
  · exact sm_return d_Ke_askAround_29 rfl rfl
  · refine sm_aload_n (i := 0) (j := 1) (pc' := 15) d_Ke_askAround_14 rfl rfl rfl (sm_aload_n (i := 1) (j := 2) (pc' := 16) d_Ke_askAround_15 rfl rfl rfl ?_)
    refine sm_callVi (ci := 9) (x := x0) (av := [.inr (.inr x1)]) (st := []) (mc := 0) (ms := 0) (pc' := 19) d_Ke_askAround_16 rfl (sd_Ke_askOnce x0 x1) m_lv rfl cv_Ke_askOnce w_ml_Ke_96 rfl rfl (by decide) (Nat.le_of_ble_eq_true rfl) rfl rfl (fun v2 => ?_)
    refine sm_if_ne (tgt := 23) (pc' := 22) d_Ke_askAround_19 rfl rfl ?_ ?_
    · refine sm_iinc (j := 0) (L' := [(3, .inl (t1 + 1)), (0, .inr (.inr x0)), (1, .inr (.inr x1))]) (pc' := 26) d_Ke_askAround_23 rfl (v := (t1 + 1)) rfl (ix_1 _) (Nat.le_of_ble_eq_true rfl) rfl (sm_goto (tgt := 8) d_Ke_askAround_26 rfl (sm_sub [0, 1, 2] rfl ?_))
      exact sm_rt rfl
    · exact sm_return d_Ke_askAround_22 rfl rfl
theorem d_C_stable_0 : m_D k_C_stable 0 (.aload_n 0) 1 := (by decide +kernel : decode prog_1_method_56_code 0 = .ok (.aload_n 0, 1))
theorem d_C_stable_1 : m_D k_C_stable 1 (.aload_n 0) 1 := (by decide +kernel : decode prog_1_method_56_code 1 = .ok (.aload_n 0, 1))
theorem d_C_stable_2 : m_D k_C_stable 2 (.iload_n 1) 1 := (by decide +kernel : decode prog_1_method_56_code 2 = .ok (.iload_n 1, 1))
theorem d_C_stable_3 : m_D k_C_stable 3 (.iload_n 2) 1 := (by decide +kernel : decode prog_1_method_56_code 3 = .ok (.iload_n 2, 1))
theorem d_C_stable_4 : m_D k_C_stable 4 (.invokevirtual 361) 3 := (by decide +kernel : decode prog_1_method_56_code 4 = .ok (.invokevirtual 361, 3))
theorem d_C_stable_7 : m_D k_C_stable 7 (.putfield 9) 3 := (by decide +kernel : decode prog_1_method_56_code 7 = .ok (.putfield 9, 3))
theorem d_C_stable_10 : m_D k_C_stable 10 (.aload_n 0) 1 := (by decide +kernel : decode prog_1_method_56_code 10 = .ok (.aload_n 0, 1))
theorem d_C_stable_11 : m_D k_C_stable 11 (.getfield 9) 3 := (by decide +kernel : decode prog_1_method_56_code 11 = .ok (.getfield 9, 3))
theorem d_C_stable_14 : m_D k_C_stable 14 (.ifCond .eq 5) 3 := (by decide +kernel : decode prog_1_method_56_code 14 = .ok (.ifCond .eq 5, 3))
theorem d_C_stable_17 : m_D k_C_stable 17 (.iconst (-1)) 1 := (by decide +kernel : decode prog_1_method_56_code 17 = .ok (.iconst (-1), 1))
theorem d_C_stable_18 : m_D k_C_stable 18 (.ireturn) 1 := (by decide +kernel : decode prog_1_method_56_code 18 = .ok (.ireturn, 1))
theorem d_C_stable_19 : m_D k_C_stable 19 (.aload_n 0) 1 := (by decide +kernel : decode prog_1_method_56_code 19 = .ok (.aload_n 0, 1))
theorem d_C_stable_20 : m_D k_C_stable 20 (.getfield 75) 3 := (by decide +kernel : decode prog_1_method_56_code 20 = .ok (.getfield 75, 3))
theorem d_C_stable_23 : m_D k_C_stable 23 (.aload_n 0) 1 := (by decide +kernel : decode prog_1_method_56_code 23 = .ok (.aload_n 0, 1))
theorem d_C_stable_24 : m_D k_C_stable 24 (.getfield 37) 3 := (by decide +kernel : decode prog_1_method_56_code 24 = .ok (.getfield 37, 3))
theorem d_C_stable_27 : m_D k_C_stable 27 (.iload_n 1) 1 := (by decide +kernel : decode prog_1_method_56_code 27 = .ok (.iload_n 1, 1))
theorem d_C_stable_28 : m_D k_C_stable 28 (.invokevirtual 367) 3 := (by decide +kernel : decode prog_1_method_56_code 28 = .ok (.invokevirtual 367, 3))
theorem d_C_stable_31 : m_D k_C_stable 31 (.aload_n 0) 1 := (by decide +kernel : decode prog_1_method_56_code 31 = .ok (.aload_n 0, 1))
theorem d_C_stable_32 : m_D k_C_stable 32 (.aload_n 0) 1 := (by decide +kernel : decode prog_1_method_56_code 32 = .ok (.aload_n 0, 1))
theorem d_C_stable_33 : m_D k_C_stable 33 (.getfield 75) 3 := (by decide +kernel : decode prog_1_method_56_code 33 = .ok (.getfield 75, 3))
theorem d_C_stable_36 : m_D k_C_stable 36 (.getfield 371) 3 := (by decide +kernel : decode prog_1_method_56_code 36 = .ok (.getfield 371, 3))
theorem d_C_stable_39 : m_D k_C_stable 39 (.iload_n 2) 1 := (by decide +kernel : decode prog_1_method_56_code 39 = .ok (.iload_n 2, 1))
theorem d_C_stable_40 : m_D k_C_stable 40 (.iaload) 1 := (by decide +kernel : decode prog_1_method_56_code 40 = .ok (.iaload, 1))
theorem d_C_stable_41 : m_D k_C_stable 41 (.invokevirtual 310) 3 := (by decide +kernel : decode prog_1_method_56_code 41 = .ok (.invokevirtual 310, 3))
theorem d_C_stable_44 : m_D k_C_stable 44 (.ireturn) 1 := (by decide +kernel : decode prog_1_method_56_code 44 = .ok (.ireturn, 1))
def fn_C_stable (x0 : Option mA) (x1 : Int32) (x2 : Int32) : mP Int32 :=
  m_th 0 x0 <|
  m_bd (fn_C_memberStatus x0 x1 x2) fun v1 =>
  m_bd (m_pI 0 0 x0 v1) fun _ =>
  m_bd (m_gI 0 0 x0) fun v2 =>
  if v2 = 0 then
    m_bd (m_gR 0 12 x0) fun v3 =>
    m_bd (m_gR 0 5 x0) fun v4 =>
    m_bd (fn_Ke_askAround v3 v4 x1) fun _ =>
    m_bd (m_gR 0 12 x0) fun v5 =>
    m_bd (m_gR 9 0 v5) fun v6 =>
    m_bd (m_aI 0 v6 x2) fun v7 =>
    m_bd (fn_C_orNone x0 v7) fun v8 =>
    m_rt v8
  else
    m_rt (-1)
set_option maxHeartbeats 4000000 in
set_option maxRecDepth 100000 in
theorem sd_C_stable (x0 : Option mA) (x1 : Int32) (x2 : Int32) : m_Sm k_C_stable 6 0 0 [.inr (.inr x0), .inl x1, .inl x2] (fn_C_stable x0 x1 x2) (fun b => some (.inl b)) := by
  refine ⟨Nat.le_of_ble_eq_true rfl, ?_⟩
  refine sm_th ?_
  refine sm_aload_n (i := 0) (j := 0) (pc' := 1) d_C_stable_0 rfl rfl rfl (sm_aload_n (i := 0) (j := 0) (pc' := 2) d_C_stable_1 rfl rfl rfl (sm_iload_n (i := 1) (j := 1) (pc' := 3) d_C_stable_2 rfl rfl rfl (sm_iload_n (i := 2) (j := 2) (pc' := 4) d_C_stable_3 rfl rfl rfl ?_)))
  refine sm_callVi (ci := 0) (x := x0) (av := [.inl x1, .inl x2]) (st := [.inr (.inr x0)]) (mc := 0) (ms := 0) (pc' := 7) d_C_stable_4 rfl (sd_C_memberStatus x0 x1 x2) m_lv rfl cv_C_memberStatus w_ml_C_361 rfl rfl (by decide) (Nat.le_of_ble_eq_true rfl) rfl rfl (fun v1 => ?_)
  refine sm_putI (pc' := 10) d_C_stable_7 rfl fl_C_9 (Or.inl rfl) rfl (sm_aload_n (i := 0) (j := 0) (pc' := 11) d_C_stable_10 rfl rfl rfl ?_)
  refine sm_getI (pc' := 14) d_C_stable_11 rfl fl_C_9 rfl ⟨by decide, by decide⟩ (fun v2 => ?_)
  refine sm_if_eq (tgt := 19) (pc' := 17) d_C_stable_14 rfl rfl ?_ ?_
  · refine sm_aload_n (i := 0) (j := 0) (pc' := 20) d_C_stable_19 rfl rfl rfl ?_
    refine sm_getR (pc' := 23) d_C_stable_20 rfl fl_C_75 rfl rfl (fun v3 => ?_)
    refine sm_aload_n (i := 0) (j := 0) (pc' := 24) d_C_stable_23 rfl rfl rfl ?_
    refine sm_getR (pc' := 27) d_C_stable_24 rfl fl_C_37 rfl rfl (fun v4 => ?_)
    refine sm_iload_n (i := 1) (j := 1) (pc' := 28) d_C_stable_27 rfl rfl rfl ?_
    refine sm_callVv (ci := 9) (x := v3) (av := [.inr (.inr v4), .inl x1]) (st := []) (mc := 0) (ms := 0) (pc' := 31) d_C_stable_28 rfl (sd_Ke_askAround v3 v4 x1) m_lv rfl cv_Ke_askAround w_ml_C_367 rfl rfl (by decide) (Nat.le_of_ble_eq_true rfl) rfl rfl ?_
    refine sm_aload_n (i := 0) (j := 0) (pc' := 32) d_C_stable_31 rfl rfl rfl (sm_aload_n (i := 0) (j := 0) (pc' := 33) d_C_stable_32 rfl rfl rfl ?_)
    refine sm_getR (pc' := 36) d_C_stable_33 rfl fl_C_75 rfl rfl (fun v5 => ?_)
    refine sm_getR (pc' := 39) d_C_stable_36 rfl fl_C_371 rfl rfl (fun v6 => ?_)
    refine sm_iload_n (i := 2) (j := 2) (pc' := 40) d_C_stable_39 rfl rfl rfl ?_
    refine sm_iald (pc' := 41) d_C_stable_40 rfl (fun v7 => ?_)
    refine sm_callVi (ci := 0) (x := x0) (av := [.inl v7]) (st := []) (mc := 0) (ms := 0) (pc' := 44) d_C_stable_41 rfl (sd_C_orNone x0 v7) m_lv rfl cv_C_orNone w_ml_C_310 rfl rfl (by decide) (Nat.le_of_ble_eq_true rfl) rfl rfl (fun v8 => ?_)
    exact sm_ireturn d_C_stable_44 rfl rfl
  · refine sm_iconst (pc' := 18) d_C_stable_17 rfl ic_m1 ?_
    exact sm_ireturn d_C_stable_18 rfl rfl
theorem d_Ke_wouldChange_0 : m_D k_Ke_wouldChange 0 (.aload_n 1) 1 := (by decide +kernel : decode prog_5_method_17_code 0 = .ok (.aload_n 1, 1))
theorem d_Ke_wouldChange_1 : m_D k_Ke_wouldChange 1 (.getfield 84) 3 := (by decide +kernel : decode prog_5_method_17_code 1 = .ok (.getfield 84, 3))
theorem d_Ke_wouldChange_4 : m_D k_Ke_wouldChange 4 (.iload_n 2) 1 := (by decide +kernel : decode prog_5_method_17_code 4 = .ok (.iload_n 2, 1))
theorem d_Ke_wouldChange_5 : m_D k_Ke_wouldChange 5 (.aaload) 1 := (by decide +kernel : decode prog_5_method_17_code 5 = .ok (.aaload, 1))
theorem d_Ke_wouldChange_6 : m_D k_Ke_wouldChange 6 (.getfield 88) 3 := (by decide +kernel : decode prog_5_method_17_code 6 = .ok (.getfield 88, 3))
theorem d_Ke_wouldChange_9 : m_D k_Ke_wouldChange 9 (.astore_n 3) 1 := (by decide +kernel : decode prog_5_method_17_code 9 = .ok (.astore_n 3, 1))
theorem d_Ke_wouldChange_10 : m_D k_Ke_wouldChange 10 (.aload_n 0) 1 := (by decide +kernel : decode prog_5_method_17_code 10 = .ok (.aload_n 0, 1))
theorem d_Ke_wouldChange_11 : m_D k_Ke_wouldChange 11 (.getfield 9) 3 := (by decide +kernel : decode prog_5_method_17_code 11 = .ok (.getfield 9, 3))
theorem d_Ke_wouldChange_14 : m_D k_Ke_wouldChange 14 (.iload_n 2) 1 := (by decide +kernel : decode prog_5_method_17_code 14 = .ok (.iload_n 2, 1))
theorem d_Ke_wouldChange_15 : m_D k_Ke_wouldChange 15 (.iaload) 1 := (by decide +kernel : decode prog_5_method_17_code 15 = .ok (.iaload, 1))
theorem d_Ke_wouldChange_16 : m_D k_Ke_wouldChange 16 (.iconst (-1)) 1 := (by decide +kernel : decode prog_5_method_17_code 16 = .ok (.iconst (-1), 1))
theorem d_Ke_wouldChange_17 : m_D k_Ke_wouldChange 17 (.if_icmp .ne 7) 3 := (by decide +kernel : decode prog_5_method_17_code 17 = .ok (.if_icmp .ne 7, 3))
theorem d_Ke_wouldChange_20 : m_D k_Ke_wouldChange 20 (.iconst 0) 1 := (by decide +kernel : decode prog_5_method_17_code 20 = .ok (.iconst 0, 1))
theorem d_Ke_wouldChange_21 : m_D k_Ke_wouldChange 21 (.goto 11) 3 := (by decide +kernel : decode prog_5_method_17_code 21 = .ok (.goto 11, 3))
theorem d_Ke_wouldChange_24 : m_D k_Ke_wouldChange 24 (.aload_n 3) 1 := (by decide +kernel : decode prog_5_method_17_code 24 = .ok (.aload_n 3, 1))
theorem d_Ke_wouldChange_25 : m_D k_Ke_wouldChange 25 (.aload_n 0) 1 := (by decide +kernel : decode prog_5_method_17_code 25 = .ok (.aload_n 0, 1))
theorem d_Ke_wouldChange_26 : m_D k_Ke_wouldChange 26 (.getfield 9) 3 := (by decide +kernel : decode prog_5_method_17_code 26 = .ok (.getfield 9, 3))
theorem d_Ke_wouldChange_29 : m_D k_Ke_wouldChange 29 (.iload_n 2) 1 := (by decide +kernel : decode prog_5_method_17_code 29 = .ok (.iload_n 2, 1))
theorem d_Ke_wouldChange_30 : m_D k_Ke_wouldChange 30 (.iaload) 1 := (by decide +kernel : decode prog_5_method_17_code 30 = .ok (.iaload, 1))
theorem d_Ke_wouldChange_31 : m_D k_Ke_wouldChange 31 (.iaload) 1 := (by decide +kernel : decode prog_5_method_17_code 31 = .ok (.iaload, 1))
theorem d_Ke_wouldChange_32 : m_D k_Ke_wouldChange 32 (.istore 4) 2 := (by decide +kernel : decode prog_5_method_17_code 32 = .ok (.istore 4, 2))
theorem d_Ke_wouldChange_34 : m_D k_Ke_wouldChange 34 (.iconst 0) 1 := (by decide +kernel : decode prog_5_method_17_code 34 = .ok (.iconst 0, 1))
theorem d_Ke_wouldChange_35 : m_D k_Ke_wouldChange 35 (.istore 5) 2 := (by decide +kernel : decode prog_5_method_17_code 35 = .ok (.istore 5, 2))
theorem d_Ke_wouldChange_37 : m_D k_Ke_wouldChange 37 (.iload 5) 2 := (by decide +kernel : decode prog_5_method_17_code 37 = .ok (.iload 5, 2))
theorem d_Ke_wouldChange_39 : m_D k_Ke_wouldChange 39 (.aload_n 1) 1 := (by decide +kernel : decode prog_5_method_17_code 39 = .ok (.aload_n 1, 1))
theorem d_Ke_wouldChange_40 : m_D k_Ke_wouldChange 40 (.getfield 46) 3 := (by decide +kernel : decode prog_5_method_17_code 40 = .ok (.getfield 46, 3))
theorem d_Ke_wouldChange_43 : m_D k_Ke_wouldChange 43 (.if_icmp .ge 44) 3 := (by decide +kernel : decode prog_5_method_17_code 43 = .ok (.if_icmp .ge 44, 3))
theorem d_Ke_wouldChange_46 : m_D k_Ke_wouldChange 46 (.aload_n 3) 1 := (by decide +kernel : decode prog_5_method_17_code 46 = .ok (.aload_n 3, 1))
theorem d_Ke_wouldChange_47 : m_D k_Ke_wouldChange 47 (.iload 5) 2 := (by decide +kernel : decode prog_5_method_17_code 47 = .ok (.iload 5, 2))
theorem d_Ke_wouldChange_49 : m_D k_Ke_wouldChange 49 (.iaload) 1 := (by decide +kernel : decode prog_5_method_17_code 49 = .ok (.iaload, 1))
theorem d_Ke_wouldChange_50 : m_D k_Ke_wouldChange 50 (.iload 4) 2 := (by decide +kernel : decode prog_5_method_17_code 50 = .ok (.iload 4, 2))
theorem d_Ke_wouldChange_52 : m_D k_Ke_wouldChange 52 (.if_icmp .le 29) 3 := (by decide +kernel : decode prog_5_method_17_code 52 = .ok (.if_icmp .le 29, 3))
theorem d_Ke_wouldChange_55 : m_D k_Ke_wouldChange 55 (.aload_n 1) 1 := (by decide +kernel : decode prog_5_method_17_code 55 = .ok (.aload_n 1, 1))
theorem d_Ke_wouldChange_56 : m_D k_Ke_wouldChange 56 (.getfield 74) 3 := (by decide +kernel : decode prog_5_method_17_code 56 = .ok (.getfield 74, 3))
theorem d_Ke_wouldChange_59 : m_D k_Ke_wouldChange 59 (.iload 5) 2 := (by decide +kernel : decode prog_5_method_17_code 59 = .ok (.iload 5, 2))
theorem d_Ke_wouldChange_61 : m_D k_Ke_wouldChange 61 (.aaload) 1 := (by decide +kernel : decode prog_5_method_17_code 61 = .ok (.aaload, 1))
theorem d_Ke_wouldChange_62 : m_D k_Ke_wouldChange 62 (.invokevirtual 78) 3 := (by decide +kernel : decode prog_5_method_17_code 62 = .ok (.invokevirtual 78, 3))
theorem d_Ke_wouldChange_65 : m_D k_Ke_wouldChange 65 (.ifCond .ne 16) 3 := (by decide +kernel : decode prog_5_method_17_code 65 = .ok (.ifCond .ne 16, 3))
theorem d_Ke_wouldChange_68 : m_D k_Ke_wouldChange 68 (.aload_n 0) 1 := (by decide +kernel : decode prog_5_method_17_code 68 = .ok (.aload_n 0, 1))
theorem d_Ke_wouldChange_69 : m_D k_Ke_wouldChange 69 (.aload_n 1) 1 := (by decide +kernel : decode prog_5_method_17_code 69 = .ok (.aload_n 1, 1))
theorem d_Ke_wouldChange_70 : m_D k_Ke_wouldChange 70 (.iload_n 2) 1 := (by decide +kernel : decode prog_5_method_17_code 70 = .ok (.iload_n 2, 1))
theorem d_Ke_wouldChange_71 : m_D k_Ke_wouldChange 71 (.iload 5) 2 := (by decide +kernel : decode prog_5_method_17_code 71 = .ok (.iload 5, 2))
theorem d_Ke_wouldChange_73 : m_D k_Ke_wouldChange 73 (.invokevirtual 108) 3 := (by decide +kernel : decode prog_5_method_17_code 73 = .ok (.invokevirtual 108, 3))
theorem d_Ke_wouldChange_76 : m_D k_Ke_wouldChange 76 (.ifCond .eq 5) 3 := (by decide +kernel : decode prog_5_method_17_code 76 = .ok (.ifCond .eq 5, 3))
theorem d_Ke_wouldChange_79 : m_D k_Ke_wouldChange 79 (.iconst 1) 1 := (by decide +kernel : decode prog_5_method_17_code 79 = .ok (.iconst 1, 1))
theorem d_Ke_wouldChange_80 : m_D k_Ke_wouldChange 80 (.ireturn) 1 := (by decide +kernel : decode prog_5_method_17_code 80 = .ok (.ireturn, 1))
theorem d_Ke_wouldChange_81 : m_D k_Ke_wouldChange 81 (.iinc 5 1) 3 := (by decide +kernel : decode prog_5_method_17_code 81 = .ok (.iinc 5 1, 3))
theorem d_Ke_wouldChange_84 : m_D k_Ke_wouldChange 84 (.goto (-47)) 3 := (by decide +kernel : decode prog_5_method_17_code 84 = .ok (.goto (-47), 3))
theorem d_Ke_wouldChange_87 : m_D k_Ke_wouldChange 87 (.iconst 0) 1 := (by decide +kernel : decode prog_5_method_17_code 87 = .ok (.iconst 0, 1))
theorem d_Ke_wouldChange_88 : m_D k_Ke_wouldChange 88 (.ireturn) 1 := (by decide +kernel : decode prog_5_method_17_code 88 = .ok (.ireturn, 1))
def fn_Ke_wouldChange_l37 (x0 : Option mA) (x1 : Option mA) (x2 : Int32) (v3 : Option mA) (t9 : Int32) (t10 : Int32) : mP ((Int32) ⊕ (Int32)) :=
  m_bd (m_gI 3 1 x1) fun v11 =>
  if v11 ≤ t10 then
    m_rt (.inr 0)
  else
    m_bd (m_aI 0 v3 t10) fun v12 =>
    if v12 ≤ t9 then
      m_rt (.inl (t10 + 1))
    else
      m_bd (m_gR 3 8 x1) fun v13 =>
      m_bd (m_aR 7 v13 t10) fun v14 =>
      m_bd (fn_Th_isThrough v14) fun v15 =>
      if v15 = 0 then
        m_bd (fn_Ke_wouldTake x0 x1 x2 t10) fun v16 =>
        if v16 = 0 then
          m_rt (.inl (t10 + 1))
        else
          m_rt (.inr 1)
      else
        m_rt (.inl (t10 + 1))
def fn_Ke_wouldChange (x0 : Option mA) (x1 : Option mA) (x2 : Int32) : mP Int32 :=
  m_th 9 x0 <|
  m_bd (m_gR 3 7 x1) fun v1 =>
  m_bd (m_aR 6 v1 x2) fun v2 =>
  m_bd (m_gR 4 4 v2) fun v3 =>
  m_bd (m_gR 9 0 x0) fun v4 =>
  m_bd (m_aI 0 v4 x2) fun v5 =>
  m_bd (α := Int32) (
    if v5 = (-1) then
      m_rt 0
    else
      m_bd (m_gR 9 0 x0) fun v6 =>
      m_bd (m_aI 0 v6 x2) fun v7 =>
      m_bd (m_aI 0 v3 v7) fun v8 =>
      m_rt v8
    ) fun (t9 : Int32) =>
  m_lp (fn_Ke_wouldChange_l37 x0 x1 x2 v3 t9) m_F 0
set_option maxHeartbeats 4000000 in
set_option maxRecDepth 100000 in
theorem sd_Ke_wouldChange (x0 : Option mA) (x1 : Option mA) (x2 : Int32) : m_Sm k_Ke_wouldChange 2 0 0 [.inr (.inr x0), .inr (.inr x1), .inl x2] (fn_Ke_wouldChange x0 x1 x2) (fun b => some (.inl b)) := by
  refine ⟨Nat.le_of_ble_eq_true rfl, ?_⟩
  refine sm_th ?_
  refine sm_aload_n (i := 1) (j := 1) (pc' := 1) d_Ke_wouldChange_0 rfl rfl rfl ?_
  refine sm_getR (pc' := 4) d_Ke_wouldChange_1 rfl fl_Ke_84 rfl rfl (fun v1 => ?_)
  refine sm_iload_n (i := 2) (j := 2) (pc' := 5) d_Ke_wouldChange_4 rfl rfl rfl ?_
  refine sm_aald (t := 6) ⟨by decide, by decide⟩ rfl (pc' := 6) d_Ke_wouldChange_5 rfl (fun v2 => ?_)
  refine sm_getR (pc' := 9) d_Ke_wouldChange_6 rfl fl_Ke_88 rfl rfl (fun v3 => ?_)
  refine sm_astore_n (i := 3) (L' := [(3, .inr (.inr v3)), (0, .inr (.inr x0)), (1, .inr (.inr x1)), (2, .inl x2)]) (pc' := 10) d_Ke_wouldChange_9 rfl rfl (Nat.le_of_ble_eq_true rfl) rfl (sm_aload_n (i := 0) (j := 1) (pc' := 11) d_Ke_wouldChange_10 rfl rfl rfl ?_)
  refine sm_getR (pc' := 14) d_Ke_wouldChange_11 rfl fl_Ke_9 rfl rfl (fun v4 => ?_)
  refine sm_iload_n (i := 2) (j := 3) (pc' := 15) d_Ke_wouldChange_14 rfl rfl rfl ?_
  refine sm_iald (pc' := 16) d_Ke_wouldChange_15 rfl (fun v5 => ?_)
  refine sm_iconst (pc' := 17) d_Ke_wouldChange_16 rfl ic_m1 ?_
  refine sm_bd (mid := fun (t9 : Int32) => .inl (32, [(0, .inr (.inr x0)), (1, .inr (.inr x1)), (2, .inl x2), (3, .inr (.inr v3))], [.inl t9])) ?_ (fun t9 => ?_)
  · refine sm_icmp_ne (tgt := 24) (pc' := 20) d_Ke_wouldChange_17 rfl rfl ?_ ?_
    · refine sm_aload_n (i := 3) (j := 0) (pc' := 25) d_Ke_wouldChange_24 rfl rfl rfl (sm_aload_n (i := 0) (j := 1) (pc' := 26) d_Ke_wouldChange_25 rfl rfl rfl ?_)
      refine sm_getR (pc' := 29) d_Ke_wouldChange_26 rfl fl_Ke_9 rfl rfl (fun v6 => ?_)
      refine sm_iload_n (i := 2) (j := 3) (pc' := 30) d_Ke_wouldChange_29 rfl rfl rfl ?_
      refine sm_iald (pc' := 31) d_Ke_wouldChange_30 rfl (fun v7 => ?_)
      refine sm_iald (pc' := 32) d_Ke_wouldChange_31 rfl (fun v8 => ?_)
      refine sm_sub [1, 2, 3, 0] rfl ?_
      exact sm_rt rfl
    · refine sm_iconst (pc' := 21) d_Ke_wouldChange_20 rfl ic_0 (sm_goto (tgt := 32) d_Ke_wouldChange_21 rfl (sm_sub [1, 2, 3, 0] rfl ?_))
      exact sm_rt rfl
  · refine sm_istore (L' := [(4, .inl t9), (0, .inr (.inr x0)), (1, .inr (.inr x1)), (2, .inl x2), (3, .inr (.inr v3))]) (pc' := 34) d_Ke_wouldChange_32 rfl (Nat.le_of_ble_eq_true rfl) rfl (sm_iconst (pc' := 35) d_Ke_wouldChange_34 rfl ic_0 (sm_istore (L' := [(5, .inl 0), (4, .inl t9), (0, .inr (.inr x0)), (1, .inr (.inr x1)), (2, .inl x2), (3, .inr (.inr v3))]) (pc' := 37) d_Ke_wouldChange_35 rfl (Nat.le_of_ble_eq_true rfl) rfl ?_))
    refine sm_sub [0, 2, 3, 4, 5, 1] rfl ?_
    refine sm_lp (hd := fun (t10 : Int32) => (.inl (37, [(5, .inl t10), (0, .inr (.inr x0)), (1, .inr (.inr x1)), (2, .inl x2), (3, .inr (.inr v3)), (4, .inl t9)], []) : mC)) (fun t10 => ?_) m_F 0
    refine sm_iload (j := 0) (pc' := 39) d_Ke_wouldChange_37 rfl rfl (sm_aload_n (i := 1) (j := 2) (pc' := 40) d_Ke_wouldChange_39 rfl rfl rfl ?_)
    refine sm_getI (pc' := 43) d_Ke_wouldChange_40 rfl fl_Ke_46 rfl ⟨by decide, by decide⟩ (fun v11 => ?_)
    refine sm_icmp_ge (tgt := 87) (pc' := 46) d_Ke_wouldChange_43 rfl rfl ?_ ?_
    · refine sm_iconst (pc' := 88) d_Ke_wouldChange_87 rfl ic_0 ?_
      exact sm_zreturn d_Ke_wouldChange_88 rfl (by decide) rfl
    · refine sm_aload_n (i := 3) (j := 4) (pc' := 47) d_Ke_wouldChange_46 rfl rfl rfl (sm_iload (j := 0) (pc' := 49) d_Ke_wouldChange_47 rfl rfl ?_)
      refine sm_iald (pc' := 50) d_Ke_wouldChange_49 rfl (fun v12 => ?_)
      refine sm_iload (j := 5) (pc' := 52) d_Ke_wouldChange_50 rfl rfl ?_
      refine sm_icmp_le (tgt := 81) (pc' := 55) d_Ke_wouldChange_52 rfl rfl ?_ ?_
      · refine sm_iinc (j := 0) (L' := [(5, .inl (t10 + 1)), (0, .inr (.inr x0)), (1, .inr (.inr x1)), (2, .inl x2), (3, .inr (.inr v3)), (4, .inl t9)]) (pc' := 84) d_Ke_wouldChange_81 rfl (v := (t10 + 1)) rfl (ix_1 _) (Nat.le_of_ble_eq_true rfl) rfl (sm_goto (tgt := 37) d_Ke_wouldChange_84 rfl (sm_sub [0, 1, 2, 3, 4, 5] rfl ?_))
        exact sm_rt rfl
      · refine sm_aload_n (i := 1) (j := 2) (pc' := 56) d_Ke_wouldChange_55 rfl rfl rfl ?_
        refine sm_getR (pc' := 59) d_Ke_wouldChange_56 rfl fl_Ke_74 rfl rfl (fun v13 => ?_)
        refine sm_iload (j := 0) (pc' := 61) d_Ke_wouldChange_59 rfl rfl ?_
        refine sm_aald (t := 7) ⟨by decide, by decide⟩ rfl (pc' := 62) d_Ke_wouldChange_61 rfl (fun v14 => ?_)
        refine sm_callVi (ci := 5) (x := v14) (av := []) (st := []) (mc := 0) (ms := 0) (pc' := 65) d_Ke_wouldChange_62 rfl (sd_Th_isThrough v14) m_lv rfl cv_Th_isThrough w_ml_Ke_78 rfl rfl (by decide) (Nat.le_of_ble_eq_true rfl) rfl rfl (fun v15 => ?_)
        refine sm_if_ne (tgt := 81) (pc' := 68) d_Ke_wouldChange_65 rfl rfl ?_ ?_
        · refine sm_iinc (j := 0) (L' := [(5, .inl (t10 + 1)), (0, .inr (.inr x0)), (1, .inr (.inr x1)), (2, .inl x2), (3, .inr (.inr v3)), (4, .inl t9)]) (pc' := 84) d_Ke_wouldChange_81 rfl (v := (t10 + 1)) rfl (ix_1 _) (Nat.le_of_ble_eq_true rfl) rfl (sm_goto (tgt := 37) d_Ke_wouldChange_84 rfl (sm_sub [0, 1, 2, 3, 4, 5] rfl ?_))
          exact sm_rt rfl
        · refine sm_aload_n (i := 0) (j := 1) (pc' := 69) d_Ke_wouldChange_68 rfl rfl rfl (sm_aload_n (i := 1) (j := 2) (pc' := 70) d_Ke_wouldChange_69 rfl rfl rfl (sm_iload_n (i := 2) (j := 3) (pc' := 71) d_Ke_wouldChange_70 rfl rfl rfl (sm_iload (j := 0) (pc' := 73) d_Ke_wouldChange_71 rfl rfl ?_)))
          refine sm_callVi (ci := 9) (x := x0) (av := [.inr (.inr x1), .inl x2, .inl t10]) (st := []) (mc := 0) (ms := 0) (pc' := 76) d_Ke_wouldChange_73 rfl (sd_Ke_wouldTake x0 x1 x2 t10) m_lv rfl cv_Ke_wouldTake w_ml_Ke_108 rfl rfl (by decide) (Nat.le_of_ble_eq_true rfl) rfl rfl (fun v16 => ?_)
          refine sm_if_eq (tgt := 81) (pc' := 79) d_Ke_wouldChange_76 rfl rfl ?_ ?_
          · refine sm_iinc (j := 0) (L' := [(5, .inl (t10 + 1)), (0, .inr (.inr x0)), (1, .inr (.inr x1)), (2, .inl x2), (3, .inr (.inr v3)), (4, .inl t9)]) (pc' := 84) d_Ke_wouldChange_81 rfl (v := (t10 + 1)) rfl (ix_1 _) (Nat.le_of_ble_eq_true rfl) rfl (sm_goto (tgt := 37) d_Ke_wouldChange_84 rfl (sm_sub [0, 1, 2, 3, 4, 5] rfl ?_))
            exact sm_rt rfl
          · refine sm_iconst (pc' := 80) d_Ke_wouldChange_79 rfl ic_1 ?_
            exact sm_zreturn d_Ke_wouldChange_80 rfl (by decide) rfl
theorem d_Ke_isStable_0 : m_D k_Ke_isStable 0 (.iconst 0) 1 := (by decide +kernel : decode prog_5_method_16_code 0 = .ok (.iconst 0, 1))
theorem d_Ke_isStable_1 : m_D k_Ke_isStable 1 (.istore_n 2) 1 := (by decide +kernel : decode prog_5_method_16_code 1 = .ok (.istore_n 2, 1))
theorem d_Ke_isStable_2 : m_D k_Ke_isStable 2 (.iload_n 2) 1 := (by decide +kernel : decode prog_5_method_16_code 2 = .ok (.iload_n 2, 1))
theorem d_Ke_isStable_3 : m_D k_Ke_isStable 3 (.aload_n 0) 1 := (by decide +kernel : decode prog_5_method_16_code 3 = .ok (.aload_n 0, 1))
theorem d_Ke_isStable_4 : m_D k_Ke_isStable 4 (.getfield 27) 3 := (by decide +kernel : decode prog_5_method_16_code 4 = .ok (.getfield 27, 3))
theorem d_Ke_isStable_7 : m_D k_Ke_isStable 7 (.if_icmp .ge 25) 3 := (by decide +kernel : decode prog_5_method_16_code 7 = .ok (.if_icmp .ge 25, 3))
theorem d_Ke_isStable_10 : m_D k_Ke_isStable 10 (.aload_n 0) 1 := (by decide +kernel : decode prog_5_method_16_code 10 = .ok (.aload_n 0, 1))
theorem d_Ke_isStable_11 : m_D k_Ke_isStable 11 (.aload_n 1) 1 := (by decide +kernel : decode prog_5_method_16_code 11 = .ok (.aload_n 1, 1))
theorem d_Ke_isStable_12 : m_D k_Ke_isStable 12 (.aload_n 0) 1 := (by decide +kernel : decode prog_5_method_16_code 12 = .ok (.aload_n 0, 1))
theorem d_Ke_isStable_13 : m_D k_Ke_isStable 13 (.getfield 21) 3 := (by decide +kernel : decode prog_5_method_16_code 13 = .ok (.getfield 21, 3))
theorem d_Ke_isStable_16 : m_D k_Ke_isStable 16 (.iload_n 2) 1 := (by decide +kernel : decode prog_5_method_16_code 16 = .ok (.iload_n 2, 1))
theorem d_Ke_isStable_17 : m_D k_Ke_isStable 17 (.iaload) 1 := (by decide +kernel : decode prog_5_method_16_code 17 = .ok (.iaload, 1))
theorem d_Ke_isStable_18 : m_D k_Ke_isStable 18 (.invokevirtual 117) 3 := (by decide +kernel : decode prog_5_method_16_code 18 = .ok (.invokevirtual 117, 3))
theorem d_Ke_isStable_21 : m_D k_Ke_isStable 21 (.ifCond .eq 5) 3 := (by decide +kernel : decode prog_5_method_16_code 21 = .ok (.ifCond .eq 5, 3))
theorem d_Ke_isStable_24 : m_D k_Ke_isStable 24 (.iconst 0) 1 := (by decide +kernel : decode prog_5_method_16_code 24 = .ok (.iconst 0, 1))
theorem d_Ke_isStable_25 : m_D k_Ke_isStable 25 (.ireturn) 1 := (by decide +kernel : decode prog_5_method_16_code 25 = .ok (.ireturn, 1))
theorem d_Ke_isStable_26 : m_D k_Ke_isStable 26 (.iinc 2 1) 3 := (by decide +kernel : decode prog_5_method_16_code 26 = .ok (.iinc 2 1, 3))
theorem d_Ke_isStable_29 : m_D k_Ke_isStable 29 (.goto (-27)) 3 := (by decide +kernel : decode prog_5_method_16_code 29 = .ok (.goto (-27), 3))
theorem d_Ke_isStable_32 : m_D k_Ke_isStable 32 (.iconst 1) 1 := (by decide +kernel : decode prog_5_method_16_code 32 = .ok (.iconst 1, 1))
theorem d_Ke_isStable_33 : m_D k_Ke_isStable 33 (.ireturn) 1 := (by decide +kernel : decode prog_5_method_16_code 33 = .ok (.ireturn, 1))
def fn_Ke_isStable_l2 (x0 : Option mA) (x1 : Option mA) (t1 : Int32) : mP ((Int32) ⊕ (Int32)) :=
  m_bd (m_gI 9 4 x0) fun v2 =>
  if v2 ≤ t1 then
    m_rt (.inr 1)
  else
    m_bd (m_gR 9 3 x0) fun v3 =>
    m_bd (m_aI 0 v3 t1) fun v4 =>
    m_bd (fn_Ke_wouldChange x0 x1 v4) fun v5 =>
    if v5 = 0 then
      m_rt (.inl (t1 + 1))
    else
      m_rt (.inr 0)
def fn_Ke_isStable (x0 : Option mA) (x1 : Option mA) : mP Int32 :=
  m_th 9 x0 <|
  m_lp (fn_Ke_isStable_l2 x0 x1) m_F 0
set_option maxHeartbeats 4000000 in
set_option maxRecDepth 100000 in
theorem sd_Ke_isStable (x0 : Option mA) (x1 : Option mA) : m_Sm k_Ke_isStable 3 0 0 [.inr (.inr x0), .inr (.inr x1)] (fn_Ke_isStable x0 x1) (fun b => some (.inl b)) := by
  refine ⟨Nat.le_of_ble_eq_true rfl, ?_⟩
  refine sm_th ?_
  refine sm_iconst (pc' := 1) d_Ke_isStable_0 rfl ic_0 (sm_istore_n (i := 2) (L' := [(2, .inl 0), (0, .inr (.inr x0)), (1, .inr (.inr x1))]) (pc' := 2) d_Ke_isStable_1 rfl rfl (Nat.le_of_ble_eq_true rfl) rfl ?_)
  refine sm_sub [0, 1, 2] rfl ?_
  refine sm_lp (hd := fun (t1 : Int32) => (.inl (2, [(2, .inl t1), (0, .inr (.inr x0)), (1, .inr (.inr x1))], []) : mC)) (fun t1 => ?_) m_F 0
  refine sm_iload_n (i := 2) (j := 0) (pc' := 3) d_Ke_isStable_2 rfl rfl rfl (sm_aload_n (i := 0) (j := 1) (pc' := 4) d_Ke_isStable_3 rfl rfl rfl ?_)
  refine sm_getI (pc' := 7) d_Ke_isStable_4 rfl fl_Ke_27 rfl ⟨by decide, by decide⟩ (fun v2 => ?_)
  refine sm_icmp_ge (tgt := 32) (pc' := 10) d_Ke_isStable_7 rfl rfl ?_ ?_
  · refine sm_iconst (pc' := 33) d_Ke_isStable_32 rfl ic_1 ?_
    exact sm_zreturn d_Ke_isStable_33 rfl (by decide) rfl
  · refine sm_aload_n (i := 0) (j := 1) (pc' := 11) d_Ke_isStable_10 rfl rfl rfl (sm_aload_n (i := 1) (j := 2) (pc' := 12) d_Ke_isStable_11 rfl rfl rfl (sm_aload_n (i := 0) (j := 1) (pc' := 13) d_Ke_isStable_12 rfl rfl rfl ?_))
    refine sm_getR (pc' := 16) d_Ke_isStable_13 rfl fl_Ke_21 rfl rfl (fun v3 => ?_)
    refine sm_iload_n (i := 2) (j := 0) (pc' := 17) d_Ke_isStable_16 rfl rfl rfl ?_
    refine sm_iald (pc' := 18) d_Ke_isStable_17 rfl (fun v4 => ?_)
    refine sm_callVi (ci := 9) (x := x0) (av := [.inr (.inr x1), .inl v4]) (st := []) (mc := 0) (ms := 0) (pc' := 21) d_Ke_isStable_18 rfl (sd_Ke_wouldChange x0 x1 v4) m_lv rfl cv_Ke_wouldChange w_ml_Ke_117 rfl rfl (by decide) (Nat.le_of_ble_eq_true rfl) rfl rfl (fun v5 => ?_)
    refine sm_if_eq (tgt := 26) (pc' := 24) d_Ke_isStable_21 rfl rfl ?_ ?_
    · refine sm_iinc (j := 0) (L' := [(2, .inl (t1 + 1)), (0, .inr (.inr x0)), (1, .inr (.inr x1))]) (pc' := 29) d_Ke_isStable_26 rfl (v := (t1 + 1)) rfl (ix_1 _) (Nat.le_of_ble_eq_true rfl) rfl (sm_goto (tgt := 2) d_Ke_isStable_29 rfl (sm_sub [0, 1, 2] rfl ?_))
      exact sm_rt rfl
    · refine sm_iconst (pc' := 25) d_Ke_isStable_24 rfl ic_0 ?_
      exact sm_zreturn d_Ke_isStable_25 rfl (by decide) rfl
theorem d_Ke_countFrom_0 : m_D k_Ke_countFrom 0 (.iload_n 2) 1 := (by decide +kernel : decode prog_5_method_15_code 0 = .ok (.iload_n 2, 1))
theorem d_Ke_countFrom_1 : m_D k_Ke_countFrom 1 (.aload_n 0) 1 := (by decide +kernel : decode prog_5_method_15_code 1 = .ok (.aload_n 0, 1))
theorem d_Ke_countFrom_2 : m_D k_Ke_countFrom 2 (.getfield 27) 3 := (by decide +kernel : decode prog_5_method_15_code 2 = .ok (.getfield 27, 3))
theorem d_Ke_countFrom_5 : m_D k_Ke_countFrom 5 (.if_icmp .lt 17) 3 := (by decide +kernel : decode prog_5_method_15_code 5 = .ok (.if_icmp .lt 17, 3))
theorem d_Ke_countFrom_8 : m_D k_Ke_countFrom 8 (.aload_n 0) 1 := (by decide +kernel : decode prog_5_method_15_code 8 = .ok (.aload_n 0, 1))
theorem d_Ke_countFrom_9 : m_D k_Ke_countFrom 9 (.aload_n 1) 1 := (by decide +kernel : decode prog_5_method_15_code 9 = .ok (.aload_n 1, 1))
theorem d_Ke_countFrom_10 : m_D k_Ke_countFrom 10 (.invokevirtual 114) 3 := (by decide +kernel : decode prog_5_method_15_code 10 = .ok (.invokevirtual 114, 3))
theorem d_Ke_countFrom_13 : m_D k_Ke_countFrom 13 (.ifCond .eq 7) 3 := (by decide +kernel : decode prog_5_method_15_code 13 = .ok (.ifCond .eq 7, 3))
theorem d_Ke_countFrom_16 : m_D k_Ke_countFrom 16 (.iconst 1) 1 := (by decide +kernel : decode prog_5_method_15_code 16 = .ok (.iconst 1, 1))
theorem d_Ke_countFrom_17 : m_D k_Ke_countFrom 17 (.goto 4) 3 := (by decide +kernel : decode prog_5_method_15_code 17 = .ok (.goto 4, 3))
theorem d_Ke_countFrom_20 : m_D k_Ke_countFrom 20 (.iconst 0) 1 := (by decide +kernel : decode prog_5_method_15_code 20 = .ok (.iconst 0, 1))
theorem d_Ke_countFrom_21 : m_D k_Ke_countFrom 21 (.ireturn) 1 := (by decide +kernel : decode prog_5_method_15_code 21 = .ok (.ireturn, 1))
theorem d_Ke_countFrom_22 : m_D k_Ke_countFrom 22 (.aload_n 0) 1 := (by decide +kernel : decode prog_5_method_15_code 22 = .ok (.aload_n 0, 1))
theorem d_Ke_countFrom_23 : m_D k_Ke_countFrom 23 (.getfield 21) 3 := (by decide +kernel : decode prog_5_method_15_code 23 = .ok (.getfield 21, 3))
theorem d_Ke_countFrom_26 : m_D k_Ke_countFrom 26 (.iload_n 2) 1 := (by decide +kernel : decode prog_5_method_15_code 26 = .ok (.iload_n 2, 1))
theorem d_Ke_countFrom_27 : m_D k_Ke_countFrom 27 (.iaload) 1 := (by decide +kernel : decode prog_5_method_15_code 27 = .ok (.iaload, 1))
theorem d_Ke_countFrom_28 : m_D k_Ke_countFrom 28 (.istore_n 3) 1 := (by decide +kernel : decode prog_5_method_15_code 28 = .ok (.istore_n 3, 1))
theorem d_Ke_countFrom_29 : m_D k_Ke_countFrom 29 (.aload_n 0) 1 := (by decide +kernel : decode prog_5_method_15_code 29 = .ok (.aload_n 0, 1))
theorem d_Ke_countFrom_30 : m_D k_Ke_countFrom 30 (.aload_n 1) 1 := (by decide +kernel : decode prog_5_method_15_code 30 = .ok (.aload_n 1, 1))
theorem d_Ke_countFrom_31 : m_D k_Ke_countFrom 31 (.iload_n 2) 1 := (by decide +kernel : decode prog_5_method_15_code 31 = .ok (.iload_n 2, 1))
theorem d_Ke_countFrom_32 : m_D k_Ke_countFrom 32 (.iconst 1) 1 := (by decide +kernel : decode prog_5_method_15_code 32 = .ok (.iconst 1, 1))
theorem d_Ke_countFrom_33 : m_D k_Ke_countFrom 33 (.iadd) 1 := (by decide +kernel : decode prog_5_method_15_code 33 = .ok (.iadd, 1))
theorem d_Ke_countFrom_34 : m_D k_Ke_countFrom 34 (.invokevirtual 111) 3 := (by decide +kernel : decode prog_5_method_15_code 34 = .ok (.invokevirtual 111, 3))
theorem d_Ke_countFrom_37 : m_D k_Ke_countFrom 37 (.istore 4) 2 := (by decide +kernel : decode prog_5_method_15_code 37 = .ok (.istore 4, 2))
theorem d_Ke_countFrom_39 : m_D k_Ke_countFrom 39 (.iconst 0) 1 := (by decide +kernel : decode prog_5_method_15_code 39 = .ok (.iconst 0, 1))
theorem d_Ke_countFrom_40 : m_D k_Ke_countFrom 40 (.istore 5) 2 := (by decide +kernel : decode prog_5_method_15_code 40 = .ok (.istore 5, 2))
theorem d_Ke_countFrom_42 : m_D k_Ke_countFrom 42 (.iload 5) 2 := (by decide +kernel : decode prog_5_method_15_code 42 = .ok (.iload 5, 2))
theorem d_Ke_countFrom_44 : m_D k_Ke_countFrom 44 (.aload_n 1) 1 := (by decide +kernel : decode prog_5_method_15_code 44 = .ok (.aload_n 1, 1))
theorem d_Ke_countFrom_45 : m_D k_Ke_countFrom 45 (.getfield 46) 3 := (by decide +kernel : decode prog_5_method_15_code 45 = .ok (.getfield 46, 3))
theorem d_Ke_countFrom_48 : m_D k_Ke_countFrom 48 (.if_icmp .ge 77) 3 := (by decide +kernel : decode prog_5_method_15_code 48 = .ok (.if_icmp .ge 77, 3))
theorem d_Ke_countFrom_51 : m_D k_Ke_countFrom 51 (.aload_n 0) 1 := (by decide +kernel : decode prog_5_method_15_code 51 = .ok (.aload_n 0, 1))
theorem d_Ke_countFrom_52 : m_D k_Ke_countFrom 52 (.getfield 15) 3 := (by decide +kernel : decode prog_5_method_15_code 52 = .ok (.getfield 15, 3))
theorem d_Ke_countFrom_55 : m_D k_Ke_countFrom 55 (.iload 5) 2 := (by decide +kernel : decode prog_5_method_15_code 55 = .ok (.iload 5, 2))
theorem d_Ke_countFrom_57 : m_D k_Ke_countFrom 57 (.iaload) 1 := (by decide +kernel : decode prog_5_method_15_code 57 = .ok (.iaload, 1))
theorem d_Ke_countFrom_58 : m_D k_Ke_countFrom 58 (.iconst (-1)) 1 := (by decide +kernel : decode prog_5_method_15_code 58 = .ok (.iconst (-1), 1))
theorem d_Ke_countFrom_59 : m_D k_Ke_countFrom 59 (.if_icmp .ne 60) 3 := (by decide +kernel : decode prog_5_method_15_code 59 = .ok (.if_icmp .ne 60, 3))
theorem d_Ke_countFrom_62 : m_D k_Ke_countFrom 62 (.aload_n 1) 1 := (by decide +kernel : decode prog_5_method_15_code 62 = .ok (.aload_n 1, 1))
theorem d_Ke_countFrom_63 : m_D k_Ke_countFrom 63 (.getfield 74) 3 := (by decide +kernel : decode prog_5_method_15_code 63 = .ok (.getfield 74, 3))
theorem d_Ke_countFrom_66 : m_D k_Ke_countFrom 66 (.iload 5) 2 := (by decide +kernel : decode prog_5_method_15_code 66 = .ok (.iload 5, 2))
theorem d_Ke_countFrom_68 : m_D k_Ke_countFrom 68 (.aaload) 1 := (by decide +kernel : decode prog_5_method_15_code 68 = .ok (.aaload, 1))
theorem d_Ke_countFrom_69 : m_D k_Ke_countFrom 69 (.invokevirtual 78) 3 := (by decide +kernel : decode prog_5_method_15_code 69 = .ok (.invokevirtual 78, 3))
theorem d_Ke_countFrom_72 : m_D k_Ke_countFrom 72 (.ifCond .ne 47) 3 := (by decide +kernel : decode prog_5_method_15_code 72 = .ok (.ifCond .ne 47, 3))
theorem d_Ke_countFrom_75 : m_D k_Ke_countFrom 75 (.aload_n 0) 1 := (by decide +kernel : decode prog_5_method_15_code 75 = .ok (.aload_n 0, 1))
theorem d_Ke_countFrom_76 : m_D k_Ke_countFrom 76 (.getfield 15) 3 := (by decide +kernel : decode prog_5_method_15_code 76 = .ok (.getfield 15, 3))
theorem d_Ke_countFrom_79 : m_D k_Ke_countFrom 79 (.iload 5) 2 := (by decide +kernel : decode prog_5_method_15_code 79 = .ok (.iload 5, 2))
theorem d_Ke_countFrom_81 : m_D k_Ke_countFrom 81 (.iload_n 3) 1 := (by decide +kernel : decode prog_5_method_15_code 81 = .ok (.iload_n 3, 1))
theorem d_Ke_countFrom_82 : m_D k_Ke_countFrom 82 (.iastore) 1 := (by decide +kernel : decode prog_5_method_15_code 82 = .ok (.iastore, 1))
theorem d_Ke_countFrom_83 : m_D k_Ke_countFrom 83 (.aload_n 0) 1 := (by decide +kernel : decode prog_5_method_15_code 83 = .ok (.aload_n 0, 1))
theorem d_Ke_countFrom_84 : m_D k_Ke_countFrom 84 (.getfield 9) 3 := (by decide +kernel : decode prog_5_method_15_code 84 = .ok (.getfield 9, 3))
theorem d_Ke_countFrom_87 : m_D k_Ke_countFrom 87 (.iload_n 3) 1 := (by decide +kernel : decode prog_5_method_15_code 87 = .ok (.iload_n 3, 1))
theorem d_Ke_countFrom_88 : m_D k_Ke_countFrom 88 (.iload 5) 2 := (by decide +kernel : decode prog_5_method_15_code 88 = .ok (.iload 5, 2))
theorem d_Ke_countFrom_90 : m_D k_Ke_countFrom 90 (.iastore) 1 := (by decide +kernel : decode prog_5_method_15_code 90 = .ok (.iastore, 1))
theorem d_Ke_countFrom_91 : m_D k_Ke_countFrom 91 (.iload 4) 2 := (by decide +kernel : decode prog_5_method_15_code 91 = .ok (.iload 4, 2))
theorem d_Ke_countFrom_93 : m_D k_Ke_countFrom 93 (.aload_n 0) 1 := (by decide +kernel : decode prog_5_method_15_code 93 = .ok (.aload_n 0, 1))
theorem d_Ke_countFrom_94 : m_D k_Ke_countFrom 94 (.aload_n 1) 1 := (by decide +kernel : decode prog_5_method_15_code 94 = .ok (.aload_n 1, 1))
theorem d_Ke_countFrom_95 : m_D k_Ke_countFrom 95 (.iload_n 2) 1 := (by decide +kernel : decode prog_5_method_15_code 95 = .ok (.iload_n 2, 1))
theorem d_Ke_countFrom_96 : m_D k_Ke_countFrom 96 (.iconst 1) 1 := (by decide +kernel : decode prog_5_method_15_code 96 = .ok (.iconst 1, 1))
theorem d_Ke_countFrom_97 : m_D k_Ke_countFrom 97 (.iadd) 1 := (by decide +kernel : decode prog_5_method_15_code 97 = .ok (.iadd, 1))
theorem d_Ke_countFrom_98 : m_D k_Ke_countFrom 98 (.invokevirtual 111) 3 := (by decide +kernel : decode prog_5_method_15_code 98 = .ok (.invokevirtual 111, 3))
theorem d_Ke_countFrom_101 : m_D k_Ke_countFrom 101 (.iadd) 1 := (by decide +kernel : decode prog_5_method_15_code 101 = .ok (.iadd, 1))
theorem d_Ke_countFrom_102 : m_D k_Ke_countFrom 102 (.istore 4) 2 := (by decide +kernel : decode prog_5_method_15_code 102 = .ok (.istore 4, 2))
theorem d_Ke_countFrom_104 : m_D k_Ke_countFrom 104 (.aload_n 0) 1 := (by decide +kernel : decode prog_5_method_15_code 104 = .ok (.aload_n 0, 1))
theorem d_Ke_countFrom_105 : m_D k_Ke_countFrom 105 (.getfield 15) 3 := (by decide +kernel : decode prog_5_method_15_code 105 = .ok (.getfield 15, 3))
theorem d_Ke_countFrom_108 : m_D k_Ke_countFrom 108 (.iload 5) 2 := (by decide +kernel : decode prog_5_method_15_code 108 = .ok (.iload 5, 2))
theorem d_Ke_countFrom_110 : m_D k_Ke_countFrom 110 (.iconst (-1)) 1 := (by decide +kernel : decode prog_5_method_15_code 110 = .ok (.iconst (-1), 1))
theorem d_Ke_countFrom_111 : m_D k_Ke_countFrom 111 (.iastore) 1 := (by decide +kernel : decode prog_5_method_15_code 111 = .ok (.iastore, 1))
theorem d_Ke_countFrom_112 : m_D k_Ke_countFrom 112 (.aload_n 0) 1 := (by decide +kernel : decode prog_5_method_15_code 112 = .ok (.aload_n 0, 1))
theorem d_Ke_countFrom_113 : m_D k_Ke_countFrom 113 (.getfield 9) 3 := (by decide +kernel : decode prog_5_method_15_code 113 = .ok (.getfield 9, 3))
theorem d_Ke_countFrom_116 : m_D k_Ke_countFrom 116 (.iload_n 3) 1 := (by decide +kernel : decode prog_5_method_15_code 116 = .ok (.iload_n 3, 1))
theorem d_Ke_countFrom_117 : m_D k_Ke_countFrom 117 (.iconst (-1)) 1 := (by decide +kernel : decode prog_5_method_15_code 117 = .ok (.iconst (-1), 1))
theorem d_Ke_countFrom_118 : m_D k_Ke_countFrom 118 (.iastore) 1 := (by decide +kernel : decode prog_5_method_15_code 118 = .ok (.iastore, 1))
theorem d_Ke_countFrom_119 : m_D k_Ke_countFrom 119 (.iinc 5 1) 3 := (by decide +kernel : decode prog_5_method_15_code 119 = .ok (.iinc 5 1, 3))
theorem d_Ke_countFrom_122 : m_D k_Ke_countFrom 122 (.goto (-80)) 3 := (by decide +kernel : decode prog_5_method_15_code 122 = .ok (.goto (-80), 3))
theorem d_Ke_countFrom_125 : m_D k_Ke_countFrom 125 (.iload 4) 2 := (by decide +kernel : decode prog_5_method_15_code 125 = .ok (.iload 4, 2))
theorem d_Ke_countFrom_127 : m_D k_Ke_countFrom 127 (.ireturn) 1 := (by decide +kernel : decode prog_5_method_15_code 127 = .ok (.ireturn, 1))
def fn_Ke_countFrom_l42 (r : Option mA → Option mA → Int32 → mP Int32) (x0 : Option mA) (x1 : Option mA) (x2 : Int32) (v3 : Int32) (t5 : Int32 × Int32) : mP ((Int32 × Int32) ⊕ (Int32)) :=
  m_bd (m_gI 3 1 x1) fun v6 =>
  if v6 ≤ t5.2 then
    m_rt (.inr t5.1)
  else
    m_bd (m_gR 9 1 x0) fun v7 =>
    m_bd (m_aI 0 v7 t5.2) fun v8 =>
    m_bd (α := Int32) (
      if v8 = (-1) then
        m_bd (m_gR 3 8 x1) fun v9 =>
        m_bd (m_aR 7 v9 t5.2) fun v10 =>
        m_bd (fn_Th_isThrough v10) fun v11 =>
        if v11 = 0 then
          m_bd (m_gR 9 1 x0) fun v12 =>
          m_bd (m_tI 0 v12 t5.2 v3) fun _ =>
          m_bd (m_gR 9 0 x0) fun v13 =>
          m_bd (m_tI 0 v13 v3 t5.2) fun _ =>
          m_bd (r x0 x1 (x2 + 1)) fun v14 =>
          m_bd (m_gR 9 1 x0) fun v15 =>
          m_bd (m_tI 0 v15 t5.2 (-1)) fun _ =>
          m_bd (m_gR 9 0 x0) fun v16 =>
          m_bd (m_tI 0 v16 v3 (-1)) fun _ =>
          m_rt (t5.1 + v14)
        else
          m_rt t5.1
      else
        m_rt t5.1
      ) fun (t17 : Int32) =>
    m_rt (.inl (t17, (t5.2 + 1)))
def fn_Ke_countFrom_r (r : Option mA → Option mA → Int32 → mP Int32) (x0 : Option mA) (x1 : Option mA) (x2 : Int32) : mP Int32 :=
  m_th 9 x0 <|
  m_bd (m_gI 9 4 x0) fun v1 =>
  if x2 < v1 then
    m_bd (m_gR 9 3 x0) fun v2 =>
    m_bd (m_aI 0 v2 x2) fun v3 =>
    m_bd (r x0 x1 (x2 + 1)) fun v4 =>
    m_bd (m_lp (fn_Ke_countFrom_l42 r x0 x1 x2 v3) m_F (v4, 0)) fun (t18 : Int32) =>
    m_rt t18
  else
    m_bd (fn_Ke_isStable x0 x1) fun v19 =>
    if v19 = 0 then
      m_rt 0
    else
      m_rt 1
set_option maxHeartbeats 4000000 in
set_option maxRecDepth 100000 in
theorem sd_Ke_countFrom_r (r : Option mA → Option mA → Int32 → mP Int32) (dr : Nat) (hr : ∀ (y0 : Option mA) (y1 : Option mA) (y2 : Int32), m_Sm k_Ke_countFrom dr 0 0 [.inr (.inr y0), .inr (.inr y1), .inl y2] (r y0 y1 y2) (fun b => some (.inl b))) (hv : ∀ (y0 : Option mA) (y1 : Option mA) (y2 : Int32), m_Lv 9 y0 (r y0 y1 y2)) (x0 : Option mA) (x1 : Option mA) (x2 : Int32) : m_Sm k_Ke_countFrom ((max 4 (dr + 1))) 0 0 [.inr (.inr x0), .inr (.inr x1), .inl x2] (fn_Ke_countFrom_r r x0 x1 x2) (fun b => some (.inl b)) := by
  refine ⟨Nat.le_of_ble_eq_true rfl, ?_⟩
  refine sm_th ?_
  refine sm_iload_n (i := 2) (j := 2) (pc' := 1) d_Ke_countFrom_0 rfl rfl rfl (sm_aload_n (i := 0) (j := 0) (pc' := 2) d_Ke_countFrom_1 rfl rfl rfl ?_)
  refine sm_getI (pc' := 5) d_Ke_countFrom_2 rfl fl_Ke_27 rfl ⟨by decide, by decide⟩ (fun v1 => ?_)
  refine sm_icmp_lt (tgt := 22) (pc' := 8) d_Ke_countFrom_5 rfl rfl ?_ ?_
  · refine sm_aload_n (i := 0) (j := 0) (pc' := 23) d_Ke_countFrom_22 rfl rfl rfl ?_
    refine sm_getR (pc' := 26) d_Ke_countFrom_23 rfl fl_Ke_21 rfl rfl (fun v2 => ?_)
    refine sm_iload_n (i := 2) (j := 2) (pc' := 27) d_Ke_countFrom_26 rfl rfl rfl ?_
    refine sm_iald (pc' := 28) d_Ke_countFrom_27 rfl (fun v3 => ?_)
    refine sm_istore_n (i := 3) (L' := [(3, .inl v3), (0, .inr (.inr x0)), (1, .inr (.inr x1)), (2, .inl x2)]) (pc' := 29) d_Ke_countFrom_28 rfl rfl (Nat.le_of_ble_eq_true rfl) rfl (sm_aload_n (i := 0) (j := 1) (pc' := 30) d_Ke_countFrom_29 rfl rfl rfl (sm_aload_n (i := 1) (j := 2) (pc' := 31) d_Ke_countFrom_30 rfl rfl rfl (sm_iload_n (i := 2) (j := 3) (pc' := 32) d_Ke_countFrom_31 rfl rfl rfl (sm_iconst (pc' := 33) d_Ke_countFrom_32 rfl ic_1 (sm_iadd (pc' := 34) d_Ke_countFrom_33 rfl ?_)))))
    refine sm_callVi (ci := 9) (x := x0) (av := [.inr (.inr x1), .inl (x2 + 1)]) (st := []) (mc := 0) (ms := 0) (pc' := 37) d_Ke_countFrom_34 rfl (hr x0 x1 (x2 + 1)) (hv x0 x1 (x2 + 1)) rfl cv_Ke_countFrom w_ml_Ke_111 rfl rfl (by omega) (Nat.le_of_ble_eq_true rfl) rfl rfl (fun v4 => ?_)
    refine sm_istore (L' := [(4, .inl v4), (3, .inl v3), (0, .inr (.inr x0)), (1, .inr (.inr x1)), (2, .inl x2)]) (pc' := 39) d_Ke_countFrom_37 rfl (Nat.le_of_ble_eq_true rfl) rfl (sm_iconst (pc' := 40) d_Ke_countFrom_39 rfl ic_0 (sm_istore (L' := [(5, .inl 0), (4, .inl v4), (3, .inl v3), (0, .inr (.inr x0)), (1, .inr (.inr x1)), (2, .inl x2)]) (pc' := 42) d_Ke_countFrom_40 rfl (Nat.le_of_ble_eq_true rfl) rfl ?_))
    refine sm_sub [1, 0, 3, 4, 5, 2] rfl ?_
    refine sm_bd (mid := fun (t18 : Int32) => .inl (125, [(4, .inl t18)], [])) (sm_lp (hd := fun (t5 : Int32 × Int32) => (.inl (42, [(4, .inl t5.1), (5, .inl t5.2), (0, .inr (.inr x0)), (1, .inr (.inr x1)), (2, .inl x2), (3, .inl v3)], []) : mC)) (fun t5 => ?_) m_F (v4, 0)) (fun t18 => ?_)
    · refine sm_iload (j := 1) (pc' := 44) d_Ke_countFrom_42 rfl rfl (sm_aload_n (i := 1) (j := 3) (pc' := 45) d_Ke_countFrom_44 rfl rfl rfl ?_)
      refine sm_getI (pc' := 48) d_Ke_countFrom_45 rfl fl_Ke_46 rfl ⟨by decide, by decide⟩ (fun v6 => ?_)
      refine sm_icmp_ge (tgt := 125) (pc' := 51) d_Ke_countFrom_48 rfl rfl ?_ ?_
      · refine sm_sub [0] rfl ?_
        exact sm_rt rfl
      · refine sm_aload_n (i := 0) (j := 2) (pc' := 52) d_Ke_countFrom_51 rfl rfl rfl ?_
        refine sm_getR (pc' := 55) d_Ke_countFrom_52 rfl fl_Ke_15 rfl rfl (fun v7 => ?_)
        refine sm_iload (j := 1) (pc' := 57) d_Ke_countFrom_55 rfl rfl ?_
        refine sm_iald (pc' := 58) d_Ke_countFrom_57 rfl (fun v8 => ?_)
        refine sm_iconst (pc' := 59) d_Ke_countFrom_58 rfl ic_m1 ?_
        refine sm_bd (mid := fun (t17 : Int32) => .inl (119, [(0, .inr (.inr x0)), (1, .inr (.inr x1)), (2, .inl x2), (3, .inl v3), (4, .inl t17), (5, .inl t5.2)], [])) ?_ (fun t17 => ?_)
        · refine sm_icmp_ne (tgt := 119) (pc' := 62) d_Ke_countFrom_59 rfl rfl ?_ ?_
          · refine sm_sub [2, 3, 4, 5, 0, 1] rfl ?_
            exact sm_rt rfl
          · refine sm_aload_n (i := 1) (j := 3) (pc' := 63) d_Ke_countFrom_62 rfl rfl rfl ?_
            refine sm_getR (pc' := 66) d_Ke_countFrom_63 rfl fl_Ke_74 rfl rfl (fun v9 => ?_)
            refine sm_iload (j := 1) (pc' := 68) d_Ke_countFrom_66 rfl rfl ?_
            refine sm_aald (t := 7) ⟨by decide, by decide⟩ rfl (pc' := 69) d_Ke_countFrom_68 rfl (fun v10 => ?_)
            refine sm_callVi (ci := 5) (x := v10) (av := []) (st := []) (mc := 0) (ms := 0) (pc' := 72) d_Ke_countFrom_69 rfl (sd_Th_isThrough v10) m_lv rfl cv_Th_isThrough w_ml_Ke_78 rfl rfl (by omega) (Nat.le_of_ble_eq_true rfl) rfl rfl (fun v11 => ?_)
            refine sm_if_ne (tgt := 119) (pc' := 75) d_Ke_countFrom_72 rfl rfl ?_ ?_
            · refine sm_sub [2, 3, 4, 5, 0, 1] rfl ?_
              exact sm_rt rfl
            · refine sm_aload_n (i := 0) (j := 2) (pc' := 76) d_Ke_countFrom_75 rfl rfl rfl ?_
              refine sm_getR (pc' := 79) d_Ke_countFrom_76 rfl fl_Ke_15 rfl rfl (fun v12 => ?_)
              refine sm_iload (j := 1) (pc' := 81) d_Ke_countFrom_79 rfl rfl (sm_iload_n (i := 3) (j := 5) (pc' := 82) d_Ke_countFrom_81 rfl rfl rfl (sm_iast (pc' := 83) d_Ke_countFrom_82 rfl (sm_aload_n (i := 0) (j := 2) (pc' := 84) d_Ke_countFrom_83 rfl rfl rfl ?_)))
              refine sm_getR (pc' := 87) d_Ke_countFrom_84 rfl fl_Ke_9 rfl rfl (fun v13 => ?_)
              refine sm_iload_n (i := 3) (j := 5) (pc' := 88) d_Ke_countFrom_87 rfl rfl rfl (sm_iload (j := 1) (pc' := 90) d_Ke_countFrom_88 rfl rfl (sm_iast (pc' := 91) d_Ke_countFrom_90 rfl (sm_iload (j := 0) (pc' := 93) d_Ke_countFrom_91 rfl rfl (sm_aload_n (i := 0) (j := 2) (pc' := 94) d_Ke_countFrom_93 rfl rfl rfl (sm_aload_n (i := 1) (j := 3) (pc' := 95) d_Ke_countFrom_94 rfl rfl rfl (sm_iload_n (i := 2) (j := 4) (pc' := 96) d_Ke_countFrom_95 rfl rfl rfl (sm_iconst (pc' := 97) d_Ke_countFrom_96 rfl ic_1 (sm_iadd (pc' := 98) d_Ke_countFrom_97 rfl ?_))))))))
              refine sm_callVi (ci := 9) (x := x0) (av := [.inr (.inr x1), .inl (x2 + 1)]) (st := [.inl t5.1]) (mc := 0) (ms := 0) (pc' := 101) d_Ke_countFrom_98 rfl (hr x0 x1 (x2 + 1)) (hv x0 x1 (x2 + 1)) rfl cv_Ke_countFrom w_ml_Ke_111 rfl rfl (by omega) (Nat.le_of_ble_eq_true rfl) rfl rfl (fun v14 => ?_)
              refine sm_iadd (pc' := 102) d_Ke_countFrom_101 rfl (sm_istore (L' := [(4, .inl (t5.1 + v14)), (5, .inl t5.2), (0, .inr (.inr x0)), (1, .inr (.inr x1)), (2, .inl x2), (3, .inl v3)]) (pc' := 104) d_Ke_countFrom_102 rfl (Nat.le_of_ble_eq_true rfl) rfl (sm_aload_n (i := 0) (j := 2) (pc' := 105) d_Ke_countFrom_104 rfl rfl rfl ?_))
              refine sm_getR (pc' := 108) d_Ke_countFrom_105 rfl fl_Ke_15 rfl rfl (fun v15 => ?_)
              refine sm_iload (j := 1) (pc' := 110) d_Ke_countFrom_108 rfl rfl (sm_iconst (pc' := 111) d_Ke_countFrom_110 rfl ic_m1 (sm_iast (pc' := 112) d_Ke_countFrom_111 rfl (sm_aload_n (i := 0) (j := 2) (pc' := 113) d_Ke_countFrom_112 rfl rfl rfl ?_)))
              refine sm_getR (pc' := 116) d_Ke_countFrom_113 rfl fl_Ke_9 rfl rfl (fun v16 => ?_)
              refine sm_iload_n (i := 3) (j := 5) (pc' := 117) d_Ke_countFrom_116 rfl rfl rfl (sm_iconst (pc' := 118) d_Ke_countFrom_117 rfl ic_m1 (sm_iast (pc' := 119) d_Ke_countFrom_118 rfl (sm_sub [2, 3, 4, 5, 0, 1] rfl ?_)))
              exact sm_rt rfl
        · refine sm_iinc (j := 5) (L' := [(5, .inl (t5.2 + 1)), (0, .inr (.inr x0)), (1, .inr (.inr x1)), (2, .inl x2), (3, .inl v3), (4, .inl t17)]) (pc' := 122) d_Ke_countFrom_119 rfl (v := (t5.2 + 1)) rfl (ix_1 _) (Nat.le_of_ble_eq_true rfl) rfl (sm_goto (tgt := 42) d_Ke_countFrom_122 rfl (sm_sub [5, 0, 1, 2, 3, 4] rfl ?_))
          exact sm_rt rfl
    · refine sm_iload (j := 0) (pc' := 127) d_Ke_countFrom_125 rfl rfl ?_
      exact sm_ireturn d_Ke_countFrom_127 rfl rfl
  · refine sm_aload_n (i := 0) (j := 0) (pc' := 9) d_Ke_countFrom_8 rfl rfl rfl (sm_aload_n (i := 1) (j := 1) (pc' := 10) d_Ke_countFrom_9 rfl rfl rfl ?_)
    refine sm_callVi (ci := 9) (x := x0) (av := [.inr (.inr x1)]) (st := []) (mc := 0) (ms := 0) (pc' := 13) d_Ke_countFrom_10 rfl (sd_Ke_isStable x0 x1) m_lv rfl cv_Ke_isStable w_ml_Ke_114 rfl rfl (by omega) (Nat.le_of_ble_eq_true rfl) rfl rfl (fun v19 => ?_)
    refine sm_if_eq (tgt := 20) (pc' := 16) d_Ke_countFrom_13 rfl rfl ?_ ?_
    · refine sm_iconst (pc' := 21) d_Ke_countFrom_20 rfl ic_0 ?_
      exact sm_ireturn d_Ke_countFrom_21 rfl rfl
    · refine sm_iconst (pc' := 17) d_Ke_countFrom_16 rfl ic_1 (sm_goto (tgt := 21) d_Ke_countFrom_17 rfl ?_)
      exact sm_ireturn d_Ke_countFrom_21 rfl rfl
def fn_Ke_countFrom : Nat → Option mA → Option mA → Int32 → mP Int32
  | 0, _, _, _ => m_fl
  | n + 1, x0, x1, x2 => fn_Ke_countFrom_r (fn_Ke_countFrom n) x0 x1 x2
theorem lv_Ke_countFrom : ∀ (n : Nat) (x0 : Option mA) (x1 : Option mA) (x2 : Int32), m_Lv 9 x0 (fn_Ke_countFrom n x0 x1 x2)
  | 0, _, _, _ => m_lv0
  | n + 1, _, _, _ => m_lv
theorem sd_Ke_countFrom : ∀ (n : Nat) (x0 : Option mA) (x1 : Option mA) (x2 : Int32), m_Sm k_Ke_countFrom (4 + n * 1) 0 0 [.inr (.inr x0), .inr (.inr x1), .inl x2] (fn_Ke_countFrom n x0 x1 x2) (fun b => some (.inl b))
  | 0, x0, x1, x2 => ⟨Nat.le_of_ble_eq_true rfl, sm_fl⟩
  | n + 1, x0, x1, x2 => m_Sm_mono (by omega) (sd_Ke_countFrom_r (fn_Ke_countFrom n) (4 + n * 1) (sd_Ke_countFrom n) (lv_Ke_countFrom n) x0 x1 x2)
theorem d_Ke_countStable_0 : m_D k_Ke_countStable 0 (.aload_n 0) 1 := (by decide +kernel : decode prog_5_method_14_code 0 = .ok (.aload_n 0, 1))
theorem d_Ke_countStable_1 : m_D k_Ke_countStable 1 (.aload_n 1) 1 := (by decide +kernel : decode prog_5_method_14_code 1 = .ok (.aload_n 1, 1))
theorem d_Ke_countStable_2 : m_D k_Ke_countStable 2 (.iload_n 2) 1 := (by decide +kernel : decode prog_5_method_14_code 2 = .ok (.iload_n 2, 1))
theorem d_Ke_countStable_3 : m_D k_Ke_countStable 3 (.invokevirtual 42) 3 := (by decide +kernel : decode prog_5_method_14_code 3 = .ok (.invokevirtual 42, 3))
theorem d_Ke_countStable_6 : m_D k_Ke_countStable 6 (.aload_n 0) 1 := (by decide +kernel : decode prog_5_method_14_code 6 = .ok (.aload_n 0, 1))
theorem d_Ke_countStable_7 : m_D k_Ke_countStable 7 (.aload_n 1) 1 := (by decide +kernel : decode prog_5_method_14_code 7 = .ok (.aload_n 1, 1))
theorem d_Ke_countStable_8 : m_D k_Ke_countStable 8 (.iconst 0) 1 := (by decide +kernel : decode prog_5_method_14_code 8 = .ok (.iconst 0, 1))
theorem d_Ke_countStable_9 : m_D k_Ke_countStable 9 (.invokevirtual 111) 3 := (by decide +kernel : decode prog_5_method_14_code 9 = .ok (.invokevirtual 111, 3))
theorem d_Ke_countStable_12 : m_D k_Ke_countStable 12 (.ireturn) 1 := (by decide +kernel : decode prog_5_method_14_code 12 = .ok (.ireturn, 1))
def fn_Ke_countStable (x0 : Option mA) (x1 : Option mA) (x2 : Int32) : mP Int32 :=
  m_th 9 x0 <|
  m_bd (fn_Ke_gather x0 x1 x2) fun _ =>
  m_bd (fn_Ke_countFrom 8 x0 x1 0) fun v1 =>
  m_rt v1
set_option maxHeartbeats 4000000 in
set_option maxRecDepth 100000 in
theorem sd_Ke_countStable (x0 : Option mA) (x1 : Option mA) (x2 : Int32) : m_Sm k_Ke_countStable 13 0 0 [.inr (.inr x0), .inr (.inr x1), .inl x2] (fn_Ke_countStable x0 x1 x2) (fun b => some (.inl b)) := by
  refine ⟨Nat.le_of_ble_eq_true rfl, ?_⟩
  refine sm_th ?_
  refine sm_aload_n (i := 0) (j := 0) (pc' := 1) d_Ke_countStable_0 rfl rfl rfl (sm_aload_n (i := 1) (j := 1) (pc' := 2) d_Ke_countStable_1 rfl rfl rfl (sm_iload_n (i := 2) (j := 2) (pc' := 3) d_Ke_countStable_2 rfl rfl rfl ?_))
  refine sm_callVv (ci := 9) (x := x0) (av := [.inr (.inr x1), .inl x2]) (st := []) (mc := 0) (ms := 0) (pc' := 6) d_Ke_countStable_3 rfl (sd_Ke_gather x0 x1 x2) m_lv rfl cv_Ke_gather w_ml_Ke_42 rfl rfl (by decide) (Nat.le_of_ble_eq_true rfl) rfl rfl ?_
  refine sm_aload_n (i := 0) (j := 0) (pc' := 7) d_Ke_countStable_6 rfl rfl rfl (sm_aload_n (i := 1) (j := 1) (pc' := 8) d_Ke_countStable_7 rfl rfl rfl (sm_iconst (pc' := 9) d_Ke_countStable_8 rfl ic_0 ?_))
  refine sm_callVi (ci := 9) (x := x0) (av := [.inr (.inr x1), .inl 0]) (st := []) (mc := 0) (ms := 0) (pc' := 12) d_Ke_countStable_9 rfl (sd_Ke_countFrom 8 x0 x1 0) (lv_Ke_countFrom 8 x0 x1 0) rfl cv_Ke_countFrom w_ml_Ke_111 rfl rfl (by decide) (Nat.le_of_ble_eq_true rfl) rfl rfl (fun v1 => ?_)
  exact sm_ireturn d_Ke_countStable_12 rfl rfl
theorem d_C_stables_0 : m_D k_C_stables 0 (.aload_n 0) 1 := (by decide +kernel : decode prog_1_method_57_code 0 = .ok (.aload_n 0, 1))
theorem d_C_stables_1 : m_D k_C_stables 1 (.iload_n 1) 1 := (by decide +kernel : decode prog_1_method_57_code 1 = .ok (.iload_n 1, 1))
theorem d_C_stables_2 : m_D k_C_stables 2 (.aload_n 0) 1 := (by decide +kernel : decode prog_1_method_57_code 2 = .ok (.aload_n 0, 1))
theorem d_C_stables_3 : m_D k_C_stables 3 (.getfield 37) 3 := (by decide +kernel : decode prog_1_method_57_code 3 = .ok (.getfield 37, 3))
theorem d_C_stables_6 : m_D k_C_stables 6 (.getfield 175) 3 := (by decide +kernel : decode prog_1_method_57_code 6 = .ok (.getfield 175, 3))
theorem d_C_stables_9 : m_D k_C_stables 9 (.invokestatic 324) 3 := (by decide +kernel : decode prog_1_method_57_code 9 = .ok (.invokestatic 324, 3))
theorem d_C_stables_12 : m_D k_C_stables 12 (.ifCond .eq 15) 3 := (by decide +kernel : decode prog_1_method_57_code 12 = .ok (.ifCond .eq 15, 3))
theorem d_C_stables_15 : m_D k_C_stables 15 (.iload_n 1) 1 := (by decide +kernel : decode prog_1_method_57_code 15 = .ok (.iload_n 1, 1))
theorem d_C_stables_16 : m_D k_C_stables 16 (.invokestatic 374) 3 := (by decide +kernel : decode prog_1_method_57_code 16 = .ok (.invokestatic 374, 3))
theorem d_C_stables_19 : m_D k_C_stables 19 (.iconst 4) 1 := (by decide +kernel : decode prog_1_method_57_code 19 = .ok (.iconst 4, 1))
theorem d_C_stables_20 : m_D k_C_stables 20 (.if_icmp .gt 7) 3 := (by decide +kernel : decode prog_1_method_57_code 20 = .ok (.if_icmp .gt 7, 3))
theorem d_C_stables_23 : m_D k_C_stables 23 (.iconst 0) 1 := (by decide +kernel : decode prog_1_method_57_code 23 = .ok (.iconst 0, 1))
theorem d_C_stables_24 : m_D k_C_stables 24 (.goto 4) 3 := (by decide +kernel : decode prog_1_method_57_code 24 = .ok (.goto 4, 3))
theorem d_C_stables_27 : m_D k_C_stables 27 (.iconst 5) 1 := (by decide +kernel : decode prog_1_method_57_code 27 = .ok (.iconst 5, 1))
theorem d_C_stables_28 : m_D k_C_stables 28 (.putfield 9) 3 := (by decide +kernel : decode prog_1_method_57_code 28 = .ok (.putfield 9, 3))
theorem d_C_stables_31 : m_D k_C_stables 31 (.aload_n 0) 1 := (by decide +kernel : decode prog_1_method_57_code 31 = .ok (.aload_n 0, 1))
theorem d_C_stables_32 : m_D k_C_stables 32 (.getfield 9) 3 := (by decide +kernel : decode prog_1_method_57_code 32 = .ok (.getfield 9, 3))
theorem d_C_stables_35 : m_D k_C_stables 35 (.ifCond .eq 5) 3 := (by decide +kernel : decode prog_1_method_57_code 35 = .ok (.ifCond .eq 5, 3))
theorem d_C_stables_38 : m_D k_C_stables 38 (.iconst (-1)) 1 := (by decide +kernel : decode prog_1_method_57_code 38 = .ok (.iconst (-1), 1))
theorem d_C_stables_39 : m_D k_C_stables 39 (.ireturn) 1 := (by decide +kernel : decode prog_1_method_57_code 39 = .ok (.ireturn, 1))
theorem d_C_stables_40 : m_D k_C_stables 40 (.aload_n 0) 1 := (by decide +kernel : decode prog_1_method_57_code 40 = .ok (.aload_n 0, 1))
theorem d_C_stables_41 : m_D k_C_stables 41 (.getfield 75) 3 := (by decide +kernel : decode prog_1_method_57_code 41 = .ok (.getfield 75, 3))
theorem d_C_stables_44 : m_D k_C_stables 44 (.aload_n 0) 1 := (by decide +kernel : decode prog_1_method_57_code 44 = .ok (.aload_n 0, 1))
theorem d_C_stables_45 : m_D k_C_stables 45 (.getfield 37) 3 := (by decide +kernel : decode prog_1_method_57_code 45 = .ok (.getfield 37, 3))
theorem d_C_stables_48 : m_D k_C_stables 48 (.iload_n 1) 1 := (by decide +kernel : decode prog_1_method_57_code 48 = .ok (.iload_n 1, 1))
theorem d_C_stables_49 : m_D k_C_stables 49 (.invokevirtual 379) 3 := (by decide +kernel : decode prog_1_method_57_code 49 = .ok (.invokevirtual 379, 3))
theorem d_C_stables_52 : m_D k_C_stables 52 (.ireturn) 1 := (by decide +kernel : decode prog_1_method_57_code 52 = .ok (.ireturn, 1))
def fn_C_stables (x0 : Option mA) (x1 : Int32) : mP Int32 :=
  m_th 0 x0 <|
  m_bd (m_gR 0 5 x0) fun v1 =>
  m_bd (m_gI 3 0 v1) fun v2 =>
  m_bd (fn_C_isSet x1 v2) fun v3 =>
  m_bd (α := Int32) (
    if v3 = 0 then
      m_rt 5
    else
      m_bd (fn_JI_bitCount x1) fun v4 =>
      if 4 < v4 then
        m_rt 5
      else
        m_rt 0
    ) fun (t5 : Int32) =>
  m_bd (m_pI 0 0 x0 t5) fun _ =>
  m_bd (m_gI 0 0 x0) fun v6 =>
  if v6 = 0 then
    m_bd (m_gR 0 12 x0) fun v7 =>
    m_bd (m_gR 0 5 x0) fun v8 =>
    m_bd (fn_Ke_countStable v7 v8 x1) fun v9 =>
    m_rt v9
  else
    m_rt (-1)
set_option maxHeartbeats 4000000 in
set_option maxRecDepth 100000 in
theorem sd_C_stables (x0 : Option mA) (x1 : Int32) : m_Sm k_C_stables 14 0 0 [.inr (.inr x0), .inl x1] (fn_C_stables x0 x1) (fun b => some (.inl b)) := by
  refine ⟨Nat.le_of_ble_eq_true rfl, ?_⟩
  refine sm_th ?_
  refine sm_aload_n (i := 0) (j := 0) (pc' := 1) d_C_stables_0 rfl rfl rfl (sm_iload_n (i := 1) (j := 1) (pc' := 2) d_C_stables_1 rfl rfl rfl (sm_aload_n (i := 0) (j := 0) (pc' := 3) d_C_stables_2 rfl rfl rfl ?_))
  refine sm_getR (pc' := 6) d_C_stables_3 rfl fl_C_37 rfl rfl (fun v1 => ?_)
  refine sm_getI (pc' := 9) d_C_stables_6 rfl fl_C_175 rfl ⟨by decide, by decide⟩ (fun v2 => ?_)
  refine sm_callSi (av := [.inl x1, .inl v2]) (st := [.inr (.inr x0)]) (mc := 0) (ms := 0) (pc' := 12) d_C_stables_9 rfl (sd_C_isSet x1 v2) cs_C_isSet w_ml_C_324 rfl rfl (by decide) (Nat.le_of_ble_eq_true rfl) rfl rfl (fun v3 => ?_)
  refine sm_bd (mid := fun (t5 : Int32) => .inl (28, [(0, .inr (.inr x0)), (1, .inl x1)], [.inl t5, .inr (.inr x0)])) ?_ (fun t5 => ?_)
  · refine sm_if_eq (tgt := 27) (pc' := 15) d_C_stables_12 rfl rfl ?_ ?_
    · refine sm_iconst (pc' := 28) d_C_stables_27 rfl ic_5 (sm_sub [0, 1] rfl ?_)
      exact sm_rt rfl
    · refine sm_iload_n (i := 1) (j := 1) (pc' := 16) d_C_stables_15 rfl rfl rfl ?_
      refine sm_callSi (av := [.inl x1]) (st := [.inr (.inr x0)]) (mc := 0) (ms := 0) (pc' := 19) d_C_stables_16 rfl (sd_JI_bitCount x1) cs_JI_bitCount w_ml_C_374 rfl rfl (by decide) (Nat.le_of_ble_eq_true rfl) rfl rfl (fun v4 => ?_)
      refine sm_iconst (pc' := 20) d_C_stables_19 rfl ic_4 ?_
      refine sm_icmp_gt (tgt := 27) (pc' := 23) d_C_stables_20 rfl rfl ?_ ?_
      · refine sm_iconst (pc' := 28) d_C_stables_27 rfl ic_5 (sm_sub [0, 1] rfl ?_)
        exact sm_rt rfl
      · refine sm_iconst (pc' := 24) d_C_stables_23 rfl ic_0 (sm_goto (tgt := 28) d_C_stables_24 rfl (sm_sub [0, 1] rfl ?_))
        exact sm_rt rfl
  · refine sm_putI (pc' := 31) d_C_stables_28 rfl fl_C_9 (Or.inl rfl) rfl (sm_aload_n (i := 0) (j := 0) (pc' := 32) d_C_stables_31 rfl rfl rfl ?_)
    refine sm_getI (pc' := 35) d_C_stables_32 rfl fl_C_9 rfl ⟨by decide, by decide⟩ (fun v6 => ?_)
    refine sm_if_eq (tgt := 40) (pc' := 38) d_C_stables_35 rfl rfl ?_ ?_
    · refine sm_aload_n (i := 0) (j := 0) (pc' := 41) d_C_stables_40 rfl rfl rfl ?_
      refine sm_getR (pc' := 44) d_C_stables_41 rfl fl_C_75 rfl rfl (fun v7 => ?_)
      refine sm_aload_n (i := 0) (j := 0) (pc' := 45) d_C_stables_44 rfl rfl rfl ?_
      refine sm_getR (pc' := 48) d_C_stables_45 rfl fl_C_37 rfl rfl (fun v8 => ?_)
      refine sm_iload_n (i := 1) (j := 1) (pc' := 49) d_C_stables_48 rfl rfl rfl ?_
      refine sm_callVi (ci := 9) (x := v7) (av := [.inr (.inr v8), .inl x1]) (st := []) (mc := 0) (ms := 0) (pc' := 52) d_C_stables_49 rfl (sd_Ke_countStable v7 v8 x1) m_lv rfl cv_Ke_countStable w_ml_C_379 rfl rfl (by decide) (Nat.le_of_ble_eq_true rfl) rfl rfl (fun v9 => ?_)
      exact sm_ireturn d_C_stables_52 rfl rfl
    · refine sm_iconst (pc' := 39) d_C_stables_38 rfl ic_m1 ?_
      exact sm_ireturn d_C_stables_39 rfl rfl
theorem d_C_gameStatus_0 : m_D k_C_gameStatus 0 (.aload_n 0) 1 := (by decide +kernel : decode prog_1_method_65_code 0 = .ok (.aload_n 0, 1))
theorem d_C_gameStatus_1 : m_D k_C_gameStatus 1 (.iload_n 1) 1 := (by decide +kernel : decode prog_1_method_65_code 1 = .ok (.iload_n 1, 1))
theorem d_C_gameStatus_2 : m_D k_C_gameStatus 2 (.invokevirtual 233) 3 := (by decide +kernel : decode prog_1_method_65_code 2 = .ok (.invokevirtual 233, 3))
theorem d_C_gameStatus_5 : m_D k_C_gameStatus 5 (.ifCond .eq 11) 3 := (by decide +kernel : decode prog_1_method_65_code 5 = .ok (.ifCond .eq 11, 3))
theorem d_C_gameStatus_8 : m_D k_C_gameStatus 8 (.aload_n 0) 1 := (by decide +kernel : decode prog_1_method_65_code 8 = .ok (.aload_n 0, 1))
theorem d_C_gameStatus_9 : m_D k_C_gameStatus 9 (.iload_n 2) 1 := (by decide +kernel : decode prog_1_method_65_code 9 = .ok (.iload_n 2, 1))
theorem d_C_gameStatus_10 : m_D k_C_gameStatus 10 (.invokevirtual 233) 3 := (by decide +kernel : decode prog_1_method_65_code 10 = .ok (.invokevirtual 233, 3))
theorem d_C_gameStatus_13 : m_D k_C_gameStatus 13 (.ifCond .ne 7) 3 := (by decide +kernel : decode prog_1_method_65_code 13 = .ok (.ifCond .ne 7, 3))
theorem d_C_gameStatus_16 : m_D k_C_gameStatus 16 (.iconst 2) 1 := (by decide +kernel : decode prog_1_method_65_code 16 = .ok (.iconst 2, 1))
theorem d_C_gameStatus_17 : m_D k_C_gameStatus 17 (.goto 23) 3 := (by decide +kernel : decode prog_1_method_65_code 17 = .ok (.goto 23, 3))
theorem d_C_gameStatus_20 : m_D k_C_gameStatus 20 (.iload_n 1) 1 := (by decide +kernel : decode prog_1_method_65_code 20 = .ok (.iload_n 1, 1))
theorem d_C_gameStatus_21 : m_D k_C_gameStatus 21 (.iload_n 2) 1 := (by decide +kernel : decode prog_1_method_65_code 21 = .ok (.iload_n 2, 1))
theorem d_C_gameStatus_22 : m_D k_C_gameStatus 22 (.if_icmp .eq 13) 3 := (by decide +kernel : decode prog_1_method_65_code 22 = .ok (.if_icmp .eq 13, 3))
theorem d_C_gameStatus_25 : m_D k_C_gameStatus 25 (.iload_n 3) 1 := (by decide +kernel : decode prog_1_method_65_code 25 = .ok (.iload_n 3, 1))
theorem d_C_gameStatus_26 : m_D k_C_gameStatus 26 (.iload 4) 2 := (by decide +kernel : decode prog_1_method_65_code 26 = .ok (.iload 4, 2))
theorem d_C_gameStatus_28 : m_D k_C_gameStatus 28 (.iconst 4) 1 := (by decide +kernel : decode prog_1_method_65_code 28 = .ok (.iconst 4, 1))
theorem d_C_gameStatus_29 : m_D k_C_gameStatus 29 (.invokestatic 269) 3 := (by decide +kernel : decode prog_1_method_65_code 29 = .ok (.invokestatic 269, 3))
theorem d_C_gameStatus_32 : m_D k_C_gameStatus 32 (.ifCond .ne 7) 3 := (by decide +kernel : decode prog_1_method_65_code 32 = .ok (.ifCond .ne 7, 3))
theorem d_C_gameStatus_35 : m_D k_C_gameStatus 35 (.iconst 5) 1 := (by decide +kernel : decode prog_1_method_65_code 35 = .ok (.iconst 5, 1))
theorem d_C_gameStatus_36 : m_D k_C_gameStatus 36 (.goto 4) 3 := (by decide +kernel : decode prog_1_method_65_code 36 = .ok (.goto 4, 3))
theorem d_C_gameStatus_39 : m_D k_C_gameStatus 39 (.iconst 0) 1 := (by decide +kernel : decode prog_1_method_65_code 39 = .ok (.iconst 0, 1))
theorem d_C_gameStatus_40 : m_D k_C_gameStatus 40 (.ireturn) 1 := (by decide +kernel : decode prog_1_method_65_code 40 = .ok (.ireturn, 1))
def fn_C_gameStatus (x0 : Option mA) (x1 : Int32) (x2 : Int32) (x3 : Int32) (x4 : Int32) : mP Int32 :=
  m_th 0 x0 <|
  m_bd (fn_C_isThing x0 x1) fun v1 =>
  if v1 = 0 then
    m_rt 2
  else
    m_bd (fn_C_isThing x0 x2) fun v2 =>
    if v2 = 0 then
      m_rt 2
    else
      if x1 = x2 then
        m_rt 5
      else
        m_bd (fn_C_isWithin x3 x4 4) fun v3 =>
        if v3 = 0 then
          m_rt 5
        else
          m_rt 0
set_option maxHeartbeats 4000000 in
set_option maxRecDepth 100000 in
theorem sd_C_gameStatus (x0 : Option mA) (x1 : Int32) (x2 : Int32) (x3 : Int32) (x4 : Int32) : m_Sm k_C_gameStatus 2 0 0 [.inr (.inr x0), .inl x1, .inl x2, .inl x3, .inl x4] (fn_C_gameStatus x0 x1 x2 x3 x4) (fun b => some (.inl b)) := by
  refine ⟨Nat.le_of_ble_eq_true rfl, ?_⟩
  refine sm_th ?_
  refine sm_aload_n (i := 0) (j := 0) (pc' := 1) d_C_gameStatus_0 rfl rfl rfl (sm_iload_n (i := 1) (j := 1) (pc' := 2) d_C_gameStatus_1 rfl rfl rfl ?_)
  refine sm_callVi (ci := 0) (x := x0) (av := [.inl x1]) (st := []) (mc := 0) (ms := 0) (pc' := 5) d_C_gameStatus_2 rfl (sd_C_isThing x0 x1) m_lv rfl cv_C_isThing w_ml_C_233 rfl rfl (by decide) (Nat.le_of_ble_eq_true rfl) rfl rfl (fun v1 => ?_)
  refine sm_if_eq (tgt := 16) (pc' := 8) d_C_gameStatus_5 rfl rfl ?_ ?_
  · refine sm_iconst (pc' := 17) d_C_gameStatus_16 rfl ic_2 (sm_goto (tgt := 40) d_C_gameStatus_17 rfl ?_)
    exact sm_ireturn d_C_gameStatus_40 rfl rfl
  · refine sm_aload_n (i := 0) (j := 0) (pc' := 9) d_C_gameStatus_8 rfl rfl rfl (sm_iload_n (i := 2) (j := 2) (pc' := 10) d_C_gameStatus_9 rfl rfl rfl ?_)
    refine sm_callVi (ci := 0) (x := x0) (av := [.inl x2]) (st := []) (mc := 0) (ms := 0) (pc' := 13) d_C_gameStatus_10 rfl (sd_C_isThing x0 x2) m_lv rfl cv_C_isThing w_ml_C_233 rfl rfl (by decide) (Nat.le_of_ble_eq_true rfl) rfl rfl (fun v2 => ?_)
    refine sm_if_ne (tgt := 20) (pc' := 16) d_C_gameStatus_13 rfl rfl ?_ ?_
    · refine sm_iload_n (i := 1) (j := 1) (pc' := 21) d_C_gameStatus_20 rfl rfl rfl (sm_iload_n (i := 2) (j := 2) (pc' := 22) d_C_gameStatus_21 rfl rfl rfl ?_)
      refine sm_icmp_eq (tgt := 35) (pc' := 25) d_C_gameStatus_22 rfl rfl ?_ ?_
      · refine sm_iconst (pc' := 36) d_C_gameStatus_35 rfl ic_5 (sm_goto (tgt := 40) d_C_gameStatus_36 rfl ?_)
        exact sm_ireturn d_C_gameStatus_40 rfl rfl
      · refine sm_iload_n (i := 3) (j := 3) (pc' := 26) d_C_gameStatus_25 rfl rfl rfl (sm_iload (j := 4) (pc' := 28) d_C_gameStatus_26 rfl rfl (sm_iconst (pc' := 29) d_C_gameStatus_28 rfl ic_4 ?_))
        refine sm_callSi (av := [.inl x3, .inl x4, .inl 4]) (st := []) (mc := 0) (ms := 0) (pc' := 32) d_C_gameStatus_29 rfl (sd_C_isWithin x3 x4 4) cs_C_isWithin w_ml_C_269 rfl rfl (by decide) (Nat.le_of_ble_eq_true rfl) rfl rfl (fun v3 => ?_)
        refine sm_if_ne (tgt := 39) (pc' := 35) d_C_gameStatus_32 rfl rfl ?_ ?_
        · refine sm_iconst (pc' := 40) d_C_gameStatus_39 rfl ic_0 ?_
          exact sm_ireturn d_C_gameStatus_40 rfl rfl
        · refine sm_iconst (pc' := 36) d_C_gameStatus_35 rfl ic_5 (sm_goto (tgt := 40) d_C_gameStatus_36 rfl ?_)
          exact sm_ireturn d_C_gameStatus_40 rfl rfl
    · refine sm_iconst (pc' := 17) d_C_gameStatus_16 rfl ic_2 (sm_goto (tgt := 40) d_C_gameStatus_17 rfl ?_)
      exact sm_ireturn d_C_gameStatus_40 rfl rfl
theorem d_Ga_otherOf_0 : m_D k_Ga_otherOf 0 (.aload_n 0) 1 := (by decide +kernel : decode prog_4_method_5_code 0 = .ok (.aload_n 0, 1))
theorem d_Ga_otherOf_1 : m_D k_Ga_otherOf 1 (.getfield 11) 3 := (by decide +kernel : decode prog_4_method_5_code 1 = .ok (.getfield 11, 3))
theorem d_Ga_otherOf_4 : m_D k_Ga_otherOf 4 (.iconst 2) 1 := (by decide +kernel : decode prog_4_method_5_code 4 = .ok (.iconst 2, 1))
theorem d_Ga_otherOf_5 : m_D k_Ga_otherOf 5 (.iload_n 2) 1 := (by decide +kernel : decode prog_4_method_5_code 5 = .ok (.iload_n 2, 1))
theorem d_Ga_otherOf_6 : m_D k_Ga_otherOf 6 (.imul) 1 := (by decide +kernel : decode prog_4_method_5_code 6 = .ok (.imul, 1))
theorem d_Ga_otherOf_7 : m_D k_Ga_otherOf 7 (.iconst 1) 1 := (by decide +kernel : decode prog_4_method_5_code 7 = .ok (.iconst 1, 1))
theorem d_Ga_otherOf_8 : m_D k_Ga_otherOf 8 (.iadd) 1 := (by decide +kernel : decode prog_4_method_5_code 8 = .ok (.iadd, 1))
theorem d_Ga_otherOf_9 : m_D k_Ga_otherOf 9 (.iload_n 1) 1 := (by decide +kernel : decode prog_4_method_5_code 9 = .ok (.iload_n 1, 1))
theorem d_Ga_otherOf_10 : m_D k_Ga_otherOf 10 (.iconst 2) 1 := (by decide +kernel : decode prog_4_method_5_code 10 = .ok (.iconst 2, 1))
theorem d_Ga_otherOf_11 : m_D k_Ga_otherOf 11 (.irem) 1 := (by decide +kernel : decode prog_4_method_5_code 11 = .ok (.irem, 1))
theorem d_Ga_otherOf_12 : m_D k_Ga_otherOf 12 (.isub) 1 := (by decide +kernel : decode prog_4_method_5_code 12 = .ok (.isub, 1))
theorem d_Ga_otherOf_13 : m_D k_Ga_otherOf 13 (.aaload) 1 := (by decide +kernel : decode prog_4_method_5_code 13 = .ok (.aaload, 1))
theorem d_Ga_otherOf_14 : m_D k_Ga_otherOf 14 (.areturn) 1 := (by decide +kernel : decode prog_4_method_5_code 14 = .ok (.areturn, 1))
def fn_Ga_otherOf (x0 : Option mA) (x1 : Int32) (x2 : Int32) : mP (Option mA) :=
  m_th 10 x0 <|
  m_bd (m_gR 10 1 x0) fun v1 =>
  m_bd (m_aR 7 v1 (((2 * x2) + 1) - (iR x1 2))) fun v2 =>
  m_rt v2
set_option maxHeartbeats 4000000 in
set_option maxRecDepth 100000 in
theorem sd_Ga_otherOf (x0 : Option mA) (x1 : Int32) (x2 : Int32) : m_Sm k_Ga_otherOf 1 0 0 [.inr (.inr x0), .inl x1, .inl x2] (fn_Ga_otherOf x0 x1 x2) (fun b => some (.inr (.inr b))) := by
  refine ⟨Nat.le_of_ble_eq_true rfl, ?_⟩
  refine sm_th ?_
  refine sm_aload_n (i := 0) (j := 0) (pc' := 1) d_Ga_otherOf_0 rfl rfl rfl ?_
  refine sm_getR (pc' := 4) d_Ga_otherOf_1 rfl fl_Ga_11 rfl rfl (fun v1 => ?_)
  refine sm_iconst (pc' := 5) d_Ga_otherOf_4 rfl ic_2 (sm_iload_n (i := 2) (j := 2) (pc' := 6) d_Ga_otherOf_5 rfl rfl rfl (sm_imul (pc' := 7) d_Ga_otherOf_6 rfl (sm_iconst (pc' := 8) d_Ga_otherOf_7 rfl ic_1 (sm_iadd (pc' := 9) d_Ga_otherOf_8 rfl (sm_iload_n (i := 1) (j := 1) (pc' := 10) d_Ga_otherOf_9 rfl rfl rfl (sm_iconst (pc' := 11) d_Ga_otherOf_10 rfl ic_2 (sm_irem (pc' := 12) d_Ga_otherOf_11 rfl (by decide) (sm_isub (pc' := 13) d_Ga_otherOf_12 rfl ?_))))))))
  refine sm_aald (t := 7) ⟨by decide, by decide⟩ rfl (pc' := 14) d_Ga_otherOf_13 rfl (fun v2 => ?_)
  exact sm_areturn d_Ga_otherOf_14 rfl rfl
