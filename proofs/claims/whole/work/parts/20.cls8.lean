/-! 20.cls8, laid by wip/whole/gen.py -/
theorem d_Pl_actDamp_0 : m_D k_Pl_actDamp 0 (.aload_n 0) 1 := (by decide +kernel : decode prog_7_method_12_code 0 = .ok (.aload_n 0, 1))
theorem d_Pl_actDamp_1 : m_D k_Pl_actDamp 1 (.getfield 117) 3 := (by decide +kernel : decode prog_7_method_12_code 1 = .ok (.getfield 117, 3))
theorem d_Pl_actDamp_4 : m_D k_Pl_actDamp 4 (.iload_n 1) 1 := (by decide +kernel : decode prog_7_method_12_code 4 = .ok (.iload_n 1, 1))
theorem d_Pl_actDamp_5 : m_D k_Pl_actDamp 5 (.if_icmp .eq 7) 3 := (by decide +kernel : decode prog_7_method_12_code 5 = .ok (.if_icmp .eq 7, 3))
theorem d_Pl_actDamp_8 : m_D k_Pl_actDamp 8 (.iconst 1) 1 := (by decide +kernel : decode prog_7_method_12_code 8 = .ok (.iconst 1, 1))
theorem d_Pl_actDamp_9 : m_D k_Pl_actDamp 9 (.goto 4) 3 := (by decide +kernel : decode prog_7_method_12_code 9 = .ok (.goto 4, 3))
theorem d_Pl_actDamp_12 : m_D k_Pl_actDamp 12 (.iconst 0) 1 := (by decide +kernel : decode prog_7_method_12_code 12 = .ok (.iconst 0, 1))
theorem d_Pl_actDamp_13 : m_D k_Pl_actDamp 13 (.istore_n 2) 1 := (by decide +kernel : decode prog_7_method_12_code 13 = .ok (.istore_n 2, 1))
theorem d_Pl_actDamp_14 : m_D k_Pl_actDamp 14 (.aload_n 0) 1 := (by decide +kernel : decode prog_7_method_12_code 14 = .ok (.aload_n 0, 1))
theorem d_Pl_actDamp_15 : m_D k_Pl_actDamp 15 (.iload_n 1) 1 := (by decide +kernel : decode prog_7_method_12_code 15 = .ok (.iload_n 1, 1))
theorem d_Pl_actDamp_16 : m_D k_Pl_actDamp 16 (.putfield 117) 3 := (by decide +kernel : decode prog_7_method_12_code 16 = .ok (.putfield 117, 3))
theorem d_Pl_actDamp_19 : m_D k_Pl_actDamp 19 (.iload_n 2) 1 := (by decide +kernel : decode prog_7_method_12_code 19 = .ok (.iload_n 2, 1))
theorem d_Pl_actDamp_20 : m_D k_Pl_actDamp 20 (.ireturn) 1 := (by decide +kernel : decode prog_7_method_12_code 20 = .ok (.ireturn, 1))
def fn_Pl_actDamp (x0 : Option mA) (x1 : Int32) : mP Int32 :=
  m_bd (m_gI 3 4 x0) fun v1 =>
  m_bd (α := Int32) (
    if v1 = x1 then
      m_rt 0
    else
      m_rt 1
    ) fun (t2 : Int32) =>
  m_bd (m_pI 3 4 x0 x1) fun _ =>
  m_bd (m_cz t2) fun _ => m_rt t2
set_option maxHeartbeats 4000000 in
set_option maxRecDepth 100000 in
theorem sd_Pl_actDamp (x0 : Option mA) (x1 : Int32) : m_Sm k_Pl_actDamp 1 0 0 [.inr (.inr x0), .inl x1] (fn_Pl_actDamp x0 x1) (fun b => some (.inl b)) := by
  refine ⟨Nat.le_of_ble_eq_true rfl, ?_⟩
  refine sm_aload_n (i := 0) (j := 0) (pc' := 1) d_Pl_actDamp_0 rfl rfl rfl ?_
  refine sm_getI (pc' := 4) d_Pl_actDamp_1 rfl fl_Pl_117 rfl ⟨by decide, by decide⟩ (fun v1 => ?_)
  refine sm_iload_n (i := 1) (j := 1) (pc' := 5) d_Pl_actDamp_4 rfl rfl rfl ?_
  refine sm_bd (mid := fun (t2 : Int32) => .inl (13, [(0, .inr (.inr x0)), (1, .inl x1)], [.inl t2])) ?_ (fun t2 => ?_)
  · refine sm_icmp_eq (tgt := 12) (pc' := 8) d_Pl_actDamp_5 rfl rfl ?_ ?_
    · refine sm_iconst (pc' := 13) d_Pl_actDamp_12 rfl ic_0 (sm_sub [0, 1] rfl ?_)
      exact sm_rt rfl
    · refine sm_iconst (pc' := 9) d_Pl_actDamp_8 rfl ic_1 (sm_goto (tgt := 13) d_Pl_actDamp_9 rfl (sm_sub [0, 1] rfl ?_))
      exact sm_rt rfl
  · refine sm_istore_n (i := 2) (L' := [(2, .inl t2), (0, .inr (.inr x0)), (1, .inl x1)]) (pc' := 14) d_Pl_actDamp_13 rfl rfl (Nat.le_of_ble_eq_true rfl) rfl (sm_aload_n (i := 0) (j := 1) (pc' := 15) d_Pl_actDamp_14 rfl rfl rfl (sm_iload_n (i := 1) (j := 2) (pc' := 16) d_Pl_actDamp_15 rfl rfl rfl (sm_putI (pc' := 19) d_Pl_actDamp_16 rfl fl_Pl_117 (Or.inl rfl) rfl (sm_iload_n (i := 2) (j := 0) (pc' := 20) d_Pl_actDamp_19 rfl rfl rfl ?_))))
    exact sm_zretC d_Pl_actDamp_20 rfl rfl
theorem d_Pl_actLove_0 : m_D k_Pl_actLove 0 (.aload_n 0) 1 := (by decide +kernel : decode prog_7_method_13_code 0 = .ok (.aload_n 0, 1))
theorem d_Pl_actLove_1 : m_D k_Pl_actLove 1 (.getfield 120) 3 := (by decide +kernel : decode prog_7_method_13_code 1 = .ok (.getfield 120, 3))
theorem d_Pl_actLove_4 : m_D k_Pl_actLove 4 (.iload_n 1) 1 := (by decide +kernel : decode prog_7_method_13_code 4 = .ok (.iload_n 1, 1))
theorem d_Pl_actLove_5 : m_D k_Pl_actLove 5 (.iaload) 1 := (by decide +kernel : decode prog_7_method_13_code 5 = .ok (.iaload, 1))
theorem d_Pl_actLove_6 : m_D k_Pl_actLove 6 (.iload_n 2) 1 := (by decide +kernel : decode prog_7_method_13_code 6 = .ok (.iload_n 2, 1))
theorem d_Pl_actLove_7 : m_D k_Pl_actLove 7 (.if_icmp .eq 7) 3 := (by decide +kernel : decode prog_7_method_13_code 7 = .ok (.if_icmp .eq 7, 3))
theorem d_Pl_actLove_10 : m_D k_Pl_actLove 10 (.iconst 1) 1 := (by decide +kernel : decode prog_7_method_13_code 10 = .ok (.iconst 1, 1))
theorem d_Pl_actLove_11 : m_D k_Pl_actLove 11 (.goto 4) 3 := (by decide +kernel : decode prog_7_method_13_code 11 = .ok (.goto 4, 3))
theorem d_Pl_actLove_14 : m_D k_Pl_actLove 14 (.iconst 0) 1 := (by decide +kernel : decode prog_7_method_13_code 14 = .ok (.iconst 0, 1))
theorem d_Pl_actLove_15 : m_D k_Pl_actLove 15 (.istore_n 3) 1 := (by decide +kernel : decode prog_7_method_13_code 15 = .ok (.istore_n 3, 1))
theorem d_Pl_actLove_16 : m_D k_Pl_actLove 16 (.aload_n 0) 1 := (by decide +kernel : decode prog_7_method_13_code 16 = .ok (.aload_n 0, 1))
theorem d_Pl_actLove_17 : m_D k_Pl_actLove 17 (.getfield 120) 3 := (by decide +kernel : decode prog_7_method_13_code 17 = .ok (.getfield 120, 3))
theorem d_Pl_actLove_20 : m_D k_Pl_actLove 20 (.iload_n 1) 1 := (by decide +kernel : decode prog_7_method_13_code 20 = .ok (.iload_n 1, 1))
theorem d_Pl_actLove_21 : m_D k_Pl_actLove 21 (.iload_n 2) 1 := (by decide +kernel : decode prog_7_method_13_code 21 = .ok (.iload_n 2, 1))
theorem d_Pl_actLove_22 : m_D k_Pl_actLove 22 (.iastore) 1 := (by decide +kernel : decode prog_7_method_13_code 22 = .ok (.iastore, 1))
theorem d_Pl_actLove_23 : m_D k_Pl_actLove 23 (.iload_n 3) 1 := (by decide +kernel : decode prog_7_method_13_code 23 = .ok (.iload_n 3, 1))
theorem d_Pl_actLove_24 : m_D k_Pl_actLove 24 (.ireturn) 1 := (by decide +kernel : decode prog_7_method_13_code 24 = .ok (.ireturn, 1))
def fn_Pl_actLove (x0 : Option mA) (x1 : Int32) (x2 : Int32) : mP Int32 :=
  m_bd (m_gR 4 4 x0) fun v1 =>
  m_bd (m_aI 0 v1 x1) fun v2 =>
  m_bd (α := Int32) (
    if v2 = x2 then
      m_rt 0
    else
      m_rt 1
    ) fun (t3 : Int32) =>
  m_bd (m_gR 4 4 x0) fun v4 =>
  m_bd (m_tI 0 v4 x1 x2) fun _ =>
  m_bd (m_cz t3) fun _ => m_rt t3
set_option maxHeartbeats 4000000 in
set_option maxRecDepth 100000 in
theorem sd_Pl_actLove (x0 : Option mA) (x1 : Int32) (x2 : Int32) : m_Sm k_Pl_actLove 1 0 0 [.inr (.inr x0), .inl x1, .inl x2] (fn_Pl_actLove x0 x1 x2) (fun b => some (.inl b)) := by
  refine ⟨Nat.le_of_ble_eq_true rfl, ?_⟩
  refine sm_aload_n (i := 0) (j := 0) (pc' := 1) d_Pl_actLove_0 rfl rfl rfl ?_
  refine sm_getR (pc' := 4) d_Pl_actLove_1 rfl fl_Pl_120 rfl rfl (fun v1 => ?_)
  refine sm_iload_n (i := 1) (j := 1) (pc' := 5) d_Pl_actLove_4 rfl rfl rfl ?_
  refine sm_iald (pc' := 6) d_Pl_actLove_5 rfl (fun v2 => ?_)
  refine sm_iload_n (i := 2) (j := 2) (pc' := 7) d_Pl_actLove_6 rfl rfl rfl ?_
  refine sm_bd (mid := fun (t3 : Int32) => .inl (15, [(0, .inr (.inr x0)), (1, .inl x1), (2, .inl x2)], [.inl t3])) ?_ (fun t3 => ?_)
  · refine sm_icmp_eq (tgt := 14) (pc' := 10) d_Pl_actLove_7 rfl rfl ?_ ?_
    · refine sm_iconst (pc' := 15) d_Pl_actLove_14 rfl ic_0 (sm_sub [0, 1, 2] rfl ?_)
      exact sm_rt rfl
    · refine sm_iconst (pc' := 11) d_Pl_actLove_10 rfl ic_1 (sm_goto (tgt := 15) d_Pl_actLove_11 rfl (sm_sub [0, 1, 2] rfl ?_))
      exact sm_rt rfl
  · refine sm_istore_n (i := 3) (L' := [(3, .inl t3), (0, .inr (.inr x0)), (1, .inl x1), (2, .inl x2)]) (pc' := 16) d_Pl_actLove_15 rfl rfl (Nat.le_of_ble_eq_true rfl) rfl (sm_aload_n (i := 0) (j := 1) (pc' := 17) d_Pl_actLove_16 rfl rfl rfl ?_)
    refine sm_getR (pc' := 20) d_Pl_actLove_17 rfl fl_Pl_120 rfl rfl (fun v4 => ?_)
    refine sm_iload_n (i := 1) (j := 2) (pc' := 21) d_Pl_actLove_20 rfl rfl rfl (sm_iload_n (i := 2) (j := 3) (pc' := 22) d_Pl_actLove_21 rfl rfl rfl (sm_iast (pc' := 23) d_Pl_actLove_22 rfl (sm_iload_n (i := 3) (j := 0) (pc' := 24) d_Pl_actLove_23 rfl rfl rfl ?_)))
    exact sm_zretC d_Pl_actLove_24 rfl rfl
theorem d_Pl_actOn_0 : m_D k_Pl_actOn 0 (.aload_n 0) 1 := (by decide +kernel : decode prog_7_method_15_code 0 = .ok (.aload_n 0, 1))
theorem d_Pl_actOn_1 : m_D k_Pl_actOn 1 (.invokevirtual 90) 3 := (by decide +kernel : decode prog_7_method_15_code 1 = .ok (.invokevirtual 90, 3))
theorem d_Pl_actOn_4 : m_D k_Pl_actOn 4 (.ifCond .eq 5) 3 := (by decide +kernel : decode prog_7_method_15_code 4 = .ok (.ifCond .eq 5, 3))
theorem d_Pl_actOn_7 : m_D k_Pl_actOn 7 (.iconst 0) 1 := (by decide +kernel : decode prog_7_method_15_code 7 = .ok (.iconst 0, 1))
theorem d_Pl_actOn_8 : m_D k_Pl_actOn 8 (.ireturn) 1 := (by decide +kernel : decode prog_7_method_15_code 8 = .ok (.ireturn, 1))
theorem d_Pl_actOn_9 : m_D k_Pl_actOn 9 (.iload_n 1) 1 := (by decide +kernel : decode prog_7_method_15_code 9 = .ok (.iload_n 1, 1))
theorem d_Pl_actOn_10 : m_D k_Pl_actOn 10 (.iconst 1) 1 := (by decide +kernel : decode prog_7_method_15_code 10 = .ok (.iconst 1, 1))
theorem d_Pl_actOn_11 : m_D k_Pl_actOn 11 (.if_icmp .ne 10) 3 := (by decide +kernel : decode prog_7_method_15_code 11 = .ok (.if_icmp .ne 10, 3))
theorem d_Pl_actOn_14 : m_D k_Pl_actOn 14 (.aload_n 0) 1 := (by decide +kernel : decode prog_7_method_15_code 14 = .ok (.aload_n 0, 1))
theorem d_Pl_actOn_15 : m_D k_Pl_actOn 15 (.invokevirtual 139) 3 := (by decide +kernel : decode prog_7_method_15_code 15 = .ok (.invokevirtual 139, 3))
theorem d_Pl_actOn_18 : m_D k_Pl_actOn 18 (.goto 20) 3 := (by decide +kernel : decode prog_7_method_15_code 18 = .ok (.goto 20, 3))
theorem d_Pl_actOn_21 : m_D k_Pl_actOn 21 (.iload_n 1) 1 := (by decide +kernel : decode prog_7_method_15_code 21 = .ok (.iload_n 1, 1))
theorem d_Pl_actOn_22 : m_D k_Pl_actOn 22 (.iconst 4) 1 := (by decide +kernel : decode prog_7_method_15_code 22 = .ok (.iconst 4, 1))
theorem d_Pl_actOn_23 : m_D k_Pl_actOn 23 (.if_icmp .ne 11) 3 := (by decide +kernel : decode prog_7_method_15_code 23 = .ok (.if_icmp .ne 11, 3))
theorem d_Pl_actOn_26 : m_D k_Pl_actOn 26 (.aload_n 0) 1 := (by decide +kernel : decode prog_7_method_15_code 26 = .ok (.aload_n 0, 1))
theorem d_Pl_actOn_27 : m_D k_Pl_actOn 27 (.iload_n 2) 1 := (by decide +kernel : decode prog_7_method_15_code 27 = .ok (.iload_n 2, 1))
theorem d_Pl_actOn_28 : m_D k_Pl_actOn 28 (.invokevirtual 142) 3 := (by decide +kernel : decode prog_7_method_15_code 28 = .ok (.invokevirtual 142, 3))
theorem d_Pl_actOn_31 : m_D k_Pl_actOn 31 (.goto 7) 3 := (by decide +kernel : decode prog_7_method_15_code 31 = .ok (.goto 7, 3))
theorem d_Pl_actOn_34 : m_D k_Pl_actOn 34 (.aload_n 0) 1 := (by decide +kernel : decode prog_7_method_15_code 34 = .ok (.aload_n 0, 1))
theorem d_Pl_actOn_35 : m_D k_Pl_actOn 35 (.invokevirtual 145) 3 := (by decide +kernel : decode prog_7_method_15_code 35 = .ok (.invokevirtual 145, 3))
theorem d_Pl_actOn_38 : m_D k_Pl_actOn 38 (.iconst 1) 1 := (by decide +kernel : decode prog_7_method_15_code 38 = .ok (.iconst 1, 1))
theorem d_Pl_actOn_39 : m_D k_Pl_actOn 39 (.ireturn) 1 := (by decide +kernel : decode prog_7_method_15_code 39 = .ok (.ireturn, 1))
def fn_Pl_actOn (x0 : Option mA) (x1 : Int32) (x2 : Int32) : mP Int32 :=
  m_bd (fn_Th_isThrough x0) fun v1 =>
  if v1 = 0 then
    if x1 = 1 then
      m_bd (fn_Th_putOil x0) fun _ =>
      m_rt 1
    else
      if x1 = 4 then
        m_bd (fn_Th_putCoat x0 x2) fun _ =>
        m_rt 1
      else
        m_bd (fn_Th_halveRust x0) fun _ =>
        m_rt 1
  else
    m_rt 0
set_option maxHeartbeats 4000000 in
set_option maxRecDepth 100000 in
theorem sd_Pl_actOn (x0 : Option mA) (x1 : Int32) (x2 : Int32) : m_Sm k_Pl_actOn 2 0 0 [.inr (.inr x0), .inl x1, .inl x2] (fn_Pl_actOn x0 x1 x2) (fun b => some (.inl b)) := by
  refine ⟨Nat.le_of_ble_eq_true rfl, ?_⟩
  refine sm_aload_n (i := 0) (j := 0) (pc' := 1) d_Pl_actOn_0 rfl rfl rfl ?_
  refine sm_callVi (ci := 5) (x := x0) (av := []) (st := []) (mc := 0) (ms := 0) (pc' := 4) d_Pl_actOn_1 rfl (sd_Th_isThrough x0) m_lv rfl cv_Th_isThrough w_ml_Pl_90 rfl rfl (by decide) (Nat.le_of_ble_eq_true rfl) rfl rfl (fun v1 => ?_)
  refine sm_if_eq (tgt := 9) (pc' := 7) d_Pl_actOn_4 rfl rfl ?_ ?_
  · refine sm_iload_n (i := 1) (j := 1) (pc' := 10) d_Pl_actOn_9 rfl rfl rfl (sm_iconst (pc' := 11) d_Pl_actOn_10 rfl ic_1 ?_)
    refine sm_icmp_ne (tgt := 21) (pc' := 14) d_Pl_actOn_11 rfl rfl ?_ ?_
    · refine sm_iload_n (i := 1) (j := 1) (pc' := 22) d_Pl_actOn_21 rfl rfl rfl (sm_iconst (pc' := 23) d_Pl_actOn_22 rfl ic_4 ?_)
      refine sm_icmp_ne (tgt := 34) (pc' := 26) d_Pl_actOn_23 rfl rfl ?_ ?_
      · refine sm_aload_n (i := 0) (j := 0) (pc' := 35) d_Pl_actOn_34 rfl rfl rfl ?_
        refine sm_callVv (ci := 5) (x := x0) (av := []) (st := []) (mc := 0) (ms := 0) (pc' := 38) d_Pl_actOn_35 rfl (sd_Th_halveRust x0) m_lv rfl cv_Th_halveRust w_ml_Pl_145 rfl rfl (by decide) (Nat.le_of_ble_eq_true rfl) rfl rfl ?_
        refine sm_iconst (pc' := 39) d_Pl_actOn_38 rfl ic_1 ?_
        exact sm_zreturn d_Pl_actOn_39 rfl (by decide) rfl
      · refine sm_aload_n (i := 0) (j := 0) (pc' := 27) d_Pl_actOn_26 rfl rfl rfl (sm_iload_n (i := 2) (j := 2) (pc' := 28) d_Pl_actOn_27 rfl rfl rfl ?_)
        refine sm_callVv (ci := 5) (x := x0) (av := [.inl x2]) (st := []) (mc := 0) (ms := 0) (pc' := 31) d_Pl_actOn_28 rfl (sd_Th_putCoat x0 x2) m_lv rfl cv_Th_putCoat w_ml_Pl_142 rfl rfl (by decide) (Nat.le_of_ble_eq_true rfl) rfl rfl ?_
        refine sm_goto (tgt := 38) d_Pl_actOn_31 rfl (sm_iconst (pc' := 39) d_Pl_actOn_38 rfl ic_1 ?_)
        exact sm_zreturn d_Pl_actOn_39 rfl (by decide) rfl
    · refine sm_aload_n (i := 0) (j := 0) (pc' := 15) d_Pl_actOn_14 rfl rfl rfl ?_
      refine sm_callVv (ci := 5) (x := x0) (av := []) (st := []) (mc := 0) (ms := 0) (pc' := 18) d_Pl_actOn_15 rfl (sd_Th_putOil x0) m_lv rfl cv_Th_putOil w_ml_Pl_139 rfl rfl (by decide) (Nat.le_of_ble_eq_true rfl) rfl rfl ?_
      refine sm_goto (tgt := 38) d_Pl_actOn_18 rfl (sm_iconst (pc' := 39) d_Pl_actOn_38 rfl ic_1 ?_)
      exact sm_zreturn d_Pl_actOn_39 rfl (by decide) rfl
  · refine sm_iconst (pc' := 8) d_Pl_actOn_7 rfl ic_0 ?_
    exact sm_zreturn d_Pl_actOn_8 rfl (by decide) rfl
theorem d_Pl_act_0 : m_D k_Pl_act 0 (.aload_n 0) 1 := (by decide +kernel : decode prog_7_method_11_code 0 = .ok (.aload_n 0, 1))
theorem d_Pl_act_1 : m_D k_Pl_act 1 (.getfield 11) 3 := (by decide +kernel : decode prog_7_method_11_code 1 = .ok (.getfield 11, 3))
theorem d_Pl_act_4 : m_D k_Pl_act 4 (.aload_n 0) 1 := (by decide +kernel : decode prog_7_method_11_code 4 = .ok (.aload_n 0, 1))
theorem d_Pl_act_5 : m_D k_Pl_act 5 (.getfield 56) 3 := (by decide +kernel : decode prog_7_method_11_code 5 = .ok (.getfield 56, 3))
theorem d_Pl_act_8 : m_D k_Pl_act 8 (.iaload) 1 := (by decide +kernel : decode prog_7_method_11_code 8 = .ok (.iaload, 1))
theorem d_Pl_act_9 : m_D k_Pl_act 9 (.tableswitch 113 0 6 #[43, 113, 71, 57, 113, 113, 107]) 43 := (by decide +kernel : decode prog_7_method_11_code 9 = .ok (.tableswitch 113 0 6 #[43, 113, 71, 57, 113, 113, 107], 43))
theorem d_Pl_act_52 : m_D k_Pl_act 52 (.aload_n 1) 1 := (by decide +kernel : decode prog_7_method_11_code 52 = .ok (.aload_n 1, 1))
theorem d_Pl_act_53 : m_D k_Pl_act 53 (.aload_n 0) 1 := (by decide +kernel : decode prog_7_method_11_code 53 = .ok (.aload_n 0, 1))
theorem d_Pl_act_54 : m_D k_Pl_act 54 (.getfield 21) 3 := (by decide +kernel : decode prog_7_method_11_code 54 = .ok (.getfield 21, 3))
theorem d_Pl_act_57 : m_D k_Pl_act 57 (.aload_n 0) 1 := (by decide +kernel : decode prog_7_method_11_code 57 = .ok (.aload_n 0, 1))
theorem d_Pl_act_58 : m_D k_Pl_act 58 (.getfield 56) 3 := (by decide +kernel : decode prog_7_method_11_code 58 = .ok (.getfield 56, 3))
theorem d_Pl_act_61 : m_D k_Pl_act 61 (.iaload) 1 := (by decide +kernel : decode prog_7_method_11_code 61 = .ok (.iaload, 1))
theorem d_Pl_act_62 : m_D k_Pl_act 62 (.invokevirtual 94) 3 := (by decide +kernel : decode prog_7_method_11_code 62 = .ok (.invokevirtual 94, 3))
theorem d_Pl_act_65 : m_D k_Pl_act 65 (.ireturn) 1 := (by decide +kernel : decode prog_7_method_11_code 65 = .ok (.ireturn, 1))
theorem d_Pl_act_66 : m_D k_Pl_act 66 (.aload_n 1) 1 := (by decide +kernel : decode prog_7_method_11_code 66 = .ok (.aload_n 1, 1))
theorem d_Pl_act_67 : m_D k_Pl_act 67 (.aload_n 0) 1 := (by decide +kernel : decode prog_7_method_11_code 67 = .ok (.aload_n 0, 1))
theorem d_Pl_act_68 : m_D k_Pl_act 68 (.getfield 21) 3 := (by decide +kernel : decode prog_7_method_11_code 68 = .ok (.getfield 21, 3))
theorem d_Pl_act_71 : m_D k_Pl_act 71 (.aload_n 0) 1 := (by decide +kernel : decode prog_7_method_11_code 71 = .ok (.aload_n 0, 1))
theorem d_Pl_act_72 : m_D k_Pl_act 72 (.getfield 56) 3 := (by decide +kernel : decode prog_7_method_11_code 72 = .ok (.getfield 56, 3))
theorem d_Pl_act_75 : m_D k_Pl_act 75 (.iaload) 1 := (by decide +kernel : decode prog_7_method_11_code 75 = .ok (.iaload, 1))
theorem d_Pl_act_76 : m_D k_Pl_act 76 (.invokestatic 98) 3 := (by decide +kernel : decode prog_7_method_11_code 76 = .ok (.invokestatic 98, 3))
theorem d_Pl_act_79 : m_D k_Pl_act 79 (.ireturn) 1 := (by decide +kernel : decode prog_7_method_11_code 79 = .ok (.ireturn, 1))
theorem d_Pl_act_80 : m_D k_Pl_act 80 (.aload_n 1) 1 := (by decide +kernel : decode prog_7_method_11_code 80 = .ok (.aload_n 1, 1))
theorem d_Pl_act_81 : m_D k_Pl_act 81 (.getfield 102) 3 := (by decide +kernel : decode prog_7_method_11_code 81 = .ok (.getfield 102, 3))
theorem d_Pl_act_84 : m_D k_Pl_act 84 (.aload_n 0) 1 := (by decide +kernel : decode prog_7_method_11_code 84 = .ok (.aload_n 0, 1))
theorem d_Pl_act_85 : m_D k_Pl_act 85 (.getfield 15) 3 := (by decide +kernel : decode prog_7_method_11_code 85 = .ok (.getfield 15, 3))
theorem d_Pl_act_88 : m_D k_Pl_act 88 (.aload_n 0) 1 := (by decide +kernel : decode prog_7_method_11_code 88 = .ok (.aload_n 0, 1))
theorem d_Pl_act_89 : m_D k_Pl_act 89 (.getfield 56) 3 := (by decide +kernel : decode prog_7_method_11_code 89 = .ok (.getfield 56, 3))
theorem d_Pl_act_92 : m_D k_Pl_act 92 (.iaload) 1 := (by decide +kernel : decode prog_7_method_11_code 92 = .ok (.iaload, 1))
theorem d_Pl_act_93 : m_D k_Pl_act 93 (.aaload) 1 := (by decide +kernel : decode prog_7_method_11_code 93 = .ok (.aaload, 1))
theorem d_Pl_act_94 : m_D k_Pl_act 94 (.aload_n 0) 1 := (by decide +kernel : decode prog_7_method_11_code 94 = .ok (.aload_n 0, 1))
theorem d_Pl_act_95 : m_D k_Pl_act 95 (.getfield 18) 3 := (by decide +kernel : decode prog_7_method_11_code 95 = .ok (.getfield 18, 3))
theorem d_Pl_act_98 : m_D k_Pl_act 98 (.aload_n 0) 1 := (by decide +kernel : decode prog_7_method_11_code 98 = .ok (.aload_n 0, 1))
theorem d_Pl_act_99 : m_D k_Pl_act 99 (.getfield 56) 3 := (by decide +kernel : decode prog_7_method_11_code 99 = .ok (.getfield 56, 3))
theorem d_Pl_act_102 : m_D k_Pl_act 102 (.iaload) 1 := (by decide +kernel : decode prog_7_method_11_code 102 = .ok (.iaload, 1))
theorem d_Pl_act_103 : m_D k_Pl_act 103 (.aload_n 0) 1 := (by decide +kernel : decode prog_7_method_11_code 103 = .ok (.aload_n 0, 1))
theorem d_Pl_act_104 : m_D k_Pl_act 104 (.getfield 21) 3 := (by decide +kernel : decode prog_7_method_11_code 104 = .ok (.getfield 21, 3))
theorem d_Pl_act_107 : m_D k_Pl_act 107 (.aload_n 0) 1 := (by decide +kernel : decode prog_7_method_11_code 107 = .ok (.aload_n 0, 1))
theorem d_Pl_act_108 : m_D k_Pl_act 108 (.getfield 56) 3 := (by decide +kernel : decode prog_7_method_11_code 108 = .ok (.getfield 56, 3))
theorem d_Pl_act_111 : m_D k_Pl_act 111 (.iaload) 1 := (by decide +kernel : decode prog_7_method_11_code 111 = .ok (.iaload, 1))
theorem d_Pl_act_112 : m_D k_Pl_act 112 (.invokestatic 106) 3 := (by decide +kernel : decode prog_7_method_11_code 112 = .ok (.invokestatic 106, 3))
theorem d_Pl_act_115 : m_D k_Pl_act 115 (.ireturn) 1 := (by decide +kernel : decode prog_7_method_11_code 115 = .ok (.ireturn, 1))
theorem d_Pl_act_116 : m_D k_Pl_act 116 (.aload_n 0) 1 := (by decide +kernel : decode prog_7_method_11_code 116 = .ok (.aload_n 0, 1))
theorem d_Pl_act_117 : m_D k_Pl_act 117 (.aload_n 1) 1 := (by decide +kernel : decode prog_7_method_11_code 117 = .ok (.aload_n 1, 1))
theorem d_Pl_act_118 : m_D k_Pl_act 118 (.invokevirtual 110) 3 := (by decide +kernel : decode prog_7_method_11_code 118 = .ok (.invokevirtual 110, 3))
theorem d_Pl_act_121 : m_D k_Pl_act 121 (.ireturn) 1 := (by decide +kernel : decode prog_7_method_11_code 121 = .ok (.ireturn, 1))
theorem d_Pl_act_122 : m_D k_Pl_act 122 (.aload_n 1) 1 := (by decide +kernel : decode prog_7_method_11_code 122 = .ok (.aload_n 1, 1))
theorem d_Pl_act_123 : m_D k_Pl_act 123 (.getfield 81) 3 := (by decide +kernel : decode prog_7_method_11_code 123 = .ok (.getfield 81, 3))
theorem d_Pl_act_126 : m_D k_Pl_act 126 (.aload_n 0) 1 := (by decide +kernel : decode prog_7_method_11_code 126 = .ok (.aload_n 0, 1))
theorem d_Pl_act_127 : m_D k_Pl_act 127 (.getfield 18) 3 := (by decide +kernel : decode prog_7_method_11_code 127 = .ok (.getfield 18, 3))
theorem d_Pl_act_130 : m_D k_Pl_act 130 (.aload_n 0) 1 := (by decide +kernel : decode prog_7_method_11_code 130 = .ok (.aload_n 0, 1))
theorem d_Pl_act_131 : m_D k_Pl_act 131 (.getfield 56) 3 := (by decide +kernel : decode prog_7_method_11_code 131 = .ok (.getfield 56, 3))
theorem d_Pl_act_134 : m_D k_Pl_act 134 (.iaload) 1 := (by decide +kernel : decode prog_7_method_11_code 134 = .ok (.iaload, 1))
theorem d_Pl_act_135 : m_D k_Pl_act 135 (.aaload) 1 := (by decide +kernel : decode prog_7_method_11_code 135 = .ok (.aaload, 1))
theorem d_Pl_act_136 : m_D k_Pl_act 136 (.aload_n 0) 1 := (by decide +kernel : decode prog_7_method_11_code 136 = .ok (.aload_n 0, 1))
theorem d_Pl_act_137 : m_D k_Pl_act 137 (.getfield 11) 3 := (by decide +kernel : decode prog_7_method_11_code 137 = .ok (.getfield 11, 3))
theorem d_Pl_act_140 : m_D k_Pl_act 140 (.aload_n 0) 1 := (by decide +kernel : decode prog_7_method_11_code 140 = .ok (.aload_n 0, 1))
theorem d_Pl_act_141 : m_D k_Pl_act 141 (.getfield 56) 3 := (by decide +kernel : decode prog_7_method_11_code 141 = .ok (.getfield 56, 3))
theorem d_Pl_act_144 : m_D k_Pl_act 144 (.iaload) 1 := (by decide +kernel : decode prog_7_method_11_code 144 = .ok (.iaload, 1))
theorem d_Pl_act_145 : m_D k_Pl_act 145 (.aload_n 0) 1 := (by decide +kernel : decode prog_7_method_11_code 145 = .ok (.aload_n 0, 1))
theorem d_Pl_act_146 : m_D k_Pl_act 146 (.getfield 21) 3 := (by decide +kernel : decode prog_7_method_11_code 146 = .ok (.getfield 21, 3))
theorem d_Pl_act_149 : m_D k_Pl_act 149 (.aload_n 0) 1 := (by decide +kernel : decode prog_7_method_11_code 149 = .ok (.aload_n 0, 1))
theorem d_Pl_act_150 : m_D k_Pl_act 150 (.getfield 56) 3 := (by decide +kernel : decode prog_7_method_11_code 150 = .ok (.getfield 56, 3))
theorem d_Pl_act_153 : m_D k_Pl_act 153 (.iaload) 1 := (by decide +kernel : decode prog_7_method_11_code 153 = .ok (.iaload, 1))
theorem d_Pl_act_154 : m_D k_Pl_act 154 (.invokestatic 113) 3 := (by decide +kernel : decode prog_7_method_11_code 154 = .ok (.invokestatic 113, 3))
theorem d_Pl_act_157 : m_D k_Pl_act 157 (.ireturn) 1 := (by decide +kernel : decode prog_7_method_11_code 157 = .ok (.ireturn, 1))
def fn_Pl_act (x0 : Option mA) (x1 : Option mA) : mP Int32 :=
  m_th 6 x0 <|
  m_bd (m_gR 6 2 x0) fun v1 =>
  m_bd (m_gI 6 10 x0) fun v2 =>
  m_bd (m_aI 0 v1 v2) fun v3 =>
  if v3 = 0 then
    m_bd (m_gR 6 5 x0) fun v4 =>
    m_bd (m_gI 6 10 x0) fun v5 =>
    m_bd (m_aI 0 v4 v5) fun v6 =>
    m_bd (fn_Fa_passYears x1 v6) fun v7 =>
    m_bd (m_cz v7) fun _ => m_rt v7
  else if v3 = 2 then
    m_bd (m_gR 3 7 x1) fun v8 =>
    m_bd (m_gR 6 3 x0) fun v9 =>
    m_bd (m_gI 6 10 x0) fun v10 =>
    m_bd (m_aI 0 v9 v10) fun v11 =>
    m_bd (m_aR 6 v8 v11) fun v12 =>
    m_bd (m_gR 6 4 x0) fun v13 =>
    m_bd (m_gI 6 10 x0) fun v14 =>
    m_bd (m_aI 0 v13 v14) fun v15 =>
    m_bd (m_gR 6 5 x0) fun v16 =>
    m_bd (m_gI 6 10 x0) fun v17 =>
    m_bd (m_aI 0 v16 v17) fun v18 =>
    m_bd (fn_Pl_actLove v12 v15 v18) fun v19 =>
    m_bd (m_cz v19) fun _ => m_rt v19
  else if v3 = 3 then
    m_bd (m_gR 6 5 x0) fun v20 =>
    m_bd (m_gI 6 10 x0) fun v21 =>
    m_bd (m_aI 0 v20 v21) fun v22 =>
    m_bd (fn_Pl_actDamp x1 v22) fun v23 =>
    m_bd (m_cz v23) fun _ => m_rt v23
  else if v3 = 6 then
    m_bd (fn_Pl_actAny x0 x1) fun v24 =>
    m_bd (m_cz v24) fun _ => m_rt v24
  else
    m_bd (m_gR 3 8 x1) fun v25 =>
    m_bd (m_gR 6 4 x0) fun v26 =>
    m_bd (m_gI 6 10 x0) fun v27 =>
    m_bd (m_aI 0 v26 v27) fun v28 =>
    m_bd (m_aR 7 v25 v28) fun v29 =>
    m_bd (m_gR 6 2 x0) fun v30 =>
    m_bd (m_gI 6 10 x0) fun v31 =>
    m_bd (m_aI 0 v30 v31) fun v32 =>
    m_bd (m_gR 6 5 x0) fun v33 =>
    m_bd (m_gI 6 10 x0) fun v34 =>
    m_bd (m_aI 0 v33 v34) fun v35 =>
    m_bd (fn_Pl_actOn v29 v32 v35) fun v36 =>
    m_bd (m_cz v36) fun _ => m_rt v36
set_option maxHeartbeats 4000000 in
set_option maxRecDepth 100000 in
theorem sd_Pl_act (x0 : Option mA) (x1 : Option mA) : m_Sm k_Pl_act 6 0 0 [.inr (.inr x0), .inr (.inr x1)] (fn_Pl_act x0 x1) (fun b => some (.inl b)) := by
  refine ⟨Nat.le_of_ble_eq_true rfl, ?_⟩
  refine sm_th ?_
  refine sm_aload_n (i := 0) (j := 0) (pc' := 1) d_Pl_act_0 rfl rfl rfl ?_
  refine sm_getR (pc' := 4) d_Pl_act_1 rfl fl_Pl_11 rfl rfl (fun v1 => ?_)
  refine sm_aload_n (i := 0) (j := 0) (pc' := 5) d_Pl_act_4 rfl rfl rfl ?_
  refine sm_getI (pc' := 8) d_Pl_act_5 rfl fl_Pl_56 rfl ⟨by decide, by decide⟩ (fun v2 => ?_)
  refine sm_iald (pc' := 9) d_Pl_act_8 rfl (fun v3 => ?_)
  refine sm_ite (fun hs9_0 => ?_) (fun hs9_0 => ?_)
  · refine sm_tabIn (off := 43) (tgt := 52) d_Pl_act_9 (by rw [hs9_0]; decide) (by rw [hs9_0]; decide) (by rw [hs9_0]; rfl) rfl ?_
    refine sm_aload_n (i := 1) (j := 1) (pc' := 53) d_Pl_act_52 rfl rfl rfl (sm_aload_n (i := 0) (j := 0) (pc' := 54) d_Pl_act_53 rfl rfl rfl ?_)
    refine sm_getR (pc' := 57) d_Pl_act_54 rfl fl_Pl_21 rfl rfl (fun v4 => ?_)
    refine sm_aload_n (i := 0) (j := 0) (pc' := 58) d_Pl_act_57 rfl rfl rfl ?_
    refine sm_getI (pc' := 61) d_Pl_act_58 rfl fl_Pl_56 rfl ⟨by decide, by decide⟩ (fun v5 => ?_)
    refine sm_iald (pc' := 62) d_Pl_act_61 rfl (fun v6 => ?_)
    refine sm_callVi (ci := 3) (x := x1) (av := [.inl v6]) (st := []) (mc := 0) (ms := 0) (pc' := 65) d_Pl_act_62 rfl (sd_Fa_passYears x1 v6) m_lv rfl cv_Fa_passYears w_ml_Pl_94 rfl rfl (by decide) (Nat.le_of_ble_eq_true rfl) rfl rfl (fun v7 => ?_)
    exact sm_zretC d_Pl_act_65 rfl rfl
  refine sm_ite (fun hs9_2 => ?_) (fun hs9_2 => ?_)
  · refine sm_tabIn (off := 71) (tgt := 80) d_Pl_act_9 (by rw [hs9_2]; decide) (by rw [hs9_2]; decide) (by rw [hs9_2]; rfl) rfl ?_
    refine sm_aload_n (i := 1) (j := 1) (pc' := 81) d_Pl_act_80 rfl rfl rfl ?_
    refine sm_getR (pc' := 84) d_Pl_act_81 rfl fl_Pl_102 rfl rfl (fun v8 => ?_)
    refine sm_aload_n (i := 0) (j := 0) (pc' := 85) d_Pl_act_84 rfl rfl rfl ?_
    refine sm_getR (pc' := 88) d_Pl_act_85 rfl fl_Pl_15 rfl rfl (fun v9 => ?_)
    refine sm_aload_n (i := 0) (j := 0) (pc' := 89) d_Pl_act_88 rfl rfl rfl ?_
    refine sm_getI (pc' := 92) d_Pl_act_89 rfl fl_Pl_56 rfl ⟨by decide, by decide⟩ (fun v10 => ?_)
    refine sm_iald (pc' := 93) d_Pl_act_92 rfl (fun v11 => ?_)
    refine sm_aald (t := 6) ⟨by decide, by decide⟩ rfl (pc' := 94) d_Pl_act_93 rfl (fun v12 => ?_)
    refine sm_aload_n (i := 0) (j := 0) (pc' := 95) d_Pl_act_94 rfl rfl rfl ?_
    refine sm_getR (pc' := 98) d_Pl_act_95 rfl fl_Pl_18 rfl rfl (fun v13 => ?_)
    refine sm_aload_n (i := 0) (j := 0) (pc' := 99) d_Pl_act_98 rfl rfl rfl ?_
    refine sm_getI (pc' := 102) d_Pl_act_99 rfl fl_Pl_56 rfl ⟨by decide, by decide⟩ (fun v14 => ?_)
    refine sm_iald (pc' := 103) d_Pl_act_102 rfl (fun v15 => ?_)
    refine sm_aload_n (i := 0) (j := 0) (pc' := 104) d_Pl_act_103 rfl rfl rfl ?_
    refine sm_getR (pc' := 107) d_Pl_act_104 rfl fl_Pl_21 rfl rfl (fun v16 => ?_)
    refine sm_aload_n (i := 0) (j := 0) (pc' := 108) d_Pl_act_107 rfl rfl rfl ?_
    refine sm_getI (pc' := 111) d_Pl_act_108 rfl fl_Pl_56 rfl ⟨by decide, by decide⟩ (fun v17 => ?_)
    refine sm_iald (pc' := 112) d_Pl_act_111 rfl (fun v18 => ?_)
    refine sm_callSi (av := [.inr (.inr v12), .inl v15, .inl v18]) (st := []) (mc := 0) (ms := 0) (pc' := 115) d_Pl_act_112 rfl (sd_Pl_actLove v12 v15 v18) cs_Pl_actLove w_ml_Pl_106 rfl rfl (by decide) (Nat.le_of_ble_eq_true rfl) rfl rfl (fun v19 => ?_)
    exact sm_zretC d_Pl_act_115 rfl rfl
  refine sm_ite (fun hs9_3 => ?_) (fun hs9_3 => ?_)
  · refine sm_tabIn (off := 57) (tgt := 66) d_Pl_act_9 (by rw [hs9_3]; decide) (by rw [hs9_3]; decide) (by rw [hs9_3]; rfl) rfl ?_
    refine sm_aload_n (i := 1) (j := 1) (pc' := 67) d_Pl_act_66 rfl rfl rfl (sm_aload_n (i := 0) (j := 0) (pc' := 68) d_Pl_act_67 rfl rfl rfl ?_)
    refine sm_getR (pc' := 71) d_Pl_act_68 rfl fl_Pl_21 rfl rfl (fun v20 => ?_)
    refine sm_aload_n (i := 0) (j := 0) (pc' := 72) d_Pl_act_71 rfl rfl rfl ?_
    refine sm_getI (pc' := 75) d_Pl_act_72 rfl fl_Pl_56 rfl ⟨by decide, by decide⟩ (fun v21 => ?_)
    refine sm_iald (pc' := 76) d_Pl_act_75 rfl (fun v22 => ?_)
    refine sm_callSi (av := [.inr (.inr x1), .inl v22]) (st := []) (mc := 0) (ms := 0) (pc' := 79) d_Pl_act_76 rfl (sd_Pl_actDamp x1 v22) cs_Pl_actDamp w_ml_Pl_98 rfl rfl (by decide) (Nat.le_of_ble_eq_true rfl) rfl rfl (fun v23 => ?_)
    exact sm_zretC d_Pl_act_79 rfl rfl
  refine sm_ite (fun hs9_6 => ?_) (fun hs9_6 => ?_)
  · refine sm_tabIn (off := 107) (tgt := 116) d_Pl_act_9 (by rw [hs9_6]; decide) (by rw [hs9_6]; decide) (by rw [hs9_6]; rfl) rfl ?_
    refine sm_aload_n (i := 0) (j := 0) (pc' := 117) d_Pl_act_116 rfl rfl rfl (sm_aload_n (i := 1) (j := 1) (pc' := 118) d_Pl_act_117 rfl rfl rfl ?_)
    refine sm_callVi (ci := 6) (x := x0) (av := [.inr (.inr x1)]) (st := []) (mc := 0) (ms := 0) (pc' := 121) d_Pl_act_118 rfl (sd_Pl_actAny x0 x1) m_lv rfl cv_Pl_actAny w_ml_Pl_110 rfl rfl (by decide) (Nat.le_of_ble_eq_true rfl) rfl rfl (fun v24 => ?_)
    exact sm_zretC d_Pl_act_121 rfl rfl
  by_cases hg9_1 : v3 = 1
  · refine sm_tabIn (off := 113) (tgt := 122) d_Pl_act_9 (by rw [hg9_1]; decide) (by rw [hg9_1]; decide) (by rw [hg9_1]; rfl) rfl ?_
    refine sm_aload_n (i := 1) (j := 1) (pc' := 123) d_Pl_act_122 rfl rfl rfl ?_
    refine sm_getR (pc' := 126) d_Pl_act_123 rfl fl_Pl_81 rfl rfl (fun v25 => ?_)
    refine sm_aload_n (i := 0) (j := 0) (pc' := 127) d_Pl_act_126 rfl rfl rfl ?_
    refine sm_getR (pc' := 130) d_Pl_act_127 rfl fl_Pl_18 rfl rfl (fun v26 => ?_)
    refine sm_aload_n (i := 0) (j := 0) (pc' := 131) d_Pl_act_130 rfl rfl rfl ?_
    refine sm_getI (pc' := 134) d_Pl_act_131 rfl fl_Pl_56 rfl ⟨by decide, by decide⟩ (fun v27 => ?_)
    refine sm_iald (pc' := 135) d_Pl_act_134 rfl (fun v28 => ?_)
    refine sm_aald (t := 7) ⟨by decide, by decide⟩ rfl (pc' := 136) d_Pl_act_135 rfl (fun v29 => ?_)
    refine sm_aload_n (i := 0) (j := 0) (pc' := 137) d_Pl_act_136 rfl rfl rfl ?_
    refine sm_getR (pc' := 140) d_Pl_act_137 rfl fl_Pl_11 rfl rfl (fun v30 => ?_)
    refine sm_aload_n (i := 0) (j := 0) (pc' := 141) d_Pl_act_140 rfl rfl rfl ?_
    refine sm_getI (pc' := 144) d_Pl_act_141 rfl fl_Pl_56 rfl ⟨by decide, by decide⟩ (fun v31 => ?_)
    refine sm_iald (pc' := 145) d_Pl_act_144 rfl (fun v32 => ?_)
    refine sm_aload_n (i := 0) (j := 0) (pc' := 146) d_Pl_act_145 rfl rfl rfl ?_
    refine sm_getR (pc' := 149) d_Pl_act_146 rfl fl_Pl_21 rfl rfl (fun v33 => ?_)
    refine sm_aload_n (i := 0) (j := 0) (pc' := 150) d_Pl_act_149 rfl rfl rfl ?_
    refine sm_getI (pc' := 153) d_Pl_act_150 rfl fl_Pl_56 rfl ⟨by decide, by decide⟩ (fun v34 => ?_)
    refine sm_iald (pc' := 154) d_Pl_act_153 rfl (fun v35 => ?_)
    refine sm_callSi (av := [.inr (.inr v29), .inl v32, .inl v35]) (st := []) (mc := 0) (ms := 0) (pc' := 157) d_Pl_act_154 rfl (sd_Pl_actOn v29 v32 v35) cs_Pl_actOn w_ml_Pl_113 rfl rfl (by decide) (Nat.le_of_ble_eq_true rfl) rfl rfl (fun v36 => ?_)
    exact sm_zretC d_Pl_act_157 rfl rfl
  by_cases hg9_4 : v3 = 4
  · refine sm_tabIn (off := 113) (tgt := 122) d_Pl_act_9 (by rw [hg9_4]; decide) (by rw [hg9_4]; decide) (by rw [hg9_4]; rfl) rfl ?_
    refine sm_aload_n (i := 1) (j := 1) (pc' := 123) d_Pl_act_122 rfl rfl rfl ?_
    refine sm_getR (pc' := 126) d_Pl_act_123 rfl fl_Pl_81 rfl rfl (fun v25 => ?_)
    refine sm_aload_n (i := 0) (j := 0) (pc' := 127) d_Pl_act_126 rfl rfl rfl ?_
    refine sm_getR (pc' := 130) d_Pl_act_127 rfl fl_Pl_18 rfl rfl (fun v26 => ?_)
    refine sm_aload_n (i := 0) (j := 0) (pc' := 131) d_Pl_act_130 rfl rfl rfl ?_
    refine sm_getI (pc' := 134) d_Pl_act_131 rfl fl_Pl_56 rfl ⟨by decide, by decide⟩ (fun v27 => ?_)
    refine sm_iald (pc' := 135) d_Pl_act_134 rfl (fun v28 => ?_)
    refine sm_aald (t := 7) ⟨by decide, by decide⟩ rfl (pc' := 136) d_Pl_act_135 rfl (fun v29 => ?_)
    refine sm_aload_n (i := 0) (j := 0) (pc' := 137) d_Pl_act_136 rfl rfl rfl ?_
    refine sm_getR (pc' := 140) d_Pl_act_137 rfl fl_Pl_11 rfl rfl (fun v30 => ?_)
    refine sm_aload_n (i := 0) (j := 0) (pc' := 141) d_Pl_act_140 rfl rfl rfl ?_
    refine sm_getI (pc' := 144) d_Pl_act_141 rfl fl_Pl_56 rfl ⟨by decide, by decide⟩ (fun v31 => ?_)
    refine sm_iald (pc' := 145) d_Pl_act_144 rfl (fun v32 => ?_)
    refine sm_aload_n (i := 0) (j := 0) (pc' := 146) d_Pl_act_145 rfl rfl rfl ?_
    refine sm_getR (pc' := 149) d_Pl_act_146 rfl fl_Pl_21 rfl rfl (fun v33 => ?_)
    refine sm_aload_n (i := 0) (j := 0) (pc' := 150) d_Pl_act_149 rfl rfl rfl ?_
    refine sm_getI (pc' := 153) d_Pl_act_150 rfl fl_Pl_56 rfl ⟨by decide, by decide⟩ (fun v34 => ?_)
    refine sm_iald (pc' := 154) d_Pl_act_153 rfl (fun v35 => ?_)
    refine sm_callSi (av := [.inr (.inr v29), .inl v32, .inl v35]) (st := []) (mc := 0) (ms := 0) (pc' := 157) d_Pl_act_154 rfl (sd_Pl_actOn v29 v32 v35) cs_Pl_actOn w_ml_Pl_113 rfl rfl (by decide) (Nat.le_of_ble_eq_true rfl) rfl rfl (fun v36 => ?_)
    exact sm_zretC d_Pl_act_157 rfl rfl
  by_cases hg9_5 : v3 = 5
  · refine sm_tabIn (off := 113) (tgt := 122) d_Pl_act_9 (by rw [hg9_5]; decide) (by rw [hg9_5]; decide) (by rw [hg9_5]; rfl) rfl ?_
    refine sm_aload_n (i := 1) (j := 1) (pc' := 123) d_Pl_act_122 rfl rfl rfl ?_
    refine sm_getR (pc' := 126) d_Pl_act_123 rfl fl_Pl_81 rfl rfl (fun v25 => ?_)
    refine sm_aload_n (i := 0) (j := 0) (pc' := 127) d_Pl_act_126 rfl rfl rfl ?_
    refine sm_getR (pc' := 130) d_Pl_act_127 rfl fl_Pl_18 rfl rfl (fun v26 => ?_)
    refine sm_aload_n (i := 0) (j := 0) (pc' := 131) d_Pl_act_130 rfl rfl rfl ?_
    refine sm_getI (pc' := 134) d_Pl_act_131 rfl fl_Pl_56 rfl ⟨by decide, by decide⟩ (fun v27 => ?_)
    refine sm_iald (pc' := 135) d_Pl_act_134 rfl (fun v28 => ?_)
    refine sm_aald (t := 7) ⟨by decide, by decide⟩ rfl (pc' := 136) d_Pl_act_135 rfl (fun v29 => ?_)
    refine sm_aload_n (i := 0) (j := 0) (pc' := 137) d_Pl_act_136 rfl rfl rfl ?_
    refine sm_getR (pc' := 140) d_Pl_act_137 rfl fl_Pl_11 rfl rfl (fun v30 => ?_)
    refine sm_aload_n (i := 0) (j := 0) (pc' := 141) d_Pl_act_140 rfl rfl rfl ?_
    refine sm_getI (pc' := 144) d_Pl_act_141 rfl fl_Pl_56 rfl ⟨by decide, by decide⟩ (fun v31 => ?_)
    refine sm_iald (pc' := 145) d_Pl_act_144 rfl (fun v32 => ?_)
    refine sm_aload_n (i := 0) (j := 0) (pc' := 146) d_Pl_act_145 rfl rfl rfl ?_
    refine sm_getR (pc' := 149) d_Pl_act_146 rfl fl_Pl_21 rfl rfl (fun v33 => ?_)
    refine sm_aload_n (i := 0) (j := 0) (pc' := 150) d_Pl_act_149 rfl rfl rfl ?_
    refine sm_getI (pc' := 153) d_Pl_act_150 rfl fl_Pl_56 rfl ⟨by decide, by decide⟩ (fun v34 => ?_)
    refine sm_iald (pc' := 154) d_Pl_act_153 rfl (fun v35 => ?_)
    refine sm_callSi (av := [.inr (.inr v29), .inl v32, .inl v35]) (st := []) (mc := 0) (ms := 0) (pc' := 157) d_Pl_act_154 rfl (sd_Pl_actOn v29 v32 v35) cs_Pl_actOn w_ml_Pl_113 rfl rfl (by decide) (Nat.le_of_ble_eq_true rfl) rfl rfl (fun v36 => ?_)
    exact sm_zretC d_Pl_act_157 rfl rfl
  refine sm_tabOut (tgt := 122) d_Pl_act_9 (by have z0 : (v3).toInt ≠ 0 := fun e => hs9_0 (Int32.toInt_inj.mp (by rw [e]; rfl)); have z1 : (v3).toInt ≠ 2 := fun e => hs9_2 (Int32.toInt_inj.mp (by rw [e]; rfl)); have z2 : (v3).toInt ≠ 3 := fun e => hs9_3 (Int32.toInt_inj.mp (by rw [e]; rfl)); have z3 : (v3).toInt ≠ 6 := fun e => hs9_6 (Int32.toInt_inj.mp (by rw [e]; rfl)); have z4 : (v3).toInt ≠ 1 := fun e => hg9_1 (Int32.toInt_inj.mp (by rw [e]; rfl)); have z5 : (v3).toInt ≠ 4 := fun e => hg9_4 (Int32.toInt_inj.mp (by rw [e]; rfl)); have z6 : (v3).toInt ≠ 5 := fun e => hg9_5 (Int32.toInt_inj.mp (by rw [e]; rfl)); omega) rfl ?_
  refine sm_aload_n (i := 1) (j := 1) (pc' := 123) d_Pl_act_122 rfl rfl rfl ?_
  refine sm_getR (pc' := 126) d_Pl_act_123 rfl fl_Pl_81 rfl rfl (fun v25 => ?_)
  refine sm_aload_n (i := 0) (j := 0) (pc' := 127) d_Pl_act_126 rfl rfl rfl ?_
  refine sm_getR (pc' := 130) d_Pl_act_127 rfl fl_Pl_18 rfl rfl (fun v26 => ?_)
  refine sm_aload_n (i := 0) (j := 0) (pc' := 131) d_Pl_act_130 rfl rfl rfl ?_
  refine sm_getI (pc' := 134) d_Pl_act_131 rfl fl_Pl_56 rfl ⟨by decide, by decide⟩ (fun v27 => ?_)
  refine sm_iald (pc' := 135) d_Pl_act_134 rfl (fun v28 => ?_)
  refine sm_aald (t := 7) ⟨by decide, by decide⟩ rfl (pc' := 136) d_Pl_act_135 rfl (fun v29 => ?_)
  refine sm_aload_n (i := 0) (j := 0) (pc' := 137) d_Pl_act_136 rfl rfl rfl ?_
  refine sm_getR (pc' := 140) d_Pl_act_137 rfl fl_Pl_11 rfl rfl (fun v30 => ?_)
  refine sm_aload_n (i := 0) (j := 0) (pc' := 141) d_Pl_act_140 rfl rfl rfl ?_
  refine sm_getI (pc' := 144) d_Pl_act_141 rfl fl_Pl_56 rfl ⟨by decide, by decide⟩ (fun v31 => ?_)
  refine sm_iald (pc' := 145) d_Pl_act_144 rfl (fun v32 => ?_)
  refine sm_aload_n (i := 0) (j := 0) (pc' := 146) d_Pl_act_145 rfl rfl rfl ?_
  refine sm_getR (pc' := 149) d_Pl_act_146 rfl fl_Pl_21 rfl rfl (fun v33 => ?_)
  refine sm_aload_n (i := 0) (j := 0) (pc' := 150) d_Pl_act_149 rfl rfl rfl ?_
  refine sm_getI (pc' := 153) d_Pl_act_150 rfl fl_Pl_56 rfl ⟨by decide, by decide⟩ (fun v34 => ?_)
  refine sm_iald (pc' := 154) d_Pl_act_153 rfl (fun v35 => ?_)
  refine sm_callSi (av := [.inr (.inr v29), .inl v32, .inl v35]) (st := []) (mc := 0) (ms := 0) (pc' := 157) d_Pl_act_154 rfl (sd_Pl_actOn v29 v32 v35) cs_Pl_actOn w_ml_Pl_113 rfl rfl (by decide) (Nat.le_of_ble_eq_true rfl) rfl rfl (fun v36 => ?_)
  exact sm_zretC d_Pl_act_157 rfl rfl
theorem d_Pl_enterLoop_0 : m_D k_Pl_enterLoop 0 (.aload_n 0) 1 := (by decide +kernel : decode prog_7_method_8_code 0 = .ok (.aload_n 0, 1))
theorem d_Pl_enterLoop_1 : m_D k_Pl_enterLoop 1 (.getfield 24) 3 := (by decide +kernel : decode prog_7_method_8_code 1 = .ok (.getfield 24, 3))
theorem d_Pl_enterLoop_4 : m_D k_Pl_enterLoop 4 (.aload_n 0) 1 := (by decide +kernel : decode prog_7_method_8_code 4 = .ok (.aload_n 0, 1))
theorem d_Pl_enterLoop_5 : m_D k_Pl_enterLoop 5 (.getfield 56) 3 := (by decide +kernel : decode prog_7_method_8_code 5 = .ok (.getfield 56, 3))
theorem d_Pl_enterLoop_8 : m_D k_Pl_enterLoop 8 (.iaload) 1 := (by decide +kernel : decode prog_7_method_8_code 8 = .ok (.iaload, 1))
theorem d_Pl_enterLoop_9 : m_D k_Pl_enterLoop 9 (.aload_n 0) 1 := (by decide +kernel : decode prog_7_method_8_code 9 = .ok (.aload_n 0, 1))
theorem d_Pl_enterLoop_10 : m_D k_Pl_enterLoop 10 (.getfield 56) 3 := (by decide +kernel : decode prog_7_method_8_code 10 = .ok (.getfield 56, 3))
theorem d_Pl_enterLoop_13 : m_D k_Pl_enterLoop 13 (.iconst 1) 1 := (by decide +kernel : decode prog_7_method_8_code 13 = .ok (.iconst 1, 1))
theorem d_Pl_enterLoop_14 : m_D k_Pl_enterLoop 14 (.iadd) 1 := (by decide +kernel : decode prog_7_method_8_code 14 = .ok (.iadd, 1))
theorem d_Pl_enterLoop_15 : m_D k_Pl_enterLoop 15 (.if_icmp .le 52) 3 := (by decide +kernel : decode prog_7_method_8_code 15 = .ok (.if_icmp .le 52, 3))
theorem d_Pl_enterLoop_18 : m_D k_Pl_enterLoop 18 (.aload_n 0) 1 := (by decide +kernel : decode prog_7_method_8_code 18 = .ok (.aload_n 0, 1))
theorem d_Pl_enterLoop_19 : m_D k_Pl_enterLoop 19 (.getfield 59) 3 := (by decide +kernel : decode prog_7_method_8_code 19 = .ok (.getfield 59, 3))
theorem d_Pl_enterLoop_22 : m_D k_Pl_enterLoop 22 (.iconst 3) 1 := (by decide +kernel : decode prog_7_method_8_code 22 = .ok (.iconst 3, 1))
theorem d_Pl_enterLoop_23 : m_D k_Pl_enterLoop 23 (.if_icmp .ge 44) 3 := (by decide +kernel : decode prog_7_method_8_code 23 = .ok (.if_icmp .ge 44, 3))
theorem d_Pl_enterLoop_26 : m_D k_Pl_enterLoop 26 (.aload_n 0) 1 := (by decide +kernel : decode prog_7_method_8_code 26 = .ok (.aload_n 0, 1))
theorem d_Pl_enterLoop_27 : m_D k_Pl_enterLoop 27 (.getfield 27) 3 := (by decide +kernel : decode prog_7_method_8_code 27 = .ok (.getfield 27, 3))
theorem d_Pl_enterLoop_30 : m_D k_Pl_enterLoop 30 (.aload_n 0) 1 := (by decide +kernel : decode prog_7_method_8_code 30 = .ok (.aload_n 0, 1))
theorem d_Pl_enterLoop_31 : m_D k_Pl_enterLoop 31 (.getfield 59) 3 := (by decide +kernel : decode prog_7_method_8_code 31 = .ok (.getfield 59, 3))
theorem d_Pl_enterLoop_34 : m_D k_Pl_enterLoop 34 (.aload_n 0) 1 := (by decide +kernel : decode prog_7_method_8_code 34 = .ok (.aload_n 0, 1))
theorem d_Pl_enterLoop_35 : m_D k_Pl_enterLoop 35 (.getfield 56) 3 := (by decide +kernel : decode prog_7_method_8_code 35 = .ok (.getfield 56, 3))
theorem d_Pl_enterLoop_38 : m_D k_Pl_enterLoop 38 (.iastore) 1 := (by decide +kernel : decode prog_7_method_8_code 38 = .ok (.iastore, 1))
theorem d_Pl_enterLoop_39 : m_D k_Pl_enterLoop 39 (.aload_n 0) 1 := (by decide +kernel : decode prog_7_method_8_code 39 = .ok (.aload_n 0, 1))
theorem d_Pl_enterLoop_40 : m_D k_Pl_enterLoop 40 (.getfield 30) 3 := (by decide +kernel : decode prog_7_method_8_code 40 = .ok (.getfield 30, 3))
theorem d_Pl_enterLoop_43 : m_D k_Pl_enterLoop 43 (.aload_n 0) 1 := (by decide +kernel : decode prog_7_method_8_code 43 = .ok (.aload_n 0, 1))
theorem d_Pl_enterLoop_44 : m_D k_Pl_enterLoop 44 (.getfield 59) 3 := (by decide +kernel : decode prog_7_method_8_code 44 = .ok (.getfield 59, 3))
theorem d_Pl_enterLoop_47 : m_D k_Pl_enterLoop 47 (.aload_n 0) 1 := (by decide +kernel : decode prog_7_method_8_code 47 = .ok (.aload_n 0, 1))
theorem d_Pl_enterLoop_48 : m_D k_Pl_enterLoop 48 (.getfield 21) 3 := (by decide +kernel : decode prog_7_method_8_code 48 = .ok (.getfield 21, 3))
theorem d_Pl_enterLoop_51 : m_D k_Pl_enterLoop 51 (.aload_n 0) 1 := (by decide +kernel : decode prog_7_method_8_code 51 = .ok (.aload_n 0, 1))
theorem d_Pl_enterLoop_52 : m_D k_Pl_enterLoop 52 (.getfield 56) 3 := (by decide +kernel : decode prog_7_method_8_code 52 = .ok (.getfield 56, 3))
theorem d_Pl_enterLoop_55 : m_D k_Pl_enterLoop 55 (.iaload) 1 := (by decide +kernel : decode prog_7_method_8_code 55 = .ok (.iaload, 1))
theorem d_Pl_enterLoop_56 : m_D k_Pl_enterLoop 56 (.iastore) 1 := (by decide +kernel : decode prog_7_method_8_code 56 = .ok (.iastore, 1))
theorem d_Pl_enterLoop_57 : m_D k_Pl_enterLoop 57 (.aload_n 0) 1 := (by decide +kernel : decode prog_7_method_8_code 57 = .ok (.aload_n 0, 1))
theorem d_Pl_enterLoop_58 : m_D k_Pl_enterLoop 58 (.dup) 1 := (by decide +kernel : decode prog_7_method_8_code 58 = .ok (.dup, 1))
theorem d_Pl_enterLoop_59 : m_D k_Pl_enterLoop 59 (.getfield 59) 3 := (by decide +kernel : decode prog_7_method_8_code 59 = .ok (.getfield 59, 3))
theorem d_Pl_enterLoop_62 : m_D k_Pl_enterLoop 62 (.iconst 1) 1 := (by decide +kernel : decode prog_7_method_8_code 62 = .ok (.iconst 1, 1))
theorem d_Pl_enterLoop_63 : m_D k_Pl_enterLoop 63 (.iadd) 1 := (by decide +kernel : decode prog_7_method_8_code 63 = .ok (.iadd, 1))
theorem d_Pl_enterLoop_64 : m_D k_Pl_enterLoop 64 (.putfield 59) 3 := (by decide +kernel : decode prog_7_method_8_code 64 = .ok (.putfield 59, 3))
theorem d_Pl_enterLoop_67 : m_D k_Pl_enterLoop 67 (.aload_n 0) 1 := (by decide +kernel : decode prog_7_method_8_code 67 = .ok (.aload_n 0, 1))
theorem d_Pl_enterLoop_68 : m_D k_Pl_enterLoop 68 (.dup) 1 := (by decide +kernel : decode prog_7_method_8_code 68 = .ok (.dup, 1))
theorem d_Pl_enterLoop_69 : m_D k_Pl_enterLoop 69 (.getfield 56) 3 := (by decide +kernel : decode prog_7_method_8_code 69 = .ok (.getfield 56, 3))
theorem d_Pl_enterLoop_72 : m_D k_Pl_enterLoop 72 (.iconst 1) 1 := (by decide +kernel : decode prog_7_method_8_code 72 = .ok (.iconst 1, 1))
theorem d_Pl_enterLoop_73 : m_D k_Pl_enterLoop 73 (.iadd) 1 := (by decide +kernel : decode prog_7_method_8_code 73 = .ok (.iadd, 1))
theorem d_Pl_enterLoop_74 : m_D k_Pl_enterLoop 74 (.putfield 56) 3 := (by decide +kernel : decode prog_7_method_8_code 74 = .ok (.putfield 56, 3))
theorem d_Pl_enterLoop_77 : m_D k_Pl_enterLoop 77 (.return_) 1 := (by decide +kernel : decode prog_7_method_8_code 77 = .ok (.return_, 1))
def fn_Pl_enterLoop (x0 : Option mA) : mP Unit :=
  m_th 6 x0 <|
  m_bd (m_gR 6 6 x0) fun v1 =>
  m_bd (m_gI 6 10 x0) fun v2 =>
  m_bd (m_aI 0 v1 v2) fun v3 =>
  m_bd (m_gI 6 10 x0) fun v4 =>
  m_bd (α := Unit) (
    if v3 ≤ (v4 + 1) then
      m_rt ()
    else
      m_bd (m_gI 6 13 x0) fun v5 =>
      if 3 ≤ v5 then
        m_rt ()
      else
        m_bd (m_gR 6 11 x0) fun v6 =>
        m_bd (m_gI 6 13 x0) fun v7 =>
        m_bd (m_gI 6 10 x0) fun v8 =>
        m_bd (m_tI 0 v6 v7 v8) fun _ =>
        m_bd (m_gR 6 12 x0) fun v9 =>
        m_bd (m_gI 6 13 x0) fun v10 =>
        m_bd (m_gR 6 5 x0) fun v11 =>
        m_bd (m_gI 6 10 x0) fun v12 =>
        m_bd (m_aI 0 v11 v12) fun v13 =>
        m_bd (m_tI 0 v9 v10 v13) fun _ =>
        m_bd (m_gI 6 13 x0) fun v14 =>
        m_bd (m_pI 6 13 x0 (v14 + 1)) fun _ =>
        m_rt ()
    ) fun (t15 : Unit) =>
  m_bd (m_gI 6 10 x0) fun v16 =>
  m_bd (m_pI 6 10 x0 (v16 + 1)) fun _ =>
  m_rt ()
set_option maxHeartbeats 4000000 in
set_option maxRecDepth 100000 in
theorem sd_Pl_enterLoop (x0 : Option mA) : m_Sm k_Pl_enterLoop 1 0 0 [.inr (.inr x0)] (fn_Pl_enterLoop x0) (fun _ => none) := by
  refine ⟨Nat.le_of_ble_eq_true rfl, ?_⟩
  refine sm_th ?_
  refine sm_aload_n (i := 0) (j := 0) (pc' := 1) d_Pl_enterLoop_0 rfl rfl rfl ?_
  refine sm_getR (pc' := 4) d_Pl_enterLoop_1 rfl fl_Pl_24 rfl rfl (fun v1 => ?_)
  refine sm_aload_n (i := 0) (j := 0) (pc' := 5) d_Pl_enterLoop_4 rfl rfl rfl ?_
  refine sm_getI (pc' := 8) d_Pl_enterLoop_5 rfl fl_Pl_56 rfl ⟨by decide, by decide⟩ (fun v2 => ?_)
  refine sm_iald (pc' := 9) d_Pl_enterLoop_8 rfl (fun v3 => ?_)
  refine sm_aload_n (i := 0) (j := 0) (pc' := 10) d_Pl_enterLoop_9 rfl rfl rfl ?_
  refine sm_getI (pc' := 13) d_Pl_enterLoop_10 rfl fl_Pl_56 rfl ⟨by decide, by decide⟩ (fun v4 => ?_)
  refine sm_iconst (pc' := 14) d_Pl_enterLoop_13 rfl ic_1 (sm_iadd (pc' := 15) d_Pl_enterLoop_14 rfl ?_)
  refine sm_bd (mid := fun (t15 : Unit) => .inl (67, [(0, .inr (.inr x0))], [])) ?_ (fun t15 => ?_)
  · refine sm_icmp_le (tgt := 67) (pc' := 18) d_Pl_enterLoop_15 rfl rfl ?_ ?_
    · refine sm_sub [0] rfl ?_
      exact sm_rt rfl
    · refine sm_aload_n (i := 0) (j := 0) (pc' := 19) d_Pl_enterLoop_18 rfl rfl rfl ?_
      refine sm_getI (pc' := 22) d_Pl_enterLoop_19 rfl fl_Pl_59 rfl ⟨by decide, by decide⟩ (fun v5 => ?_)
      refine sm_iconst (pc' := 23) d_Pl_enterLoop_22 rfl ic_3 ?_
      refine sm_icmp_ge (tgt := 67) (pc' := 26) d_Pl_enterLoop_23 rfl rfl ?_ ?_
      · refine sm_sub [0] rfl ?_
        exact sm_rt rfl
      · refine sm_aload_n (i := 0) (j := 0) (pc' := 27) d_Pl_enterLoop_26 rfl rfl rfl ?_
        refine sm_getR (pc' := 30) d_Pl_enterLoop_27 rfl fl_Pl_27 rfl rfl (fun v6 => ?_)
        refine sm_aload_n (i := 0) (j := 0) (pc' := 31) d_Pl_enterLoop_30 rfl rfl rfl ?_
        refine sm_getI (pc' := 34) d_Pl_enterLoop_31 rfl fl_Pl_59 rfl ⟨by decide, by decide⟩ (fun v7 => ?_)
        refine sm_aload_n (i := 0) (j := 0) (pc' := 35) d_Pl_enterLoop_34 rfl rfl rfl ?_
        refine sm_getI (pc' := 38) d_Pl_enterLoop_35 rfl fl_Pl_56 rfl ⟨by decide, by decide⟩ (fun v8 => ?_)
        refine sm_iast (pc' := 39) d_Pl_enterLoop_38 rfl (sm_aload_n (i := 0) (j := 0) (pc' := 40) d_Pl_enterLoop_39 rfl rfl rfl ?_)
        refine sm_getR (pc' := 43) d_Pl_enterLoop_40 rfl fl_Pl_30 rfl rfl (fun v9 => ?_)
        refine sm_aload_n (i := 0) (j := 0) (pc' := 44) d_Pl_enterLoop_43 rfl rfl rfl ?_
        refine sm_getI (pc' := 47) d_Pl_enterLoop_44 rfl fl_Pl_59 rfl ⟨by decide, by decide⟩ (fun v10 => ?_)
        refine sm_aload_n (i := 0) (j := 0) (pc' := 48) d_Pl_enterLoop_47 rfl rfl rfl ?_
        refine sm_getR (pc' := 51) d_Pl_enterLoop_48 rfl fl_Pl_21 rfl rfl (fun v11 => ?_)
        refine sm_aload_n (i := 0) (j := 0) (pc' := 52) d_Pl_enterLoop_51 rfl rfl rfl ?_
        refine sm_getI (pc' := 55) d_Pl_enterLoop_52 rfl fl_Pl_56 rfl ⟨by decide, by decide⟩ (fun v12 => ?_)
        refine sm_iald (pc' := 56) d_Pl_enterLoop_55 rfl (fun v13 => ?_)
        refine sm_iast (pc' := 57) d_Pl_enterLoop_56 rfl (sm_aload_n (i := 0) (j := 0) (pc' := 58) d_Pl_enterLoop_57 rfl rfl rfl (sm_dup (pc' := 59) d_Pl_enterLoop_58 rfl rfl ?_))
        refine sm_getI (pc' := 62) d_Pl_enterLoop_59 rfl fl_Pl_59 rfl ⟨by decide, by decide⟩ (fun v14 => ?_)
        refine sm_iconst (pc' := 63) d_Pl_enterLoop_62 rfl ic_1 (sm_iadd (pc' := 64) d_Pl_enterLoop_63 rfl (sm_putI (pc' := 67) d_Pl_enterLoop_64 rfl fl_Pl_59 (Or.inl rfl) rfl (sm_sub [0] rfl ?_)))
        exact sm_rt rfl
  · refine sm_aload_n (i := 0) (j := 0) (pc' := 68) d_Pl_enterLoop_67 rfl rfl rfl (sm_dup (pc' := 69) d_Pl_enterLoop_68 rfl rfl ?_)
    refine sm_getI (pc' := 72) d_Pl_enterLoop_69 rfl fl_Pl_56 rfl ⟨by decide, by decide⟩ (fun v16 => ?_)
    refine sm_iconst (pc' := 73) d_Pl_enterLoop_72 rfl ic_1 (sm_iadd (pc' := 74) d_Pl_enterLoop_73 rfl (sm_putI (pc' := 77) d_Pl_enterLoop_74 rfl fl_Pl_56 (Or.inl rfl) rfl ?_))
    exact sm_return d_Pl_enterLoop_77 rfl rfl
theorem d_Pl_goRound_0 : m_D k_Pl_goRound 0 (.aload_n 0) 1 := (by decide +kernel : decode prog_7_method_9_code 0 = .ok (.aload_n 0, 1))
theorem d_Pl_goRound_1 : m_D k_Pl_goRound 1 (.getfield 59) 3 := (by decide +kernel : decode prog_7_method_9_code 1 = .ok (.getfield 59, 3))
theorem d_Pl_goRound_4 : m_D k_Pl_goRound 4 (.iconst 1) 1 := (by decide +kernel : decode prog_7_method_9_code 4 = .ok (.iconst 1, 1))
theorem d_Pl_goRound_5 : m_D k_Pl_goRound 5 (.isub) 1 := (by decide +kernel : decode prog_7_method_9_code 5 = .ok (.isub, 1))
theorem d_Pl_goRound_6 : m_D k_Pl_goRound 6 (.istore_n 1) 1 := (by decide +kernel : decode prog_7_method_9_code 6 = .ok (.istore_n 1, 1))
theorem d_Pl_goRound_7 : m_D k_Pl_goRound 7 (.iload_n 1) 1 := (by decide +kernel : decode prog_7_method_9_code 7 = .ok (.iload_n 1, 1))
theorem d_Pl_goRound_8 : m_D k_Pl_goRound 8 (.ifCond .lt 64) 3 := (by decide +kernel : decode prog_7_method_9_code 8 = .ok (.ifCond .lt 64, 3))
theorem d_Pl_goRound_11 : m_D k_Pl_goRound 11 (.aload_n 0) 1 := (by decide +kernel : decode prog_7_method_9_code 11 = .ok (.aload_n 0, 1))
theorem d_Pl_goRound_12 : m_D k_Pl_goRound 12 (.getfield 24) 3 := (by decide +kernel : decode prog_7_method_9_code 12 = .ok (.getfield 24, 3))
theorem d_Pl_goRound_15 : m_D k_Pl_goRound 15 (.aload_n 0) 1 := (by decide +kernel : decode prog_7_method_9_code 15 = .ok (.aload_n 0, 1))
theorem d_Pl_goRound_16 : m_D k_Pl_goRound 16 (.getfield 27) 3 := (by decide +kernel : decode prog_7_method_9_code 16 = .ok (.getfield 27, 3))
theorem d_Pl_goRound_19 : m_D k_Pl_goRound 19 (.iload_n 1) 1 := (by decide +kernel : decode prog_7_method_9_code 19 = .ok (.iload_n 1, 1))
theorem d_Pl_goRound_20 : m_D k_Pl_goRound 20 (.iaload) 1 := (by decide +kernel : decode prog_7_method_9_code 20 = .ok (.iaload, 1))
theorem d_Pl_goRound_21 : m_D k_Pl_goRound 21 (.iaload) 1 := (by decide +kernel : decode prog_7_method_9_code 21 = .ok (.iaload, 1))
theorem d_Pl_goRound_22 : m_D k_Pl_goRound 22 (.aload_n 0) 1 := (by decide +kernel : decode prog_7_method_9_code 22 = .ok (.aload_n 0, 1))
theorem d_Pl_goRound_23 : m_D k_Pl_goRound 23 (.getfield 56) 3 := (by decide +kernel : decode prog_7_method_9_code 23 = .ok (.getfield 56, 3))
theorem d_Pl_goRound_26 : m_D k_Pl_goRound 26 (.if_icmp .ne 46) 3 := (by decide +kernel : decode prog_7_method_9_code 26 = .ok (.if_icmp .ne 46, 3))
theorem d_Pl_goRound_29 : m_D k_Pl_goRound 29 (.aload_n 0) 1 := (by decide +kernel : decode prog_7_method_9_code 29 = .ok (.aload_n 0, 1))
theorem d_Pl_goRound_30 : m_D k_Pl_goRound 30 (.getfield 30) 3 := (by decide +kernel : decode prog_7_method_9_code 30 = .ok (.getfield 30, 3))
theorem d_Pl_goRound_33 : m_D k_Pl_goRound 33 (.iload_n 1) 1 := (by decide +kernel : decode prog_7_method_9_code 33 = .ok (.iload_n 1, 1))
theorem d_Pl_goRound_34 : m_D k_Pl_goRound 34 (.dup2) 1 := (by decide +kernel : decode prog_7_method_9_code 34 = .ok (.dup2, 1))
theorem d_Pl_goRound_35 : m_D k_Pl_goRound 35 (.iaload) 1 := (by decide +kernel : decode prog_7_method_9_code 35 = .ok (.iaload, 1))
theorem d_Pl_goRound_36 : m_D k_Pl_goRound 36 (.iconst 1) 1 := (by decide +kernel : decode prog_7_method_9_code 36 = .ok (.iconst 1, 1))
theorem d_Pl_goRound_37 : m_D k_Pl_goRound 37 (.isub) 1 := (by decide +kernel : decode prog_7_method_9_code 37 = .ok (.isub, 1))
theorem d_Pl_goRound_38 : m_D k_Pl_goRound 38 (.iastore) 1 := (by decide +kernel : decode prog_7_method_9_code 38 = .ok (.iastore, 1))
theorem d_Pl_goRound_39 : m_D k_Pl_goRound 39 (.aload_n 0) 1 := (by decide +kernel : decode prog_7_method_9_code 39 = .ok (.aload_n 0, 1))
theorem d_Pl_goRound_40 : m_D k_Pl_goRound 40 (.getfield 30) 3 := (by decide +kernel : decode prog_7_method_9_code 40 = .ok (.getfield 30, 3))
theorem d_Pl_goRound_43 : m_D k_Pl_goRound 43 (.iload_n 1) 1 := (by decide +kernel : decode prog_7_method_9_code 43 = .ok (.iload_n 1, 1))
theorem d_Pl_goRound_44 : m_D k_Pl_goRound 44 (.iaload) 1 := (by decide +kernel : decode prog_7_method_9_code 44 = .ok (.iaload, 1))
theorem d_Pl_goRound_45 : m_D k_Pl_goRound 45 (.ifCond .le 16) 3 := (by decide +kernel : decode prog_7_method_9_code 45 = .ok (.ifCond .le 16, 3))
theorem d_Pl_goRound_48 : m_D k_Pl_goRound 48 (.aload_n 0) 1 := (by decide +kernel : decode prog_7_method_9_code 48 = .ok (.aload_n 0, 1))
theorem d_Pl_goRound_49 : m_D k_Pl_goRound 49 (.aload_n 0) 1 := (by decide +kernel : decode prog_7_method_9_code 49 = .ok (.aload_n 0, 1))
theorem d_Pl_goRound_50 : m_D k_Pl_goRound 50 (.getfield 27) 3 := (by decide +kernel : decode prog_7_method_9_code 50 = .ok (.getfield 27, 3))
theorem d_Pl_goRound_53 : m_D k_Pl_goRound 53 (.iload_n 1) 1 := (by decide +kernel : decode prog_7_method_9_code 53 = .ok (.iload_n 1, 1))
theorem d_Pl_goRound_54 : m_D k_Pl_goRound 54 (.iaload) 1 := (by decide +kernel : decode prog_7_method_9_code 54 = .ok (.iaload, 1))
theorem d_Pl_goRound_55 : m_D k_Pl_goRound 55 (.iconst 1) 1 := (by decide +kernel : decode prog_7_method_9_code 55 = .ok (.iconst 1, 1))
theorem d_Pl_goRound_56 : m_D k_Pl_goRound 56 (.iadd) 1 := (by decide +kernel : decode prog_7_method_9_code 56 = .ok (.iadd, 1))
theorem d_Pl_goRound_57 : m_D k_Pl_goRound 57 (.putfield 56) 3 := (by decide +kernel : decode prog_7_method_9_code 57 = .ok (.putfield 56, 3))
theorem d_Pl_goRound_60 : m_D k_Pl_goRound 60 (.return_) 1 := (by decide +kernel : decode prog_7_method_9_code 60 = .ok (.return_, 1))
theorem d_Pl_goRound_61 : m_D k_Pl_goRound 61 (.aload_n 0) 1 := (by decide +kernel : decode prog_7_method_9_code 61 = .ok (.aload_n 0, 1))
theorem d_Pl_goRound_62 : m_D k_Pl_goRound 62 (.iload_n 1) 1 := (by decide +kernel : decode prog_7_method_9_code 62 = .ok (.iload_n 1, 1))
theorem d_Pl_goRound_63 : m_D k_Pl_goRound 63 (.putfield 59) 3 := (by decide +kernel : decode prog_7_method_9_code 63 = .ok (.putfield 59, 3))
theorem d_Pl_goRound_66 : m_D k_Pl_goRound 66 (.iinc 1 (-1)) 3 := (by decide +kernel : decode prog_7_method_9_code 66 = .ok (.iinc 1 (-1), 3))
theorem d_Pl_goRound_69 : m_D k_Pl_goRound 69 (.goto (-62)) 3 := (by decide +kernel : decode prog_7_method_9_code 69 = .ok (.goto (-62), 3))
theorem d_Pl_goRound_72 : m_D k_Pl_goRound 72 (.return_) 1 := (by decide +kernel : decode prog_7_method_9_code 72 = .ok (.return_, 1))
def fn_Pl_goRound_l7 (x0 : Option mA) (t2 : Int32) : mP ((Int32) ⊕ (Unit)) :=
  if t2 < 0 then
    m_rt (.inr ())
  else
    m_bd (m_gR 6 6 x0) fun v3 =>
    m_bd (m_gR 6 11 x0) fun v4 =>
    m_bd (m_aI 0 v4 t2) fun v5 =>
    m_bd (m_aI 0 v3 v5) fun v6 =>
    m_bd (m_gI 6 10 x0) fun v7 =>
    if v6 = v7 then
      m_bd (m_gR 6 12 x0) fun v8 =>
      m_bd (m_aI 0 v8 t2) fun v9 =>
      m_bd (m_tI 0 v8 t2 (v9 - 1)) fun _ =>
      m_bd (m_gR 6 12 x0) fun v10 =>
      m_bd (m_aI 0 v10 t2) fun v11 =>
      if v11 ≤ 0 then
        m_bd (m_pI 6 13 x0 t2) fun _ =>
        m_rt (.inl (t2 + (-1)))
      else
        m_bd (m_gR 6 11 x0) fun v12 =>
        m_bd (m_aI 0 v12 t2) fun v13 =>
        m_bd (m_pI 6 10 x0 (v13 + 1)) fun _ =>
        m_rt (.inr ())
    else
      m_rt (.inr ())
def fn_Pl_goRound (x0 : Option mA) : mP Unit :=
  m_th 6 x0 <|
  m_bd (m_gI 6 13 x0) fun v1 =>
  m_lp (fn_Pl_goRound_l7 x0) m_F (v1 - 1)
set_option maxHeartbeats 4000000 in
set_option maxRecDepth 100000 in
theorem sd_Pl_goRound (x0 : Option mA) : m_Sm k_Pl_goRound 1 0 0 [.inr (.inr x0)] (fn_Pl_goRound x0) (fun _ => none) := by
  refine ⟨Nat.le_of_ble_eq_true rfl, ?_⟩
  refine sm_th ?_
  refine sm_aload_n (i := 0) (j := 0) (pc' := 1) d_Pl_goRound_0 rfl rfl rfl ?_
  refine sm_getI (pc' := 4) d_Pl_goRound_1 rfl fl_Pl_59 rfl ⟨by decide, by decide⟩ (fun v1 => ?_)
  refine sm_iconst (pc' := 5) d_Pl_goRound_4 rfl ic_1 (sm_isub (pc' := 6) d_Pl_goRound_5 rfl (sm_istore_n (i := 1) (L' := [(1, .inl (v1 - 1)), (0, .inr (.inr x0))]) (pc' := 7) d_Pl_goRound_6 rfl rfl (Nat.le_of_ble_eq_true rfl) rfl ?_))
  refine sm_sub [0, 1] rfl ?_
  refine sm_lp (hd := fun (t2 : Int32) => (.inl (7, [(1, .inl t2), (0, .inr (.inr x0))], []) : mC)) (fun t2 => ?_) m_F (v1 - 1)
  refine sm_iload_n (i := 1) (j := 0) (pc' := 8) d_Pl_goRound_7 rfl rfl rfl ?_
  refine sm_if_lt (tgt := 72) (pc' := 11) d_Pl_goRound_8 rfl rfl ?_ ?_
  · exact sm_return d_Pl_goRound_72 rfl rfl
  · refine sm_aload_n (i := 0) (j := 1) (pc' := 12) d_Pl_goRound_11 rfl rfl rfl ?_
    refine sm_getR (pc' := 15) d_Pl_goRound_12 rfl fl_Pl_24 rfl rfl (fun v3 => ?_)
    refine sm_aload_n (i := 0) (j := 1) (pc' := 16) d_Pl_goRound_15 rfl rfl rfl ?_
    refine sm_getR (pc' := 19) d_Pl_goRound_16 rfl fl_Pl_27 rfl rfl (fun v4 => ?_)
    refine sm_iload_n (i := 1) (j := 0) (pc' := 20) d_Pl_goRound_19 rfl rfl rfl ?_
    refine sm_iald (pc' := 21) d_Pl_goRound_20 rfl (fun v5 => ?_)
    refine sm_iald (pc' := 22) d_Pl_goRound_21 rfl (fun v6 => ?_)
    refine sm_aload_n (i := 0) (j := 1) (pc' := 23) d_Pl_goRound_22 rfl rfl rfl ?_
    refine sm_getI (pc' := 26) d_Pl_goRound_23 rfl fl_Pl_56 rfl ⟨by decide, by decide⟩ (fun v7 => ?_)
    refine sm_icmp_ne (tgt := 72) (pc' := 29) d_Pl_goRound_26 rfl rfl ?_ ?_
    · exact sm_return d_Pl_goRound_72 rfl rfl
    · refine sm_aload_n (i := 0) (j := 1) (pc' := 30) d_Pl_goRound_29 rfl rfl rfl ?_
      refine sm_getR (pc' := 33) d_Pl_goRound_30 rfl fl_Pl_30 rfl rfl (fun v8 => ?_)
      refine sm_iload_n (i := 1) (j := 0) (pc' := 34) d_Pl_goRound_33 rfl rfl rfl (sm_dup2 (pc' := 35) d_Pl_goRound_34 rfl rfl rfl ?_)
      refine sm_iald (pc' := 36) d_Pl_goRound_35 rfl (fun v9 => ?_)
      refine sm_iconst (pc' := 37) d_Pl_goRound_36 rfl ic_1 (sm_isub (pc' := 38) d_Pl_goRound_37 rfl (sm_iast (pc' := 39) d_Pl_goRound_38 rfl (sm_aload_n (i := 0) (j := 1) (pc' := 40) d_Pl_goRound_39 rfl rfl rfl ?_)))
      refine sm_getR (pc' := 43) d_Pl_goRound_40 rfl fl_Pl_30 rfl rfl (fun v10 => ?_)
      refine sm_iload_n (i := 1) (j := 0) (pc' := 44) d_Pl_goRound_43 rfl rfl rfl ?_
      refine sm_iald (pc' := 45) d_Pl_goRound_44 rfl (fun v11 => ?_)
      refine sm_if_le (tgt := 61) (pc' := 48) d_Pl_goRound_45 rfl rfl ?_ ?_
      · refine sm_aload_n (i := 0) (j := 1) (pc' := 62) d_Pl_goRound_61 rfl rfl rfl (sm_iload_n (i := 1) (j := 0) (pc' := 63) d_Pl_goRound_62 rfl rfl rfl (sm_putI (pc' := 66) d_Pl_goRound_63 rfl fl_Pl_59 (Or.inl rfl) rfl (sm_iinc (j := 0) (L' := [(1, .inl (t2 + (-1))), (0, .inr (.inr x0))]) (pc' := 69) d_Pl_goRound_66 rfl (v := (t2 + (-1))) rfl (ix_m1 _) (Nat.le_of_ble_eq_true rfl) rfl (sm_goto (tgt := 7) d_Pl_goRound_69 rfl (sm_sub [0, 1] rfl ?_)))))
        exact sm_rt rfl
      · refine sm_aload_n (i := 0) (j := 1) (pc' := 49) d_Pl_goRound_48 rfl rfl rfl (sm_aload_n (i := 0) (j := 1) (pc' := 50) d_Pl_goRound_49 rfl rfl rfl ?_)
        refine sm_getR (pc' := 53) d_Pl_goRound_50 rfl fl_Pl_27 rfl rfl (fun v12 => ?_)
        refine sm_iload_n (i := 1) (j := 0) (pc' := 54) d_Pl_goRound_53 rfl rfl rfl ?_
        refine sm_iald (pc' := 55) d_Pl_goRound_54 rfl (fun v13 => ?_)
        refine sm_iconst (pc' := 56) d_Pl_goRound_55 rfl ic_1 (sm_iadd (pc' := 57) d_Pl_goRound_56 rfl (sm_putI (pc' := 60) d_Pl_goRound_57 rfl fl_Pl_56 (Or.inl rfl) rfl ?_))
        exact sm_return d_Pl_goRound_60 rfl rfl
theorem d_Pl_holds_0 : m_D k_Pl_holds 0 (.aload_n 0) 1 := (by decide +kernel : decode prog_7_method_10_code 0 = .ok (.aload_n 0, 1))
theorem d_Pl_holds_1 : m_D k_Pl_holds 1 (.getfield 11) 3 := (by decide +kernel : decode prog_7_method_10_code 1 = .ok (.getfield 11, 3))
theorem d_Pl_holds_4 : m_D k_Pl_holds 4 (.aload_n 0) 1 := (by decide +kernel : decode prog_7_method_10_code 4 = .ok (.aload_n 0, 1))
theorem d_Pl_holds_5 : m_D k_Pl_holds 5 (.getfield 56) 3 := (by decide +kernel : decode prog_7_method_10_code 5 = .ok (.getfield 56, 3))
theorem d_Pl_holds_8 : m_D k_Pl_holds 8 (.iaload) 1 := (by decide +kernel : decode prog_7_method_10_code 8 = .ok (.iaload, 1))
theorem d_Pl_holds_9 : m_D k_Pl_holds 9 (.bipush 10) 2 := (by decide +kernel : decode prog_7_method_10_code 9 = .ok (.bipush 10, 2))
theorem d_Pl_holds_11 : m_D k_Pl_holds 11 (.if_icmp .ne 18) 3 := (by decide +kernel : decode prog_7_method_10_code 11 = .ok (.if_icmp .ne 18, 3))
theorem d_Pl_holds_14 : m_D k_Pl_holds 14 (.aload_n 1) 1 := (by decide +kernel : decode prog_7_method_10_code 14 = .ok (.aload_n 1, 1))
theorem d_Pl_holds_15 : m_D k_Pl_holds 15 (.aload_n 0) 1 := (by decide +kernel : decode prog_7_method_10_code 15 = .ok (.aload_n 0, 1))
theorem d_Pl_holds_16 : m_D k_Pl_holds 16 (.getfield 15) 3 := (by decide +kernel : decode prog_7_method_10_code 16 = .ok (.getfield 15, 3))
theorem d_Pl_holds_19 : m_D k_Pl_holds 19 (.aload_n 0) 1 := (by decide +kernel : decode prog_7_method_10_code 19 = .ok (.aload_n 0, 1))
theorem d_Pl_holds_20 : m_D k_Pl_holds 20 (.getfield 56) 3 := (by decide +kernel : decode prog_7_method_10_code 20 = .ok (.getfield 56, 3))
theorem d_Pl_holds_23 : m_D k_Pl_holds 23 (.iaload) 1 := (by decide +kernel : decode prog_7_method_10_code 23 = .ok (.iaload, 1))
theorem d_Pl_holds_24 : m_D k_Pl_holds 24 (.iconst 0) 1 := (by decide +kernel : decode prog_7_method_10_code 24 = .ok (.iconst 0, 1))
theorem d_Pl_holds_25 : m_D k_Pl_holds 25 (.invokevirtual 75) 3 := (by decide +kernel : decode prog_7_method_10_code 25 = .ok (.invokevirtual 75, 3))
theorem d_Pl_holds_28 : m_D k_Pl_holds 28 (.ireturn) 1 := (by decide +kernel : decode prog_7_method_10_code 28 = .ok (.ireturn, 1))
theorem d_Pl_holds_29 : m_D k_Pl_holds 29 (.aload_n 1) 1 := (by decide +kernel : decode prog_7_method_10_code 29 = .ok (.aload_n 1, 1))
theorem d_Pl_holds_30 : m_D k_Pl_holds 30 (.getfield 81) 3 := (by decide +kernel : decode prog_7_method_10_code 30 = .ok (.getfield 81, 3))
theorem d_Pl_holds_33 : m_D k_Pl_holds 33 (.aload_n 0) 1 := (by decide +kernel : decode prog_7_method_10_code 33 = .ok (.aload_n 0, 1))
theorem d_Pl_holds_34 : m_D k_Pl_holds 34 (.getfield 18) 3 := (by decide +kernel : decode prog_7_method_10_code 34 = .ok (.getfield 18, 3))
theorem d_Pl_holds_37 : m_D k_Pl_holds 37 (.aload_n 0) 1 := (by decide +kernel : decode prog_7_method_10_code 37 = .ok (.aload_n 0, 1))
theorem d_Pl_holds_38 : m_D k_Pl_holds 38 (.getfield 56) 3 := (by decide +kernel : decode prog_7_method_10_code 38 = .ok (.getfield 56, 3))
theorem d_Pl_holds_41 : m_D k_Pl_holds 41 (.iaload) 1 := (by decide +kernel : decode prog_7_method_10_code 41 = .ok (.iaload, 1))
theorem d_Pl_holds_42 : m_D k_Pl_holds 42 (.aaload) 1 := (by decide +kernel : decode prog_7_method_10_code 42 = .ok (.aaload, 1))
theorem d_Pl_holds_43 : m_D k_Pl_holds 43 (.astore_n 2) 1 := (by decide +kernel : decode prog_7_method_10_code 43 = .ok (.astore_n 2, 1))
theorem d_Pl_holds_44 : m_D k_Pl_holds 44 (.aload_n 0) 1 := (by decide +kernel : decode prog_7_method_10_code 44 = .ok (.aload_n 0, 1))
theorem d_Pl_holds_45 : m_D k_Pl_holds 45 (.getfield 11) 3 := (by decide +kernel : decode prog_7_method_10_code 45 = .ok (.getfield 11, 3))
theorem d_Pl_holds_48 : m_D k_Pl_holds 48 (.aload_n 0) 1 := (by decide +kernel : decode prog_7_method_10_code 48 = .ok (.aload_n 0, 1))
theorem d_Pl_holds_49 : m_D k_Pl_holds 49 (.getfield 56) 3 := (by decide +kernel : decode prog_7_method_10_code 49 = .ok (.getfield 56, 3))
theorem d_Pl_holds_52 : m_D k_Pl_holds 52 (.iaload) 1 := (by decide +kernel : decode prog_7_method_10_code 52 = .ok (.iaload, 1))
theorem d_Pl_holds_53 : m_D k_Pl_holds 53 (.tableswitch 93 11 13 #[27, 49, 71]) 27 := (by decide +kernel : decode prog_7_method_10_code 53 = .ok (.tableswitch 93 11 13 #[27, 49, 71], 27))
theorem d_Pl_holds_80 : m_D k_Pl_holds 80 (.aload_n 2) 1 := (by decide +kernel : decode prog_7_method_10_code 80 = .ok (.aload_n 2, 1))
theorem d_Pl_holds_81 : m_D k_Pl_holds 81 (.getfield 85) 3 := (by decide +kernel : decode prog_7_method_10_code 81 = .ok (.getfield 85, 3))
theorem d_Pl_holds_84 : m_D k_Pl_holds 84 (.aload_n 0) 1 := (by decide +kernel : decode prog_7_method_10_code 84 = .ok (.aload_n 0, 1))
theorem d_Pl_holds_85 : m_D k_Pl_holds 85 (.getfield 21) 3 := (by decide +kernel : decode prog_7_method_10_code 85 = .ok (.getfield 21, 3))
theorem d_Pl_holds_88 : m_D k_Pl_holds 88 (.aload_n 0) 1 := (by decide +kernel : decode prog_7_method_10_code 88 = .ok (.aload_n 0, 1))
theorem d_Pl_holds_89 : m_D k_Pl_holds 89 (.getfield 56) 3 := (by decide +kernel : decode prog_7_method_10_code 89 = .ok (.getfield 56, 3))
theorem d_Pl_holds_92 : m_D k_Pl_holds 92 (.iaload) 1 := (by decide +kernel : decode prog_7_method_10_code 92 = .ok (.iaload, 1))
theorem d_Pl_holds_93 : m_D k_Pl_holds 93 (.if_icmp .ge 7) 3 := (by decide +kernel : decode prog_7_method_10_code 93 = .ok (.if_icmp .ge 7, 3))
theorem d_Pl_holds_96 : m_D k_Pl_holds 96 (.iconst 1) 1 := (by decide +kernel : decode prog_7_method_10_code 96 = .ok (.iconst 1, 1))
theorem d_Pl_holds_97 : m_D k_Pl_holds 97 (.goto 4) 3 := (by decide +kernel : decode prog_7_method_10_code 97 = .ok (.goto 4, 3))
theorem d_Pl_holds_100 : m_D k_Pl_holds 100 (.iconst 0) 1 := (by decide +kernel : decode prog_7_method_10_code 100 = .ok (.iconst 0, 1))
theorem d_Pl_holds_101 : m_D k_Pl_holds 101 (.ireturn) 1 := (by decide +kernel : decode prog_7_method_10_code 101 = .ok (.ireturn, 1))
theorem d_Pl_holds_102 : m_D k_Pl_holds 102 (.aload_n 2) 1 := (by decide +kernel : decode prog_7_method_10_code 102 = .ok (.aload_n 2, 1))
theorem d_Pl_holds_103 : m_D k_Pl_holds 103 (.getfield 85) 3 := (by decide +kernel : decode prog_7_method_10_code 103 = .ok (.getfield 85, 3))
theorem d_Pl_holds_106 : m_D k_Pl_holds 106 (.aload_n 0) 1 := (by decide +kernel : decode prog_7_method_10_code 106 = .ok (.aload_n 0, 1))
theorem d_Pl_holds_107 : m_D k_Pl_holds 107 (.getfield 21) 3 := (by decide +kernel : decode prog_7_method_10_code 107 = .ok (.getfield 21, 3))
theorem d_Pl_holds_110 : m_D k_Pl_holds 110 (.aload_n 0) 1 := (by decide +kernel : decode prog_7_method_10_code 110 = .ok (.aload_n 0, 1))
theorem d_Pl_holds_111 : m_D k_Pl_holds 111 (.getfield 56) 3 := (by decide +kernel : decode prog_7_method_10_code 111 = .ok (.getfield 56, 3))
theorem d_Pl_holds_114 : m_D k_Pl_holds 114 (.iaload) 1 := (by decide +kernel : decode prog_7_method_10_code 114 = .ok (.iaload, 1))
theorem d_Pl_holds_115 : m_D k_Pl_holds 115 (.if_icmp .le 7) 3 := (by decide +kernel : decode prog_7_method_10_code 115 = .ok (.if_icmp .le 7, 3))
theorem d_Pl_holds_118 : m_D k_Pl_holds 118 (.iconst 1) 1 := (by decide +kernel : decode prog_7_method_10_code 118 = .ok (.iconst 1, 1))
theorem d_Pl_holds_119 : m_D k_Pl_holds 119 (.goto 4) 3 := (by decide +kernel : decode prog_7_method_10_code 119 = .ok (.goto 4, 3))
theorem d_Pl_holds_122 : m_D k_Pl_holds 122 (.iconst 0) 1 := (by decide +kernel : decode prog_7_method_10_code 122 = .ok (.iconst 0, 1))
theorem d_Pl_holds_123 : m_D k_Pl_holds 123 (.ireturn) 1 := (by decide +kernel : decode prog_7_method_10_code 123 = .ok (.ireturn, 1))
theorem d_Pl_holds_124 : m_D k_Pl_holds 124 (.aload_n 2) 1 := (by decide +kernel : decode prog_7_method_10_code 124 = .ok (.aload_n 2, 1))
theorem d_Pl_holds_125 : m_D k_Pl_holds 125 (.getfield 85) 3 := (by decide +kernel : decode prog_7_method_10_code 125 = .ok (.getfield 85, 3))
theorem d_Pl_holds_128 : m_D k_Pl_holds 128 (.aload_n 0) 1 := (by decide +kernel : decode prog_7_method_10_code 128 = .ok (.aload_n 0, 1))
theorem d_Pl_holds_129 : m_D k_Pl_holds 129 (.getfield 21) 3 := (by decide +kernel : decode prog_7_method_10_code 129 = .ok (.getfield 21, 3))
theorem d_Pl_holds_132 : m_D k_Pl_holds 132 (.aload_n 0) 1 := (by decide +kernel : decode prog_7_method_10_code 132 = .ok (.aload_n 0, 1))
theorem d_Pl_holds_133 : m_D k_Pl_holds 133 (.getfield 56) 3 := (by decide +kernel : decode prog_7_method_10_code 133 = .ok (.getfield 56, 3))
theorem d_Pl_holds_136 : m_D k_Pl_holds 136 (.iaload) 1 := (by decide +kernel : decode prog_7_method_10_code 136 = .ok (.iaload, 1))
theorem d_Pl_holds_137 : m_D k_Pl_holds 137 (.if_icmp .ne 7) 3 := (by decide +kernel : decode prog_7_method_10_code 137 = .ok (.if_icmp .ne 7, 3))
theorem d_Pl_holds_140 : m_D k_Pl_holds 140 (.iconst 1) 1 := (by decide +kernel : decode prog_7_method_10_code 140 = .ok (.iconst 1, 1))
theorem d_Pl_holds_141 : m_D k_Pl_holds 141 (.goto 4) 3 := (by decide +kernel : decode prog_7_method_10_code 141 = .ok (.goto 4, 3))
theorem d_Pl_holds_144 : m_D k_Pl_holds 144 (.iconst 0) 1 := (by decide +kernel : decode prog_7_method_10_code 144 = .ok (.iconst 0, 1))
theorem d_Pl_holds_145 : m_D k_Pl_holds 145 (.ireturn) 1 := (by decide +kernel : decode prog_7_method_10_code 145 = .ok (.ireturn, 1))
theorem d_Pl_holds_146 : m_D k_Pl_holds 146 (.aload_n 2) 1 := (by decide +kernel : decode prog_7_method_10_code 146 = .ok (.aload_n 2, 1))
theorem d_Pl_holds_147 : m_D k_Pl_holds 147 (.invokevirtual 90) 3 := (by decide +kernel : decode prog_7_method_10_code 147 = .ok (.invokevirtual 90, 3))
theorem d_Pl_holds_150 : m_D k_Pl_holds 150 (.ireturn) 1 := (by decide +kernel : decode prog_7_method_10_code 150 = .ok (.ireturn, 1))
def fn_Pl_holds (x0 : Option mA) (x1 : Option mA) : mP Int32 :=
  m_th 6 x0 <|
  m_bd (m_gR 6 2 x0) fun v1 =>
  m_bd (m_gI 6 10 x0) fun v2 =>
  m_bd (m_aI 0 v1 v2) fun v3 =>
  if v3 = 10 then
    m_bd (m_gR 6 3 x0) fun v25 =>
    m_bd (m_gI 6 10 x0) fun v26 =>
    m_bd (m_aI 0 v25 v26) fun v27 =>
    m_bd (fn_Fa_showsAhead x1 v27 0) fun v28 =>
    m_bd (m_cz v28) fun _ => m_rt v28
  else
    m_bd (m_gR 3 8 x1) fun v4 =>
    m_bd (m_gR 6 4 x0) fun v5 =>
    m_bd (m_gI 6 10 x0) fun v6 =>
    m_bd (m_aI 0 v5 v6) fun v7 =>
    m_bd (m_aR 7 v4 v7) fun v8 =>
    m_bd (m_gR 6 2 x0) fun v9 =>
    m_bd (m_gI 6 10 x0) fun v10 =>
    m_bd (m_aI 0 v9 v10) fun v11 =>
    if v11 = 11 then
      m_bd (m_gI 5 3 v8) fun v12 =>
      m_bd (m_gR 6 5 x0) fun v13 =>
      m_bd (m_gI 6 10 x0) fun v14 =>
      m_bd (m_aI 0 v13 v14) fun v15 =>
      if v15 ≤ v12 then
        m_rt 0
      else
        m_rt 1
    else if v11 = 12 then
      m_bd (m_gI 5 3 v8) fun v16 =>
      m_bd (m_gR 6 5 x0) fun v17 =>
      m_bd (m_gI 6 10 x0) fun v18 =>
      m_bd (m_aI 0 v17 v18) fun v19 =>
      if v16 ≤ v19 then
        m_rt 0
      else
        m_rt 1
    else if v11 = 13 then
      m_bd (m_gI 5 3 v8) fun v20 =>
      m_bd (m_gR 6 5 x0) fun v21 =>
      m_bd (m_gI 6 10 x0) fun v22 =>
      m_bd (m_aI 0 v21 v22) fun v23 =>
      if v20 = v23 then
        m_rt 1
      else
        m_rt 0
    else
      m_bd (fn_Th_isThrough v8) fun v24 =>
      m_bd (m_cz v24) fun _ => m_rt v24
set_option maxHeartbeats 4000000 in
set_option maxRecDepth 100000 in
theorem sd_Pl_holds (x0 : Option mA) (x1 : Option mA) : m_Sm k_Pl_holds 2 0 0 [.inr (.inr x0), .inr (.inr x1)] (fn_Pl_holds x0 x1) (fun b => some (.inl b)) := by
  refine ⟨Nat.le_of_ble_eq_true rfl, ?_⟩
  refine sm_th ?_
  refine sm_aload_n (i := 0) (j := 0) (pc' := 1) d_Pl_holds_0 rfl rfl rfl ?_
  refine sm_getR (pc' := 4) d_Pl_holds_1 rfl fl_Pl_11 rfl rfl (fun v1 => ?_)
  refine sm_aload_n (i := 0) (j := 0) (pc' := 5) d_Pl_holds_4 rfl rfl rfl ?_
  refine sm_getI (pc' := 8) d_Pl_holds_5 rfl fl_Pl_56 rfl ⟨by decide, by decide⟩ (fun v2 => ?_)
  refine sm_iald (pc' := 9) d_Pl_holds_8 rfl (fun v3 => ?_)
  refine sm_bipush (pc' := 11) d_Pl_holds_9 rfl ib_10 ?_
  refine sm_icmp_ne (tgt := 29) (pc' := 14) d_Pl_holds_11 rfl rfl ?_ ?_
  · refine sm_aload_n (i := 1) (j := 1) (pc' := 30) d_Pl_holds_29 rfl rfl rfl ?_
    refine sm_getR (pc' := 33) d_Pl_holds_30 rfl fl_Pl_81 rfl rfl (fun v4 => ?_)
    refine sm_aload_n (i := 0) (j := 0) (pc' := 34) d_Pl_holds_33 rfl rfl rfl ?_
    refine sm_getR (pc' := 37) d_Pl_holds_34 rfl fl_Pl_18 rfl rfl (fun v5 => ?_)
    refine sm_aload_n (i := 0) (j := 0) (pc' := 38) d_Pl_holds_37 rfl rfl rfl ?_
    refine sm_getI (pc' := 41) d_Pl_holds_38 rfl fl_Pl_56 rfl ⟨by decide, by decide⟩ (fun v6 => ?_)
    refine sm_iald (pc' := 42) d_Pl_holds_41 rfl (fun v7 => ?_)
    refine sm_aald (t := 7) ⟨by decide, by decide⟩ rfl (pc' := 43) d_Pl_holds_42 rfl (fun v8 => ?_)
    refine sm_astore_n (i := 2) (L' := [(2, .inr (.inr v8)), (0, .inr (.inr x0)), (1, .inr (.inr x1))]) (pc' := 44) d_Pl_holds_43 rfl rfl (Nat.le_of_ble_eq_true rfl) rfl (sm_aload_n (i := 0) (j := 1) (pc' := 45) d_Pl_holds_44 rfl rfl rfl ?_)
    refine sm_getR (pc' := 48) d_Pl_holds_45 rfl fl_Pl_11 rfl rfl (fun v9 => ?_)
    refine sm_aload_n (i := 0) (j := 1) (pc' := 49) d_Pl_holds_48 rfl rfl rfl ?_
    refine sm_getI (pc' := 52) d_Pl_holds_49 rfl fl_Pl_56 rfl ⟨by decide, by decide⟩ (fun v10 => ?_)
    refine sm_iald (pc' := 53) d_Pl_holds_52 rfl (fun v11 => ?_)
    refine sm_ite (fun hs53_11 => ?_) (fun hs53_11 => ?_)
    · refine sm_tabIn (off := 27) (tgt := 80) d_Pl_holds_53 (by rw [hs53_11]; decide) (by rw [hs53_11]; decide) (by rw [hs53_11]; rfl) rfl ?_
      refine sm_aload_n (i := 2) (j := 0) (pc' := 81) d_Pl_holds_80 rfl rfl rfl ?_
      refine sm_getI (pc' := 84) d_Pl_holds_81 rfl fl_Pl_85 rfl ⟨by decide, by decide⟩ (fun v12 => ?_)
      refine sm_aload_n (i := 0) (j := 1) (pc' := 85) d_Pl_holds_84 rfl rfl rfl ?_
      refine sm_getR (pc' := 88) d_Pl_holds_85 rfl fl_Pl_21 rfl rfl (fun v13 => ?_)
      refine sm_aload_n (i := 0) (j := 1) (pc' := 89) d_Pl_holds_88 rfl rfl rfl ?_
      refine sm_getI (pc' := 92) d_Pl_holds_89 rfl fl_Pl_56 rfl ⟨by decide, by decide⟩ (fun v14 => ?_)
      refine sm_iald (pc' := 93) d_Pl_holds_92 rfl (fun v15 => ?_)
      refine sm_icmp_ge (tgt := 100) (pc' := 96) d_Pl_holds_93 rfl rfl ?_ ?_
      · refine sm_iconst (pc' := 101) d_Pl_holds_100 rfl ic_0 ?_
        exact sm_zreturn d_Pl_holds_101 rfl (by decide) rfl
      · refine sm_iconst (pc' := 97) d_Pl_holds_96 rfl ic_1 (sm_goto (tgt := 101) d_Pl_holds_97 rfl ?_)
        exact sm_zreturn d_Pl_holds_101 rfl (by decide) rfl
    refine sm_ite (fun hs53_12 => ?_) (fun hs53_12 => ?_)
    · refine sm_tabIn (off := 49) (tgt := 102) d_Pl_holds_53 (by rw [hs53_12]; decide) (by rw [hs53_12]; decide) (by rw [hs53_12]; rfl) rfl ?_
      refine sm_aload_n (i := 2) (j := 0) (pc' := 103) d_Pl_holds_102 rfl rfl rfl ?_
      refine sm_getI (pc' := 106) d_Pl_holds_103 rfl fl_Pl_85 rfl ⟨by decide, by decide⟩ (fun v16 => ?_)
      refine sm_aload_n (i := 0) (j := 1) (pc' := 107) d_Pl_holds_106 rfl rfl rfl ?_
      refine sm_getR (pc' := 110) d_Pl_holds_107 rfl fl_Pl_21 rfl rfl (fun v17 => ?_)
      refine sm_aload_n (i := 0) (j := 1) (pc' := 111) d_Pl_holds_110 rfl rfl rfl ?_
      refine sm_getI (pc' := 114) d_Pl_holds_111 rfl fl_Pl_56 rfl ⟨by decide, by decide⟩ (fun v18 => ?_)
      refine sm_iald (pc' := 115) d_Pl_holds_114 rfl (fun v19 => ?_)
      refine sm_icmp_le (tgt := 122) (pc' := 118) d_Pl_holds_115 rfl rfl ?_ ?_
      · refine sm_iconst (pc' := 123) d_Pl_holds_122 rfl ic_0 ?_
        exact sm_zreturn d_Pl_holds_123 rfl (by decide) rfl
      · refine sm_iconst (pc' := 119) d_Pl_holds_118 rfl ic_1 (sm_goto (tgt := 123) d_Pl_holds_119 rfl ?_)
        exact sm_zreturn d_Pl_holds_123 rfl (by decide) rfl
    refine sm_ite (fun hs53_13 => ?_) (fun hs53_13 => ?_)
    · refine sm_tabIn (off := 71) (tgt := 124) d_Pl_holds_53 (by rw [hs53_13]; decide) (by rw [hs53_13]; decide) (by rw [hs53_13]; rfl) rfl ?_
      refine sm_aload_n (i := 2) (j := 0) (pc' := 125) d_Pl_holds_124 rfl rfl rfl ?_
      refine sm_getI (pc' := 128) d_Pl_holds_125 rfl fl_Pl_85 rfl ⟨by decide, by decide⟩ (fun v20 => ?_)
      refine sm_aload_n (i := 0) (j := 1) (pc' := 129) d_Pl_holds_128 rfl rfl rfl ?_
      refine sm_getR (pc' := 132) d_Pl_holds_129 rfl fl_Pl_21 rfl rfl (fun v21 => ?_)
      refine sm_aload_n (i := 0) (j := 1) (pc' := 133) d_Pl_holds_132 rfl rfl rfl ?_
      refine sm_getI (pc' := 136) d_Pl_holds_133 rfl fl_Pl_56 rfl ⟨by decide, by decide⟩ (fun v22 => ?_)
      refine sm_iald (pc' := 137) d_Pl_holds_136 rfl (fun v23 => ?_)
      refine sm_icmp_ne (tgt := 144) (pc' := 140) d_Pl_holds_137 rfl rfl ?_ ?_
      · refine sm_iconst (pc' := 145) d_Pl_holds_144 rfl ic_0 ?_
        exact sm_zreturn d_Pl_holds_145 rfl (by decide) rfl
      · refine sm_iconst (pc' := 141) d_Pl_holds_140 rfl ic_1 (sm_goto (tgt := 145) d_Pl_holds_141 rfl ?_)
        exact sm_zreturn d_Pl_holds_145 rfl (by decide) rfl
    refine sm_tabOut (tgt := 146) d_Pl_holds_53 (by have z0 : (v11).toInt ≠ 11 := fun e => hs53_11 (Int32.toInt_inj.mp (by rw [e]; rfl)); have z1 : (v11).toInt ≠ 12 := fun e => hs53_12 (Int32.toInt_inj.mp (by rw [e]; rfl)); have z2 : (v11).toInt ≠ 13 := fun e => hs53_13 (Int32.toInt_inj.mp (by rw [e]; rfl)); omega) rfl ?_
    refine sm_aload_n (i := 2) (j := 0) (pc' := 147) d_Pl_holds_146 rfl rfl rfl ?_
    refine sm_callVi (ci := 5) (x := v8) (av := []) (st := []) (mc := 0) (ms := 0) (pc' := 150) d_Pl_holds_147 rfl (sd_Th_isThrough v8) m_lv rfl cv_Th_isThrough w_ml_Pl_90 rfl rfl (by decide) (Nat.le_of_ble_eq_true rfl) rfl rfl (fun v24 => ?_)
    exact sm_zretC d_Pl_holds_150 rfl rfl
  · refine sm_aload_n (i := 1) (j := 1) (pc' := 15) d_Pl_holds_14 rfl rfl rfl (sm_aload_n (i := 0) (j := 0) (pc' := 16) d_Pl_holds_15 rfl rfl rfl ?_)
    refine sm_getR (pc' := 19) d_Pl_holds_16 rfl fl_Pl_15 rfl rfl (fun v25 => ?_)
    refine sm_aload_n (i := 0) (j := 0) (pc' := 20) d_Pl_holds_19 rfl rfl rfl ?_
    refine sm_getI (pc' := 23) d_Pl_holds_20 rfl fl_Pl_56 rfl ⟨by decide, by decide⟩ (fun v26 => ?_)
    refine sm_iald (pc' := 24) d_Pl_holds_23 rfl (fun v27 => ?_)
    refine sm_iconst (pc' := 25) d_Pl_holds_24 rfl ic_0 ?_
    refine sm_callVi (ci := 3) (x := x1) (av := [.inl v27, .inl 0]) (st := []) (mc := 0) (ms := 0) (pc' := 28) d_Pl_holds_25 rfl (sd_Fa_showsAhead x1 v27 0) m_lv rfl cv_Fa_showsAhead w_ml_Pl_75 rfl rfl (by decide) (Nat.le_of_ble_eq_true rfl) rfl rfl (fun v28 => ?_)
    exact sm_zretC d_Pl_holds_28 rfl rfl
theorem d_Pl_run_0 : m_D k_Pl_run 0 (.aload_n 0) 1 := (by decide +kernel : decode prog_7_method_6_code 0 = .ok (.aload_n 0, 1))
theorem d_Pl_run_1 : m_D k_Pl_run 1 (.iload_n 2) 1 := (by decide +kernel : decode prog_7_method_6_code 1 = .ok (.iload_n 2, 1))
theorem d_Pl_run_2 : m_D k_Pl_run 2 (.putfield 47) 3 := (by decide +kernel : decode prog_7_method_6_code 2 = .ok (.putfield 47, 3))
theorem d_Pl_run_5 : m_D k_Pl_run 5 (.aload_n 0) 1 := (by decide +kernel : decode prog_7_method_6_code 5 = .ok (.aload_n 0, 1))
theorem d_Pl_run_6 : m_D k_Pl_run 6 (.iconst 0) 1 := (by decide +kernel : decode prog_7_method_6_code 6 = .ok (.iconst 0, 1))
theorem d_Pl_run_7 : m_D k_Pl_run 7 (.putfield 50) 3 := (by decide +kernel : decode prog_7_method_6_code 7 = .ok (.putfield 50, 3))
theorem d_Pl_run_10 : m_D k_Pl_run 10 (.aload_n 0) 1 := (by decide +kernel : decode prog_7_method_6_code 10 = .ok (.aload_n 0, 1))
theorem d_Pl_run_11 : m_D k_Pl_run 11 (.iconst 0) 1 := (by decide +kernel : decode prog_7_method_6_code 11 = .ok (.iconst 0, 1))
theorem d_Pl_run_12 : m_D k_Pl_run 12 (.putfield 53) 3 := (by decide +kernel : decode prog_7_method_6_code 12 = .ok (.putfield 53, 3))
theorem d_Pl_run_15 : m_D k_Pl_run 15 (.aload_n 0) 1 := (by decide +kernel : decode prog_7_method_6_code 15 = .ok (.aload_n 0, 1))
theorem d_Pl_run_16 : m_D k_Pl_run 16 (.iconst 0) 1 := (by decide +kernel : decode prog_7_method_6_code 16 = .ok (.iconst 0, 1))
theorem d_Pl_run_17 : m_D k_Pl_run 17 (.putfield 56) 3 := (by decide +kernel : decode prog_7_method_6_code 17 = .ok (.putfield 56, 3))
theorem d_Pl_run_20 : m_D k_Pl_run 20 (.aload_n 0) 1 := (by decide +kernel : decode prog_7_method_6_code 20 = .ok (.aload_n 0, 1))
theorem d_Pl_run_21 : m_D k_Pl_run 21 (.iconst 0) 1 := (by decide +kernel : decode prog_7_method_6_code 21 = .ok (.iconst 0, 1))
theorem d_Pl_run_22 : m_D k_Pl_run 22 (.putfield 59) 3 := (by decide +kernel : decode prog_7_method_6_code 22 = .ok (.putfield 59, 3))
theorem d_Pl_run_25 : m_D k_Pl_run 25 (.iconst 0) 1 := (by decide +kernel : decode prog_7_method_6_code 25 = .ok (.iconst 0, 1))
theorem d_Pl_run_26 : m_D k_Pl_run 26 (.istore_n 3) 1 := (by decide +kernel : decode prog_7_method_6_code 26 = .ok (.istore_n 3, 1))
theorem d_Pl_run_27 : m_D k_Pl_run 27 (.iload_n 3) 1 := (by decide +kernel : decode prog_7_method_6_code 27 = .ok (.iload_n 3, 1))
theorem d_Pl_run_28 : m_D k_Pl_run 28 (.sipush 300) 3 := (by decide +kernel : decode prog_7_method_6_code 28 = .ok (.sipush 300, 3))
theorem d_Pl_run_31 : m_D k_Pl_run 31 (.if_icmp .ge 164) 3 := (by decide +kernel : decode prog_7_method_6_code 31 = .ok (.if_icmp .ge 164, 3))
theorem d_Pl_run_34 : m_D k_Pl_run 34 (.aload_n 0) 1 := (by decide +kernel : decode prog_7_method_6_code 34 = .ok (.aload_n 0, 1))
theorem d_Pl_run_35 : m_D k_Pl_run 35 (.getfield 56) 3 := (by decide +kernel : decode prog_7_method_6_code 35 = .ok (.getfield 56, 3))
theorem d_Pl_run_38 : m_D k_Pl_run 38 (.aload_n 0) 1 := (by decide +kernel : decode prog_7_method_6_code 38 = .ok (.aload_n 0, 1))
theorem d_Pl_run_39 : m_D k_Pl_run 39 (.getfield 37) 3 := (by decide +kernel : decode prog_7_method_6_code 39 = .ok (.getfield 37, 3))
theorem d_Pl_run_42 : m_D k_Pl_run 42 (.if_icmp .ge 153) 3 := (by decide +kernel : decode prog_7_method_6_code 42 = .ok (.if_icmp .ge 153, 3))
theorem d_Pl_run_45 : m_D k_Pl_run 45 (.aload_n 0) 1 := (by decide +kernel : decode prog_7_method_6_code 45 = .ok (.aload_n 0, 1))
theorem d_Pl_run_46 : m_D k_Pl_run 46 (.dup) 1 := (by decide +kernel : decode prog_7_method_6_code 46 = .ok (.dup, 1))
theorem d_Pl_run_47 : m_D k_Pl_run 47 (.getfield 50) 3 := (by decide +kernel : decode prog_7_method_6_code 47 = .ok (.getfield 50, 3))
theorem d_Pl_run_50 : m_D k_Pl_run 50 (.iconst 1) 1 := (by decide +kernel : decode prog_7_method_6_code 50 = .ok (.iconst 1, 1))
theorem d_Pl_run_51 : m_D k_Pl_run 51 (.iadd) 1 := (by decide +kernel : decode prog_7_method_6_code 51 = .ok (.iadd, 1))
theorem d_Pl_run_52 : m_D k_Pl_run 52 (.putfield 50) 3 := (by decide +kernel : decode prog_7_method_6_code 52 = .ok (.putfield 50, 3))
theorem d_Pl_run_55 : m_D k_Pl_run 55 (.aload_n 0) 1 := (by decide +kernel : decode prog_7_method_6_code 55 = .ok (.aload_n 0, 1))
theorem d_Pl_run_56 : m_D k_Pl_run 56 (.getfield 11) 3 := (by decide +kernel : decode prog_7_method_6_code 56 = .ok (.getfield 11, 3))
theorem d_Pl_run_59 : m_D k_Pl_run 59 (.aload_n 0) 1 := (by decide +kernel : decode prog_7_method_6_code 59 = .ok (.aload_n 0, 1))
theorem d_Pl_run_60 : m_D k_Pl_run 60 (.getfield 56) 3 := (by decide +kernel : decode prog_7_method_6_code 60 = .ok (.getfield 56, 3))
theorem d_Pl_run_63 : m_D k_Pl_run 63 (.iaload) 1 := (by decide +kernel : decode prog_7_method_6_code 63 = .ok (.iaload, 1))
theorem d_Pl_run_64 : m_D k_Pl_run 64 (.bipush 7) 2 := (by decide +kernel : decode prog_7_method_6_code 64 = .ok (.bipush 7, 2))
theorem d_Pl_run_66 : m_D k_Pl_run 66 (.if_icmp .ne 19) 3 := (by decide +kernel : decode prog_7_method_6_code 66 = .ok (.if_icmp .ne 19, 3))
theorem d_Pl_run_69 : m_D k_Pl_run 69 (.aload_n 0) 1 := (by decide +kernel : decode prog_7_method_6_code 69 = .ok (.aload_n 0, 1))
theorem d_Pl_run_70 : m_D k_Pl_run 70 (.iconst 0) 1 := (by decide +kernel : decode prog_7_method_6_code 70 = .ok (.iconst 0, 1))
theorem d_Pl_run_71 : m_D k_Pl_run 71 (.putfield 59) 3 := (by decide +kernel : decode prog_7_method_6_code 71 = .ok (.putfield 59, 3))
theorem d_Pl_run_74 : m_D k_Pl_run 74 (.aload_n 0) 1 := (by decide +kernel : decode prog_7_method_6_code 74 = .ok (.aload_n 0, 1))
theorem d_Pl_run_75 : m_D k_Pl_run 75 (.aload_n 0) 1 := (by decide +kernel : decode prog_7_method_6_code 75 = .ok (.aload_n 0, 1))
theorem d_Pl_run_76 : m_D k_Pl_run 76 (.getfield 37) 3 := (by decide +kernel : decode prog_7_method_6_code 76 = .ok (.getfield 37, 3))
theorem d_Pl_run_79 : m_D k_Pl_run 79 (.putfield 56) 3 := (by decide +kernel : decode prog_7_method_6_code 79 = .ok (.putfield 56, 3))
theorem d_Pl_run_82 : m_D k_Pl_run 82 (.goto 103) 3 := (by decide +kernel : decode prog_7_method_6_code 82 = .ok (.goto 103, 3))
theorem d_Pl_run_85 : m_D k_Pl_run 85 (.aload_n 0) 1 := (by decide +kernel : decode prog_7_method_6_code 85 = .ok (.aload_n 0, 1))
theorem d_Pl_run_86 : m_D k_Pl_run 86 (.getfield 11) 3 := (by decide +kernel : decode prog_7_method_6_code 86 = .ok (.getfield 11, 3))
theorem d_Pl_run_89 : m_D k_Pl_run 89 (.aload_n 0) 1 := (by decide +kernel : decode prog_7_method_6_code 89 = .ok (.aload_n 0, 1))
theorem d_Pl_run_90 : m_D k_Pl_run 90 (.getfield 56) 3 := (by decide +kernel : decode prog_7_method_6_code 90 = .ok (.getfield 56, 3))
theorem d_Pl_run_93 : m_D k_Pl_run 93 (.iaload) 1 := (by decide +kernel : decode prog_7_method_6_code 93 = .ok (.iaload, 1))
theorem d_Pl_run_94 : m_D k_Pl_run 94 (.bipush 8) 2 := (by decide +kernel : decode prog_7_method_6_code 94 = .ok (.bipush 8, 2))
theorem d_Pl_run_96 : m_D k_Pl_run 96 (.if_icmp .ne 10) 3 := (by decide +kernel : decode prog_7_method_6_code 96 = .ok (.if_icmp .ne 10, 3))
theorem d_Pl_run_99 : m_D k_Pl_run 99 (.aload_n 0) 1 := (by decide +kernel : decode prog_7_method_6_code 99 = .ok (.aload_n 0, 1))
theorem d_Pl_run_100 : m_D k_Pl_run 100 (.invokevirtual 62) 3 := (by decide +kernel : decode prog_7_method_6_code 100 = .ok (.invokevirtual 62, 3))
theorem d_Pl_run_103 : m_D k_Pl_run 103 (.goto 82) 3 := (by decide +kernel : decode prog_7_method_6_code 103 = .ok (.goto 82, 3))
theorem d_Pl_run_106 : m_D k_Pl_run 106 (.aload_n 0) 1 := (by decide +kernel : decode prog_7_method_6_code 106 = .ok (.aload_n 0, 1))
theorem d_Pl_run_107 : m_D k_Pl_run 107 (.getfield 11) 3 := (by decide +kernel : decode prog_7_method_6_code 107 = .ok (.getfield 11, 3))
theorem d_Pl_run_110 : m_D k_Pl_run 110 (.aload_n 0) 1 := (by decide +kernel : decode prog_7_method_6_code 110 = .ok (.aload_n 0, 1))
theorem d_Pl_run_111 : m_D k_Pl_run 111 (.getfield 56) 3 := (by decide +kernel : decode prog_7_method_6_code 111 = .ok (.getfield 56, 3))
theorem d_Pl_run_114 : m_D k_Pl_run 114 (.iaload) 1 := (by decide +kernel : decode prog_7_method_6_code 114 = .ok (.iaload, 1))
theorem d_Pl_run_115 : m_D k_Pl_run 115 (.bipush 8) 2 := (by decide +kernel : decode prog_7_method_6_code 115 = .ok (.bipush 8, 2))
theorem d_Pl_run_117 : m_D k_Pl_run 117 (.if_icmp .le 36) 3 := (by decide +kernel : decode prog_7_method_6_code 117 = .ok (.if_icmp .le 36, 3))
theorem d_Pl_run_120 : m_D k_Pl_run 120 (.aload_n 0) 1 := (by decide +kernel : decode prog_7_method_6_code 120 = .ok (.aload_n 0, 1))
theorem d_Pl_run_121 : m_D k_Pl_run 121 (.aload_n 0) 1 := (by decide +kernel : decode prog_7_method_6_code 121 = .ok (.aload_n 0, 1))
theorem d_Pl_run_122 : m_D k_Pl_run 122 (.aload_n 1) 1 := (by decide +kernel : decode prog_7_method_6_code 122 = .ok (.aload_n 1, 1))
theorem d_Pl_run_123 : m_D k_Pl_run 123 (.invokevirtual 65) 3 := (by decide +kernel : decode prog_7_method_6_code 123 = .ok (.invokevirtual 65, 3))
theorem d_Pl_run_126 : m_D k_Pl_run 126 (.ifCond .eq 12) 3 := (by decide +kernel : decode prog_7_method_6_code 126 = .ok (.ifCond .eq 12, 3))
theorem d_Pl_run_129 : m_D k_Pl_run 129 (.aload_n 0) 1 := (by decide +kernel : decode prog_7_method_6_code 129 = .ok (.aload_n 0, 1))
theorem d_Pl_run_130 : m_D k_Pl_run 130 (.getfield 56) 3 := (by decide +kernel : decode prog_7_method_6_code 130 = .ok (.getfield 56, 3))
theorem d_Pl_run_133 : m_D k_Pl_run 133 (.iconst 1) 1 := (by decide +kernel : decode prog_7_method_6_code 133 = .ok (.iconst 1, 1))
theorem d_Pl_run_134 : m_D k_Pl_run 134 (.iadd) 1 := (by decide +kernel : decode prog_7_method_6_code 134 = .ok (.iadd, 1))
theorem d_Pl_run_135 : m_D k_Pl_run 135 (.goto 12) 3 := (by decide +kernel : decode prog_7_method_6_code 135 = .ok (.goto 12, 3))
theorem d_Pl_run_138 : m_D k_Pl_run 138 (.aload_n 0) 1 := (by decide +kernel : decode prog_7_method_6_code 138 = .ok (.aload_n 0, 1))
theorem d_Pl_run_139 : m_D k_Pl_run 139 (.getfield 24) 3 := (by decide +kernel : decode prog_7_method_6_code 139 = .ok (.getfield 24, 3))
theorem d_Pl_run_142 : m_D k_Pl_run 142 (.aload_n 0) 1 := (by decide +kernel : decode prog_7_method_6_code 142 = .ok (.aload_n 0, 1))
theorem d_Pl_run_143 : m_D k_Pl_run 143 (.getfield 56) 3 := (by decide +kernel : decode prog_7_method_6_code 143 = .ok (.getfield 56, 3))
theorem d_Pl_run_146 : m_D k_Pl_run 146 (.iaload) 1 := (by decide +kernel : decode prog_7_method_6_code 146 = .ok (.iaload, 1))
theorem d_Pl_run_147 : m_D k_Pl_run 147 (.putfield 56) 3 := (by decide +kernel : decode prog_7_method_6_code 147 = .ok (.putfield 56, 3))
theorem d_Pl_run_150 : m_D k_Pl_run 150 (.goto 35) 3 := (by decide +kernel : decode prog_7_method_6_code 150 = .ok (.goto 35, 3))
theorem d_Pl_run_153 : m_D k_Pl_run 153 (.aload_n 0) 1 := (by decide +kernel : decode prog_7_method_6_code 153 = .ok (.aload_n 0, 1))
theorem d_Pl_run_154 : m_D k_Pl_run 154 (.dup) 1 := (by decide +kernel : decode prog_7_method_6_code 154 = .ok (.dup, 1))
theorem d_Pl_run_155 : m_D k_Pl_run 155 (.getfield 53) 3 := (by decide +kernel : decode prog_7_method_6_code 155 = .ok (.getfield 53, 3))
theorem d_Pl_run_158 : m_D k_Pl_run 158 (.aload_n 0) 1 := (by decide +kernel : decode prog_7_method_6_code 158 = .ok (.aload_n 0, 1))
theorem d_Pl_run_159 : m_D k_Pl_run 159 (.aload_n 1) 1 := (by decide +kernel : decode prog_7_method_6_code 159 = .ok (.aload_n 1, 1))
theorem d_Pl_run_160 : m_D k_Pl_run 160 (.invokevirtual 69) 3 := (by decide +kernel : decode prog_7_method_6_code 160 = .ok (.invokevirtual 69, 3))
theorem d_Pl_run_163 : m_D k_Pl_run 163 (.ifCond .eq 7) 3 := (by decide +kernel : decode prog_7_method_6_code 163 = .ok (.ifCond .eq 7, 3))
theorem d_Pl_run_166 : m_D k_Pl_run 166 (.iconst 0) 1 := (by decide +kernel : decode prog_7_method_6_code 166 = .ok (.iconst 0, 1))
theorem d_Pl_run_167 : m_D k_Pl_run 167 (.goto 4) 3 := (by decide +kernel : decode prog_7_method_6_code 167 = .ok (.goto 4, 3))
theorem d_Pl_run_170 : m_D k_Pl_run 170 (.iconst 1) 1 := (by decide +kernel : decode prog_7_method_6_code 170 = .ok (.iconst 1, 1))
theorem d_Pl_run_171 : m_D k_Pl_run 171 (.iadd) 1 := (by decide +kernel : decode prog_7_method_6_code 171 = .ok (.iadd, 1))
theorem d_Pl_run_172 : m_D k_Pl_run 172 (.putfield 53) 3 := (by decide +kernel : decode prog_7_method_6_code 172 = .ok (.putfield 53, 3))
theorem d_Pl_run_175 : m_D k_Pl_run 175 (.aload_n 0) 1 := (by decide +kernel : decode prog_7_method_6_code 175 = .ok (.aload_n 0, 1))
theorem d_Pl_run_176 : m_D k_Pl_run 176 (.dup) 1 := (by decide +kernel : decode prog_7_method_6_code 176 = .ok (.dup, 1))
theorem d_Pl_run_177 : m_D k_Pl_run 177 (.getfield 56) 3 := (by decide +kernel : decode prog_7_method_6_code 177 = .ok (.getfield 56, 3))
theorem d_Pl_run_180 : m_D k_Pl_run 180 (.iconst 1) 1 := (by decide +kernel : decode prog_7_method_6_code 180 = .ok (.iconst 1, 1))
theorem d_Pl_run_181 : m_D k_Pl_run 181 (.iadd) 1 := (by decide +kernel : decode prog_7_method_6_code 181 = .ok (.iadd, 1))
theorem d_Pl_run_182 : m_D k_Pl_run 182 (.putfield 56) 3 := (by decide +kernel : decode prog_7_method_6_code 182 = .ok (.putfield 56, 3))
theorem d_Pl_run_185 : m_D k_Pl_run 185 (.aload_n 0) 1 := (by decide +kernel : decode prog_7_method_6_code 185 = .ok (.aload_n 0, 1))
theorem d_Pl_run_186 : m_D k_Pl_run 186 (.invokevirtual 72) 3 := (by decide +kernel : decode prog_7_method_6_code 186 = .ok (.invokevirtual 72, 3))
theorem d_Pl_run_189 : m_D k_Pl_run 189 (.iinc 3 1) 3 := (by decide +kernel : decode prog_7_method_6_code 189 = .ok (.iinc 3 1, 3))
theorem d_Pl_run_192 : m_D k_Pl_run 192 (.goto (-165)) 3 := (by decide +kernel : decode prog_7_method_6_code 192 = .ok (.goto (-165), 3))
theorem d_Pl_run_195 : m_D k_Pl_run 195 (.return_) 1 := (by decide +kernel : decode prog_7_method_6_code 195 = .ok (.return_, 1))
def fn_Pl_run_l27 (x0 : Option mA) (x1 : Option mA) (t1 : Int32) : mP ((Int32) ⊕ (Unit)) :=
  if 300 ≤ t1 then
    m_rt (.inr ())
  else
    m_bd (m_gI 6 10 x0) fun v2 =>
    m_bd (m_gI 6 1 x0) fun v3 =>
    if v3 ≤ v2 then
      m_rt (.inr ())
    else
      m_bd (m_gI 6 7 x0) fun v4 =>
      m_bd (m_pI 6 7 x0 (v4 + 1)) fun _ =>
      m_bd (m_gR 6 2 x0) fun v5 =>
      m_bd (m_gI 6 10 x0) fun v6 =>
      m_bd (m_aI 0 v5 v6) fun v7 =>
      m_bd (α := Unit) (
        if v7 = 7 then
          m_bd (m_pI 6 13 x0 0) fun _ =>
          m_bd (m_gI 6 1 x0) fun v24 =>
          m_bd (m_pI 6 10 x0 v24) fun _ =>
          m_rt ()
        else
          m_bd (m_gR 6 2 x0) fun v8 =>
          m_bd (m_gI 6 10 x0) fun v9 =>
          m_bd (m_aI 0 v8 v9) fun v10 =>
          if v10 = 8 then
            m_bd (fn_Pl_enterLoop x0) fun _ =>
            m_rt ()
          else
            m_bd (m_gR 6 2 x0) fun v11 =>
            m_bd (m_gI 6 10 x0) fun v12 =>
            m_bd (m_aI 0 v11 v12) fun v13 =>
            if v13 ≤ 8 then
              m_bd (m_gI 6 8 x0) fun v14 =>
              m_bd (fn_Pl_act x0 x1) fun v15 =>
              m_bd (α := Int32) (
                if v15 = 0 then
                  m_rt 1
                else
                  m_rt 0
                ) fun (t16 : Int32) =>
              m_bd (m_pI 6 8 x0 (v14 + t16)) fun _ =>
              m_bd (m_gI 6 10 x0) fun v17 =>
              m_bd (m_pI 6 10 x0 (v17 + 1)) fun _ =>
              m_rt ()
            else
              m_bd (fn_Pl_holds x0 x1) fun v18 =>
              m_bd (α := Int32) (
                if v18 = 0 then
                  m_bd (m_gR 6 6 x0) fun v19 =>
                  m_bd (m_gI 6 10 x0) fun v20 =>
                  m_bd (m_aI 0 v19 v20) fun v21 =>
                  m_rt v21
                else
                  m_bd (m_gI 6 10 x0) fun v22 =>
                  m_rt (v22 + 1)
                ) fun (t23 : Int32) =>
              m_bd (m_pI 6 10 x0 t23) fun _ =>
              m_rt ()
        ) fun (t25 : Unit) =>
      m_bd (fn_Pl_goRound x0) fun _ =>
      m_rt (.inl (t1 + 1))
def fn_Pl_run (x0 : Option mA) (x1 : Option mA) (x2 : Int32) : mP Unit :=
  m_th 6 x0 <|
  m_bd (m_pI 6 9 x0 x2) fun _ =>
  m_bd (m_pI 6 7 x0 0) fun _ =>
  m_bd (m_pI 6 8 x0 0) fun _ =>
  m_bd (m_pI 6 10 x0 0) fun _ =>
  m_bd (m_pI 6 13 x0 0) fun _ =>
  m_bd (m_lp (fn_Pl_run_l27 x0 x1) m_F 0) fun (t26 : Unit) =>
  m_rt ()
set_option maxHeartbeats 4000000 in
set_option maxRecDepth 100000 in
theorem sd_Pl_run (x0 : Option mA) (x1 : Option mA) (x2 : Int32) : m_Sm k_Pl_run 7 0 0 [.inr (.inr x0), .inr (.inr x1), .inl x2] (fn_Pl_run x0 x1 x2) (fun _ => none) := by
  refine ⟨Nat.le_of_ble_eq_true rfl, ?_⟩
  refine sm_th ?_
  refine sm_aload_n (i := 0) (j := 0) (pc' := 1) d_Pl_run_0 rfl rfl rfl (sm_iload_n (i := 2) (j := 2) (pc' := 2) d_Pl_run_1 rfl rfl rfl (sm_putI (pc' := 5) d_Pl_run_2 rfl fl_Pl_47 (Or.inl rfl) rfl (sm_aload_n (i := 0) (j := 0) (pc' := 6) d_Pl_run_5 rfl rfl rfl (sm_iconst (pc' := 7) d_Pl_run_6 rfl ic_0 (sm_putI (pc' := 10) d_Pl_run_7 rfl fl_Pl_50 (Or.inl rfl) rfl (sm_aload_n (i := 0) (j := 0) (pc' := 11) d_Pl_run_10 rfl rfl rfl (sm_iconst (pc' := 12) d_Pl_run_11 rfl ic_0 (sm_putI (pc' := 15) d_Pl_run_12 rfl fl_Pl_53 (Or.inl rfl) rfl (sm_aload_n (i := 0) (j := 0) (pc' := 16) d_Pl_run_15 rfl rfl rfl ?_)))))))))
  refine sm_iconst (pc' := 17) d_Pl_run_16 rfl ic_0 (sm_putI (pc' := 20) d_Pl_run_17 rfl fl_Pl_56 (Or.inl rfl) rfl (sm_aload_n (i := 0) (j := 0) (pc' := 21) d_Pl_run_20 rfl rfl rfl (sm_iconst (pc' := 22) d_Pl_run_21 rfl ic_0 (sm_putI (pc' := 25) d_Pl_run_22 rfl fl_Pl_59 (Or.inl rfl) rfl (sm_iconst (pc' := 26) d_Pl_run_25 rfl ic_0 (sm_istore_n (i := 3) (L' := [(3, .inl 0), (0, .inr (.inr x0)), (1, .inr (.inr x1)), (2, .inl x2)]) (pc' := 27) d_Pl_run_26 rfl rfl (Nat.le_of_ble_eq_true rfl) rfl ?_))))))
  refine sm_sub [0, 1, 2] rfl ?_
  refine sm_bd (mid := fun (t26 : Unit) => .inl (195, [], [])) (sm_lp (hd := fun (t1 : Int32) => (.inl (27, [(3, .inl t1), (0, .inr (.inr x0)), (1, .inr (.inr x1))], []) : mC)) (fun t1 => ?_) m_F 0) (fun t26 => ?_)
  · refine sm_iload_n (i := 3) (j := 0) (pc' := 28) d_Pl_run_27 rfl rfl rfl (sm_sipush (pc' := 31) d_Pl_run_28 rfl is_300 ?_)
    refine sm_icmp_ge (tgt := 195) (pc' := 34) d_Pl_run_31 rfl rfl ?_ ?_
    · refine sm_sub [] rfl ?_
      exact sm_rt rfl
    · refine sm_aload_n (i := 0) (j := 1) (pc' := 35) d_Pl_run_34 rfl rfl rfl ?_
      refine sm_getI (pc' := 38) d_Pl_run_35 rfl fl_Pl_56 rfl ⟨by decide, by decide⟩ (fun v2 => ?_)
      refine sm_aload_n (i := 0) (j := 1) (pc' := 39) d_Pl_run_38 rfl rfl rfl ?_
      refine sm_getI (pc' := 42) d_Pl_run_39 rfl fl_Pl_37 rfl ⟨by decide, by decide⟩ (fun v3 => ?_)
      refine sm_icmp_ge (tgt := 195) (pc' := 45) d_Pl_run_42 rfl rfl ?_ ?_
      · refine sm_sub [] rfl ?_
        exact sm_rt rfl
      · refine sm_aload_n (i := 0) (j := 1) (pc' := 46) d_Pl_run_45 rfl rfl rfl (sm_dup (pc' := 47) d_Pl_run_46 rfl rfl ?_)
        refine sm_getI (pc' := 50) d_Pl_run_47 rfl fl_Pl_50 rfl ⟨by decide, by decide⟩ (fun v4 => ?_)
        refine sm_iconst (pc' := 51) d_Pl_run_50 rfl ic_1 (sm_iadd (pc' := 52) d_Pl_run_51 rfl (sm_putI (pc' := 55) d_Pl_run_52 rfl fl_Pl_50 (Or.inl rfl) rfl (sm_aload_n (i := 0) (j := 1) (pc' := 56) d_Pl_run_55 rfl rfl rfl ?_)))
        refine sm_getR (pc' := 59) d_Pl_run_56 rfl fl_Pl_11 rfl rfl (fun v5 => ?_)
        refine sm_aload_n (i := 0) (j := 1) (pc' := 60) d_Pl_run_59 rfl rfl rfl ?_
        refine sm_getI (pc' := 63) d_Pl_run_60 rfl fl_Pl_56 rfl ⟨by decide, by decide⟩ (fun v6 => ?_)
        refine sm_iald (pc' := 64) d_Pl_run_63 rfl (fun v7 => ?_)
        refine sm_bipush (pc' := 66) d_Pl_run_64 rfl ib_7 ?_
        refine sm_bd (mid := fun (t25 : Unit) => .inl (185, [(0, .inr (.inr x0)), (1, .inr (.inr x1)), (3, .inl t1)], [])) ?_ (fun t25 => ?_)
        · refine sm_icmp_ne (tgt := 85) (pc' := 69) d_Pl_run_66 rfl rfl ?_ ?_
          · refine sm_aload_n (i := 0) (j := 1) (pc' := 86) d_Pl_run_85 rfl rfl rfl ?_
            refine sm_getR (pc' := 89) d_Pl_run_86 rfl fl_Pl_11 rfl rfl (fun v8 => ?_)
            refine sm_aload_n (i := 0) (j := 1) (pc' := 90) d_Pl_run_89 rfl rfl rfl ?_
            refine sm_getI (pc' := 93) d_Pl_run_90 rfl fl_Pl_56 rfl ⟨by decide, by decide⟩ (fun v9 => ?_)
            refine sm_iald (pc' := 94) d_Pl_run_93 rfl (fun v10 => ?_)
            refine sm_bipush (pc' := 96) d_Pl_run_94 rfl ib_8 ?_
            refine sm_icmp_ne (tgt := 106) (pc' := 99) d_Pl_run_96 rfl rfl ?_ ?_
            · refine sm_aload_n (i := 0) (j := 1) (pc' := 107) d_Pl_run_106 rfl rfl rfl ?_
              refine sm_getR (pc' := 110) d_Pl_run_107 rfl fl_Pl_11 rfl rfl (fun v11 => ?_)
              refine sm_aload_n (i := 0) (j := 1) (pc' := 111) d_Pl_run_110 rfl rfl rfl ?_
              refine sm_getI (pc' := 114) d_Pl_run_111 rfl fl_Pl_56 rfl ⟨by decide, by decide⟩ (fun v12 => ?_)
              refine sm_iald (pc' := 115) d_Pl_run_114 rfl (fun v13 => ?_)
              refine sm_bipush (pc' := 117) d_Pl_run_115 rfl ib_8 ?_
              refine sm_icmp_le (tgt := 153) (pc' := 120) d_Pl_run_117 rfl rfl ?_ ?_
              · refine sm_aload_n (i := 0) (j := 1) (pc' := 154) d_Pl_run_153 rfl rfl rfl (sm_dup (pc' := 155) d_Pl_run_154 rfl rfl ?_)
                refine sm_getI (pc' := 158) d_Pl_run_155 rfl fl_Pl_53 rfl ⟨by decide, by decide⟩ (fun v14 => ?_)
                refine sm_aload_n (i := 0) (j := 1) (pc' := 159) d_Pl_run_158 rfl rfl rfl (sm_aload_n (i := 1) (j := 2) (pc' := 160) d_Pl_run_159 rfl rfl rfl ?_)
                refine sm_callVi (ci := 6) (x := x0) (av := [.inr (.inr x1)]) (st := [.inl v14, .inr (.inr x0)]) (mc := 0) (ms := 0) (pc' := 163) d_Pl_run_160 rfl (sd_Pl_act x0 x1) m_lv rfl cv_Pl_act w_ml_Pl_69 rfl rfl (by decide) (Nat.le_of_ble_eq_true rfl) rfl rfl (fun v15 => ?_)
                refine sm_bd (mid := fun (t16 : Int32) => .inl (171, [(0, .inr (.inr x0)), (1, .inr (.inr x1)), (3, .inl t1)], [.inl t16, .inl v14, .inr (.inr x0)])) ?_ (fun t16 => ?_)
                · refine sm_if_eq (tgt := 170) (pc' := 166) d_Pl_run_163 rfl rfl ?_ ?_
                  · refine sm_iconst (pc' := 171) d_Pl_run_170 rfl ic_1 (sm_sub [1, 2, 0] rfl ?_)
                    exact sm_rt rfl
                  · refine sm_iconst (pc' := 167) d_Pl_run_166 rfl ic_0 (sm_goto (tgt := 171) d_Pl_run_167 rfl (sm_sub [1, 2, 0] rfl ?_))
                    exact sm_rt rfl
                · refine sm_iadd (pc' := 172) d_Pl_run_171 rfl (sm_putI (pc' := 175) d_Pl_run_172 rfl fl_Pl_53 (Or.inl rfl) rfl (sm_aload_n (i := 0) (j := 0) (pc' := 176) d_Pl_run_175 rfl rfl rfl (sm_dup (pc' := 177) d_Pl_run_176 rfl rfl ?_)))
                  refine sm_getI (pc' := 180) d_Pl_run_177 rfl fl_Pl_56 rfl ⟨by decide, by decide⟩ (fun v17 => ?_)
                  refine sm_iconst (pc' := 181) d_Pl_run_180 rfl ic_1 (sm_iadd (pc' := 182) d_Pl_run_181 rfl (sm_putI (pc' := 185) d_Pl_run_182 rfl fl_Pl_56 (Or.inl rfl) rfl (sm_sub [0, 1, 2] rfl ?_)))
                  exact sm_rt rfl
              · refine sm_aload_n (i := 0) (j := 1) (pc' := 121) d_Pl_run_120 rfl rfl rfl (sm_aload_n (i := 0) (j := 1) (pc' := 122) d_Pl_run_121 rfl rfl rfl (sm_aload_n (i := 1) (j := 2) (pc' := 123) d_Pl_run_122 rfl rfl rfl ?_))
                refine sm_callVi (ci := 6) (x := x0) (av := [.inr (.inr x1)]) (st := [.inr (.inr x0)]) (mc := 0) (ms := 0) (pc' := 126) d_Pl_run_123 rfl (sd_Pl_holds x0 x1) m_lv rfl cv_Pl_holds w_ml_Pl_65 rfl rfl (by decide) (Nat.le_of_ble_eq_true rfl) rfl rfl (fun v18 => ?_)
                refine sm_bd (mid := fun (t23 : Int32) => .inl (147, [(0, .inr (.inr x0)), (1, .inr (.inr x1)), (3, .inl t1)], [.inl t23, .inr (.inr x0)])) ?_ (fun t23 => ?_)
                · refine sm_if_eq (tgt := 138) (pc' := 129) d_Pl_run_126 rfl rfl ?_ ?_
                  · refine sm_aload_n (i := 0) (j := 1) (pc' := 139) d_Pl_run_138 rfl rfl rfl ?_
                    refine sm_getR (pc' := 142) d_Pl_run_139 rfl fl_Pl_24 rfl rfl (fun v19 => ?_)
                    refine sm_aload_n (i := 0) (j := 1) (pc' := 143) d_Pl_run_142 rfl rfl rfl ?_
                    refine sm_getI (pc' := 146) d_Pl_run_143 rfl fl_Pl_56 rfl ⟨by decide, by decide⟩ (fun v20 => ?_)
                    refine sm_iald (pc' := 147) d_Pl_run_146 rfl (fun v21 => ?_)
                    refine sm_sub [1, 2, 0] rfl ?_
                    exact sm_rt rfl
                  · refine sm_aload_n (i := 0) (j := 1) (pc' := 130) d_Pl_run_129 rfl rfl rfl ?_
                    refine sm_getI (pc' := 133) d_Pl_run_130 rfl fl_Pl_56 rfl ⟨by decide, by decide⟩ (fun v22 => ?_)
                    refine sm_iconst (pc' := 134) d_Pl_run_133 rfl ic_1 (sm_iadd (pc' := 135) d_Pl_run_134 rfl (sm_goto (tgt := 147) d_Pl_run_135 rfl (sm_sub [1, 2, 0] rfl ?_)))
                    exact sm_rt rfl
                · refine sm_putI (pc' := 150) d_Pl_run_147 rfl fl_Pl_56 (Or.inl rfl) rfl (sm_goto (tgt := 185) d_Pl_run_150 rfl (sm_sub [0, 1, 2] rfl ?_))
                  exact sm_rt rfl
            · refine sm_aload_n (i := 0) (j := 1) (pc' := 100) d_Pl_run_99 rfl rfl rfl ?_
              refine sm_callVv (ci := 6) (x := x0) (av := []) (st := []) (mc := 0) (ms := 0) (pc' := 103) d_Pl_run_100 rfl (sd_Pl_enterLoop x0) m_lv rfl cv_Pl_enterLoop w_ml_Pl_62 rfl rfl (by decide) (Nat.le_of_ble_eq_true rfl) rfl rfl ?_
              refine sm_goto (tgt := 185) d_Pl_run_103 rfl (sm_sub [1, 2, 0] rfl ?_)
              exact sm_rt rfl
          · refine sm_aload_n (i := 0) (j := 1) (pc' := 70) d_Pl_run_69 rfl rfl rfl (sm_iconst (pc' := 71) d_Pl_run_70 rfl ic_0 (sm_putI (pc' := 74) d_Pl_run_71 rfl fl_Pl_59 (Or.inl rfl) rfl (sm_aload_n (i := 0) (j := 1) (pc' := 75) d_Pl_run_74 rfl rfl rfl (sm_aload_n (i := 0) (j := 1) (pc' := 76) d_Pl_run_75 rfl rfl rfl ?_))))
            refine sm_getI (pc' := 79) d_Pl_run_76 rfl fl_Pl_37 rfl ⟨by decide, by decide⟩ (fun v24 => ?_)
            refine sm_putI (pc' := 82) d_Pl_run_79 rfl fl_Pl_56 (Or.inl rfl) rfl (sm_goto (tgt := 185) d_Pl_run_82 rfl (sm_sub [1, 2, 0] rfl ?_))
            exact sm_rt rfl
        · refine sm_aload_n (i := 0) (j := 0) (pc' := 186) d_Pl_run_185 rfl rfl rfl ?_
          refine sm_callVv (ci := 6) (x := x0) (av := []) (st := []) (mc := 0) (ms := 0) (pc' := 189) d_Pl_run_186 rfl (sd_Pl_goRound x0) m_lv rfl cv_Pl_goRound w_ml_Pl_72 rfl rfl (by decide) (Nat.le_of_ble_eq_true rfl) rfl rfl ?_
          refine sm_iinc (j := 2) (L' := [(3, .inl (t1 + 1)), (0, .inr (.inr x0)), (1, .inr (.inr x1))]) (pc' := 192) d_Pl_run_189 rfl (v := (t1 + 1)) rfl (ix_1 _) (Nat.le_of_ble_eq_true rfl) rfl (sm_goto (tgt := 27) d_Pl_run_192 rfl (sm_sub [0, 1, 2] rfl ?_))
          exact sm_rt rfl
  · exact sm_return d_Pl_run_195 rfl rfl
theorem d_C_live_0 : m_D k_C_live 0 (.aload_n 0) 1 := (by decide +kernel : decode prog_1_method_69_code 0 = .ok (.aload_n 0, 1))
theorem d_C_live_1 : m_D k_C_live 1 (.iload_n 1) 1 := (by decide +kernel : decode prog_1_method_69_code 1 = .ok (.iload_n 1, 1))
theorem d_C_live_2 : m_D k_C_live 2 (.iconst 0) 1 := (by decide +kernel : decode prog_1_method_69_code 2 = .ok (.iconst 0, 1))
theorem d_C_live_3 : m_D k_C_live 3 (.sipush 9999) 3 := (by decide +kernel : decode prog_1_method_69_code 3 = .ok (.sipush 9999, 3))
theorem d_C_live_6 : m_D k_C_live 6 (.invokestatic 269) 3 := (by decide +kernel : decode prog_1_method_69_code 6 = .ok (.invokestatic 269, 3))
theorem d_C_live_9 : m_D k_C_live 9 (.ifCond .ne 7) 3 := (by decide +kernel : decode prog_1_method_69_code 9 = .ok (.ifCond .ne 7, 3))
theorem d_C_live_12 : m_D k_C_live 12 (.iconst 5) 1 := (by decide +kernel : decode prog_1_method_69_code 12 = .ok (.iconst 5, 1))
theorem d_C_live_13 : m_D k_C_live 13 (.goto 22) 3 := (by decide +kernel : decode prog_1_method_69_code 13 = .ok (.goto 22, 3))
theorem d_C_live_16 : m_D k_C_live 16 (.aload_n 0) 1 := (by decide +kernel : decode prog_1_method_69_code 16 = .ok (.aload_n 0, 1))
theorem d_C_live_17 : m_D k_C_live 17 (.getfield 37) 3 := (by decide +kernel : decode prog_1_method_69_code 17 = .ok (.getfield 37, 3))
theorem d_C_live_20 : m_D k_C_live 20 (.getfield 163) 3 := (by decide +kernel : decode prog_1_method_69_code 20 = .ok (.getfield 163, 3))
theorem d_C_live_23 : m_D k_C_live 23 (.getfield 419) 3 := (by decide +kernel : decode prog_1_method_69_code 23 = .ok (.getfield 419, 3))
theorem d_C_live_26 : m_D k_C_live 26 (.ifCond .eq 7) 3 := (by decide +kernel : decode prog_1_method_69_code 26 = .ok (.ifCond .eq 7, 3))
theorem d_C_live_29 : m_D k_C_live 29 (.iconst 0) 1 := (by decide +kernel : decode prog_1_method_69_code 29 = .ok (.iconst 0, 1))
theorem d_C_live_30 : m_D k_C_live 30 (.goto 5) 3 := (by decide +kernel : decode prog_1_method_69_code 30 = .ok (.goto 5, 3))
theorem d_C_live_33 : m_D k_C_live 33 (.bipush 8) 2 := (by decide +kernel : decode prog_1_method_69_code 33 = .ok (.bipush 8, 2))
theorem d_C_live_35 : m_D k_C_live 35 (.putfield 9) 3 := (by decide +kernel : decode prog_1_method_69_code 35 = .ok (.putfield 9, 3))
theorem d_C_live_38 : m_D k_C_live 38 (.aload_n 0) 1 := (by decide +kernel : decode prog_1_method_69_code 38 = .ok (.aload_n 0, 1))
theorem d_C_live_39 : m_D k_C_live 39 (.getfield 9) 3 := (by decide +kernel : decode prog_1_method_69_code 39 = .ok (.getfield 9, 3))
theorem d_C_live_42 : m_D k_C_live 42 (.ifCond .eq 5) 3 := (by decide +kernel : decode prog_1_method_69_code 42 = .ok (.ifCond .eq 5, 3))
theorem d_C_live_45 : m_D k_C_live 45 (.iconst (-1)) 1 := (by decide +kernel : decode prog_1_method_69_code 45 = .ok (.iconst (-1), 1))
theorem d_C_live_46 : m_D k_C_live 46 (.ireturn) 1 := (by decide +kernel : decode prog_1_method_69_code 46 = .ok (.ireturn, 1))
theorem d_C_live_47 : m_D k_C_live 47 (.aload_n 0) 1 := (by decide +kernel : decode prog_1_method_69_code 47 = .ok (.aload_n 0, 1))
theorem d_C_live_48 : m_D k_C_live 48 (.getfield 37) 3 := (by decide +kernel : decode prog_1_method_69_code 48 = .ok (.getfield 37, 3))
theorem d_C_live_51 : m_D k_C_live 51 (.invokevirtual 200) 3 := (by decide +kernel : decode prog_1_method_69_code 51 = .ok (.invokevirtual 200, 3))
theorem d_C_live_54 : m_D k_C_live 54 (.istore_n 2) 1 := (by decide +kernel : decode prog_1_method_69_code 54 = .ok (.istore_n 2, 1))
theorem d_C_live_55 : m_D k_C_live 55 (.aload_n 0) 1 := (by decide +kernel : decode prog_1_method_69_code 55 = .ok (.aload_n 0, 1))
theorem d_C_live_56 : m_D k_C_live 56 (.getfield 37) 3 := (by decide +kernel : decode prog_1_method_69_code 56 = .ok (.getfield 37, 3))
theorem d_C_live_59 : m_D k_C_live 59 (.invokevirtual 193) 3 := (by decide +kernel : decode prog_1_method_69_code 59 = .ok (.invokevirtual 193, 3))
theorem d_C_live_62 : m_D k_C_live 62 (.istore_n 3) 1 := (by decide +kernel : decode prog_1_method_69_code 62 = .ok (.istore_n 3, 1))
theorem d_C_live_63 : m_D k_C_live 63 (.aload_n 0) 1 := (by decide +kernel : decode prog_1_method_69_code 63 = .ok (.aload_n 0, 1))
theorem d_C_live_64 : m_D k_C_live 64 (.getfield 37) 3 := (by decide +kernel : decode prog_1_method_69_code 64 = .ok (.getfield 37, 3))
theorem d_C_live_67 : m_D k_C_live 67 (.getfield 190) 3 := (by decide +kernel : decode prog_1_method_69_code 67 = .ok (.getfield 190, 3))
theorem d_C_live_70 : m_D k_C_live 70 (.istore 4) 2 := (by decide +kernel : decode prog_1_method_69_code 70 = .ok (.istore 4, 2))
theorem d_C_live_72 : m_D k_C_live 72 (.aload_n 0) 1 := (by decide +kernel : decode prog_1_method_69_code 72 = .ok (.aload_n 0, 1))
theorem d_C_live_73 : m_D k_C_live 73 (.getfield 37) 3 := (by decide +kernel : decode prog_1_method_69_code 73 = .ok (.getfield 37, 3))
theorem d_C_live_76 : m_D k_C_live 76 (.getfield 163) 3 := (by decide +kernel : decode prog_1_method_69_code 76 = .ok (.getfield 163, 3))
theorem d_C_live_79 : m_D k_C_live 79 (.aload_n 0) 1 := (by decide +kernel : decode prog_1_method_69_code 79 = .ok (.aload_n 0, 1))
theorem d_C_live_80 : m_D k_C_live 80 (.getfield 37) 3 := (by decide +kernel : decode prog_1_method_69_code 80 = .ok (.getfield 37, 3))
theorem d_C_live_83 : m_D k_C_live 83 (.iload_n 1) 1 := (by decide +kernel : decode prog_1_method_69_code 83 = .ok (.iload_n 1, 1))
theorem d_C_live_84 : m_D k_C_live 84 (.invokevirtual 422) 3 := (by decide +kernel : decode prog_1_method_69_code 84 = .ok (.invokevirtual 422, 3))
theorem d_C_live_87 : m_D k_C_live 87 (.aload_n 0) 1 := (by decide +kernel : decode prog_1_method_69_code 87 = .ok (.aload_n 0, 1))
theorem d_C_live_88 : m_D k_C_live 88 (.getfield 86) 3 := (by decide +kernel : decode prog_1_method_69_code 88 = .ok (.getfield 86, 3))
theorem d_C_live_91 : m_D k_C_live 91 (.iconst 0) 1 := (by decide +kernel : decode prog_1_method_69_code 91 = .ok (.iconst 0, 1))
theorem d_C_live_92 : m_D k_C_live 92 (.aload_n 0) 1 := (by decide +kernel : decode prog_1_method_69_code 92 = .ok (.aload_n 0, 1))
theorem d_C_live_93 : m_D k_C_live 93 (.getfield 37) 3 := (by decide +kernel : decode prog_1_method_69_code 93 = .ok (.getfield 37, 3))
theorem d_C_live_96 : m_D k_C_live 96 (.getfield 163) 3 := (by decide +kernel : decode prog_1_method_69_code 96 = .ok (.getfield 163, 3))
theorem d_C_live_99 : m_D k_C_live 99 (.getfield 425) 3 := (by decide +kernel : decode prog_1_method_69_code 99 = .ok (.getfield 425, 3))
theorem d_C_live_102 : m_D k_C_live 102 (.iastore) 1 := (by decide +kernel : decode prog_1_method_69_code 102 = .ok (.iastore, 1))
theorem d_C_live_103 : m_D k_C_live 103 (.aload_n 0) 1 := (by decide +kernel : decode prog_1_method_69_code 103 = .ok (.aload_n 0, 1))
theorem d_C_live_104 : m_D k_C_live 104 (.getfield 86) 3 := (by decide +kernel : decode prog_1_method_69_code 104 = .ok (.getfield 86, 3))
theorem d_C_live_107 : m_D k_C_live 107 (.iconst 1) 1 := (by decide +kernel : decode prog_1_method_69_code 107 = .ok (.iconst 1, 1))
theorem d_C_live_108 : m_D k_C_live 108 (.aload_n 0) 1 := (by decide +kernel : decode prog_1_method_69_code 108 = .ok (.aload_n 0, 1))
theorem d_C_live_109 : m_D k_C_live 109 (.getfield 37) 3 := (by decide +kernel : decode prog_1_method_69_code 109 = .ok (.getfield 37, 3))
theorem d_C_live_112 : m_D k_C_live 112 (.getfield 190) 3 := (by decide +kernel : decode prog_1_method_69_code 112 = .ok (.getfield 190, 3))
theorem d_C_live_115 : m_D k_C_live 115 (.iload 4) 2 := (by decide +kernel : decode prog_1_method_69_code 115 = .ok (.iload 4, 2))
theorem d_C_live_117 : m_D k_C_live 117 (.isub) 1 := (by decide +kernel : decode prog_1_method_69_code 117 = .ok (.isub, 1))
theorem d_C_live_118 : m_D k_C_live 118 (.iastore) 1 := (by decide +kernel : decode prog_1_method_69_code 118 = .ok (.iastore, 1))
theorem d_C_live_119 : m_D k_C_live 119 (.aload_n 0) 1 := (by decide +kernel : decode prog_1_method_69_code 119 = .ok (.aload_n 0, 1))
theorem d_C_live_120 : m_D k_C_live 120 (.getfield 86) 3 := (by decide +kernel : decode prog_1_method_69_code 120 = .ok (.getfield 86, 3))
theorem d_C_live_123 : m_D k_C_live 123 (.iconst 2) 1 := (by decide +kernel : decode prog_1_method_69_code 123 = .ok (.iconst 2, 1))
theorem d_C_live_124 : m_D k_C_live 124 (.aload_n 0) 1 := (by decide +kernel : decode prog_1_method_69_code 124 = .ok (.aload_n 0, 1))
theorem d_C_live_125 : m_D k_C_live 125 (.getfield 37) 3 := (by decide +kernel : decode prog_1_method_69_code 125 = .ok (.getfield 37, 3))
theorem d_C_live_128 : m_D k_C_live 128 (.invokevirtual 200) 3 := (by decide +kernel : decode prog_1_method_69_code 128 = .ok (.invokevirtual 200, 3))
theorem d_C_live_131 : m_D k_C_live 131 (.iload_n 2) 1 := (by decide +kernel : decode prog_1_method_69_code 131 = .ok (.iload_n 2, 1))
theorem d_C_live_132 : m_D k_C_live 132 (.iconst (-1)) 1 := (by decide +kernel : decode prog_1_method_69_code 132 = .ok (.iconst (-1), 1))
theorem d_C_live_133 : m_D k_C_live 133 (.ixor) 1 := (by decide +kernel : decode prog_1_method_69_code 133 = .ok (.ixor, 1))
theorem d_C_live_134 : m_D k_C_live 134 (.iand) 1 := (by decide +kernel : decode prog_1_method_69_code 134 = .ok (.iand, 1))
theorem d_C_live_135 : m_D k_C_live 135 (.invokestatic 374) 3 := (by decide +kernel : decode prog_1_method_69_code 135 = .ok (.invokestatic 374, 3))
theorem d_C_live_138 : m_D k_C_live 138 (.iastore) 1 := (by decide +kernel : decode prog_1_method_69_code 138 = .ok (.iastore, 1))
theorem d_C_live_139 : m_D k_C_live 139 (.aload_n 0) 1 := (by decide +kernel : decode prog_1_method_69_code 139 = .ok (.aload_n 0, 1))
theorem d_C_live_140 : m_D k_C_live 140 (.getfield 86) 3 := (by decide +kernel : decode prog_1_method_69_code 140 = .ok (.getfield 86, 3))
theorem d_C_live_143 : m_D k_C_live 143 (.iconst 3) 1 := (by decide +kernel : decode prog_1_method_69_code 143 = .ok (.iconst 3, 1))
theorem d_C_live_144 : m_D k_C_live 144 (.iload_n 3) 1 := (by decide +kernel : decode prog_1_method_69_code 144 = .ok (.iload_n 3, 1))
theorem d_C_live_145 : m_D k_C_live 145 (.aload_n 0) 1 := (by decide +kernel : decode prog_1_method_69_code 145 = .ok (.aload_n 0, 1))
theorem d_C_live_146 : m_D k_C_live 146 (.getfield 37) 3 := (by decide +kernel : decode prog_1_method_69_code 146 = .ok (.getfield 37, 3))
theorem d_C_live_149 : m_D k_C_live 149 (.invokevirtual 193) 3 := (by decide +kernel : decode prog_1_method_69_code 149 = .ok (.invokevirtual 193, 3))
theorem d_C_live_152 : m_D k_C_live 152 (.iconst (-1)) 1 := (by decide +kernel : decode prog_1_method_69_code 152 = .ok (.iconst (-1), 1))
theorem d_C_live_153 : m_D k_C_live 153 (.ixor) 1 := (by decide +kernel : decode prog_1_method_69_code 153 = .ok (.ixor, 1))
theorem d_C_live_154 : m_D k_C_live 154 (.iand) 1 := (by decide +kernel : decode prog_1_method_69_code 154 = .ok (.iand, 1))
theorem d_C_live_155 : m_D k_C_live 155 (.invokestatic 374) 3 := (by decide +kernel : decode prog_1_method_69_code 155 = .ok (.invokestatic 374, 3))
theorem d_C_live_158 : m_D k_C_live 158 (.iastore) 1 := (by decide +kernel : decode prog_1_method_69_code 158 = .ok (.iastore, 1))
theorem d_C_live_159 : m_D k_C_live 159 (.aload_n 0) 1 := (by decide +kernel : decode prog_1_method_69_code 159 = .ok (.aload_n 0, 1))
theorem d_C_live_160 : m_D k_C_live 160 (.getfield 86) 3 := (by decide +kernel : decode prog_1_method_69_code 160 = .ok (.getfield 86, 3))
theorem d_C_live_163 : m_D k_C_live 163 (.iconst 4) 1 := (by decide +kernel : decode prog_1_method_69_code 163 = .ok (.iconst 4, 1))
theorem d_C_live_164 : m_D k_C_live 164 (.aload_n 0) 1 := (by decide +kernel : decode prog_1_method_69_code 164 = .ok (.aload_n 0, 1))
theorem d_C_live_165 : m_D k_C_live 165 (.getfield 37) 3 := (by decide +kernel : decode prog_1_method_69_code 165 = .ok (.getfield 37, 3))
theorem d_C_live_168 : m_D k_C_live 168 (.getfield 163) 3 := (by decide +kernel : decode prog_1_method_69_code 168 = .ok (.getfield 163, 3))
theorem d_C_live_171 : m_D k_C_live 171 (.invokevirtual 428) 3 := (by decide +kernel : decode prog_1_method_69_code 171 = .ok (.invokevirtual 428, 3))
theorem d_C_live_174 : m_D k_C_live 174 (.ifCond .eq 7) 3 := (by decide +kernel : decode prog_1_method_69_code 174 = .ok (.ifCond .eq 7, 3))
theorem d_C_live_177 : m_D k_C_live 177 (.iconst 1) 1 := (by decide +kernel : decode prog_1_method_69_code 177 = .ok (.iconst 1, 1))
theorem d_C_live_178 : m_D k_C_live 178 (.goto 4) 3 := (by decide +kernel : decode prog_1_method_69_code 178 = .ok (.goto 4, 3))
theorem d_C_live_181 : m_D k_C_live 181 (.iconst 0) 1 := (by decide +kernel : decode prog_1_method_69_code 181 = .ok (.iconst 0, 1))
theorem d_C_live_182 : m_D k_C_live 182 (.iastore) 1 := (by decide +kernel : decode prog_1_method_69_code 182 = .ok (.iastore, 1))
theorem d_C_live_183 : m_D k_C_live 183 (.aload_n 0) 1 := (by decide +kernel : decode prog_1_method_69_code 183 = .ok (.aload_n 0, 1))
theorem d_C_live_184 : m_D k_C_live 184 (.iconst 1) 1 := (by decide +kernel : decode prog_1_method_69_code 184 = .ok (.iconst 1, 1))
theorem d_C_live_185 : m_D k_C_live 185 (.putfield 90) 3 := (by decide +kernel : decode prog_1_method_69_code 185 = .ok (.putfield 90, 3))
theorem d_C_live_188 : m_D k_C_live 188 (.aload_n 0) 1 := (by decide +kernel : decode prog_1_method_69_code 188 = .ok (.aload_n 0, 1))
theorem d_C_live_189 : m_D k_C_live 189 (.getfield 37) 3 := (by decide +kernel : decode prog_1_method_69_code 189 = .ok (.getfield 37, 3))
theorem d_C_live_192 : m_D k_C_live 192 (.getfield 163) 3 := (by decide +kernel : decode prog_1_method_69_code 192 = .ok (.getfield 163, 3))
theorem d_C_live_195 : m_D k_C_live 195 (.getfield 431) 3 := (by decide +kernel : decode prog_1_method_69_code 195 = .ok (.getfield 431, 3))
theorem d_C_live_198 : m_D k_C_live 198 (.ireturn) 1 := (by decide +kernel : decode prog_1_method_69_code 198 = .ok (.ireturn, 1))
def fn_C_live (x0 : Option mA) (x1 : Int32) : mP Int32 :=
  m_th 0 x0 <|
  m_bd (fn_C_isWithin x1 0 9999) fun v1 =>
  m_bd (α := Int32) (
    if v1 = 0 then
      m_rt 5
    else
      m_bd (m_gR 0 5 x0) fun v2 =>
      m_bd (m_gR 3 9 v2) fun v3 =>
      m_bd (m_gI 6 0 v3) fun v4 =>
      if v4 = 0 then
        m_rt 8
      else
        m_rt 0
    ) fun (t5 : Int32) =>
  m_bd (m_pI 0 0 x0 t5) fun _ =>
  m_bd (m_gI 0 0 x0) fun v6 =>
  if v6 = 0 then
    m_bd (m_gR 0 5 x0) fun v7 =>
    m_bd (fn_Fa_throughSet v7) fun v8 =>
    m_bd (m_gR 0 5 x0) fun v9 =>
    m_bd (fn_Fa_livingSet v9) fun v10 =>
    m_bd (m_gR 0 5 x0) fun v11 =>
    m_bd (m_gI 3 6 v11) fun v12 =>
    m_bd (m_gR 0 5 x0) fun v13 =>
    m_bd (m_gR 3 9 v13) fun v14 =>
    m_bd (m_gR 0 5 x0) fun v15 =>
    m_bd (fn_Pl_run v14 v15 x1) fun _ =>
    m_bd (m_gR 0 14 x0) fun v16 =>
    m_bd (m_gR 0 5 x0) fun v17 =>
    m_bd (m_gR 3 9 v17) fun v18 =>
    m_bd (m_gI 6 8 v18) fun v19 =>
    m_bd (m_tI 0 v16 0 v19) fun _ =>
    m_bd (m_gR 0 14 x0) fun v20 =>
    m_bd (m_gR 0 5 x0) fun v21 =>
    m_bd (m_gI 3 6 v21) fun v22 =>
    m_bd (m_tI 0 v20 1 (v22 - v12)) fun _ =>
    m_bd (m_gR 0 14 x0) fun v23 =>
    m_bd (m_gR 0 5 x0) fun v24 =>
    m_bd (fn_Fa_throughSet v24) fun v25 =>
    m_bd (fn_JI_bitCount (v25 &&& (v8 ^^^ (-1)))) fun v26 =>
    m_bd (m_tI 0 v23 2 v26) fun _ =>
    m_bd (m_gR 0 14 x0) fun v27 =>
    m_bd (m_gR 0 5 x0) fun v28 =>
    m_bd (fn_Fa_livingSet v28) fun v29 =>
    m_bd (fn_JI_bitCount (v10 &&& (v29 ^^^ (-1)))) fun v30 =>
    m_bd (m_tI 0 v27 3 v30) fun _ =>
    m_bd (m_gR 0 14 x0) fun v31 =>
    m_bd (m_gR 0 5 x0) fun v32 =>
    m_bd (m_gR 3 9 v32) fun v33 =>
    m_bd (fn_Pl_isLeft v33) fun v34 =>
    m_bd (α := Int32) (
      if v34 = 0 then
        m_rt 0
      else
        m_rt 1
      ) fun (t35 : Int32) =>
    m_bd (m_tI 0 v31 4 t35) fun _ =>
    m_bd (m_pZ 0 15 x0 1) fun _ =>
    m_bd (m_gR 0 5 x0) fun v36 =>
    m_bd (m_gR 3 9 v36) fun v37 =>
    m_bd (m_gI 6 7 v37) fun v38 =>
    m_rt v38
  else
    m_rt (-1)
set_option maxHeartbeats 4000000 in
set_option maxRecDepth 100000 in
theorem sd_C_live (x0 : Option mA) (x1 : Int32) : m_Sm k_C_live 8 0 0 [.inr (.inr x0), .inl x1] (fn_C_live x0 x1) (fun b => some (.inl b)) := by
  refine ⟨Nat.le_of_ble_eq_true rfl, ?_⟩
  refine sm_th ?_
  refine sm_aload_n (i := 0) (j := 0) (pc' := 1) d_C_live_0 rfl rfl rfl (sm_iload_n (i := 1) (j := 1) (pc' := 2) d_C_live_1 rfl rfl rfl (sm_iconst (pc' := 3) d_C_live_2 rfl ic_0 (sm_sipush (pc' := 6) d_C_live_3 rfl is_9999 ?_)))
  refine sm_callSi (av := [.inl x1, .inl 0, .inl 9999]) (st := [.inr (.inr x0)]) (mc := 0) (ms := 0) (pc' := 9) d_C_live_6 rfl (sd_C_isWithin x1 0 9999) cs_C_isWithin w_ml_C_269 rfl rfl (by decide) (Nat.le_of_ble_eq_true rfl) rfl rfl (fun v1 => ?_)
  refine sm_bd (mid := fun (t5 : Int32) => .inl (35, [(0, .inr (.inr x0)), (1, .inl x1)], [.inl t5, .inr (.inr x0)])) ?_ (fun t5 => ?_)
  · refine sm_if_ne (tgt := 16) (pc' := 12) d_C_live_9 rfl rfl ?_ ?_
    · refine sm_aload_n (i := 0) (j := 0) (pc' := 17) d_C_live_16 rfl rfl rfl ?_
      refine sm_getR (pc' := 20) d_C_live_17 rfl fl_C_37 rfl rfl (fun v2 => ?_)
      refine sm_getR (pc' := 23) d_C_live_20 rfl fl_C_163 rfl rfl (fun v3 => ?_)
      refine sm_getI (pc' := 26) d_C_live_23 rfl fl_C_419 rfl ⟨by decide, by decide⟩ (fun v4 => ?_)
      refine sm_if_eq (tgt := 33) (pc' := 29) d_C_live_26 rfl rfl ?_ ?_
      · refine sm_bipush (pc' := 35) d_C_live_33 rfl ib_8 (sm_sub [0, 1] rfl ?_)
        exact sm_rt rfl
      · refine sm_iconst (pc' := 30) d_C_live_29 rfl ic_0 (sm_goto (tgt := 35) d_C_live_30 rfl (sm_sub [0, 1] rfl ?_))
        exact sm_rt rfl
    · refine sm_iconst (pc' := 13) d_C_live_12 rfl ic_5 (sm_goto (tgt := 35) d_C_live_13 rfl (sm_sub [0, 1] rfl ?_))
      exact sm_rt rfl
  · refine sm_putI (pc' := 38) d_C_live_35 rfl fl_C_9 (Or.inl rfl) rfl (sm_aload_n (i := 0) (j := 0) (pc' := 39) d_C_live_38 rfl rfl rfl ?_)
    refine sm_getI (pc' := 42) d_C_live_39 rfl fl_C_9 rfl ⟨by decide, by decide⟩ (fun v6 => ?_)
    refine sm_if_eq (tgt := 47) (pc' := 45) d_C_live_42 rfl rfl ?_ ?_
    · refine sm_aload_n (i := 0) (j := 0) (pc' := 48) d_C_live_47 rfl rfl rfl ?_
      refine sm_getR (pc' := 51) d_C_live_48 rfl fl_C_37 rfl rfl (fun v7 => ?_)
      refine sm_callVi (ci := 3) (x := v7) (av := []) (st := []) (mc := 0) (ms := 0) (pc' := 54) d_C_live_51 rfl (sd_Fa_throughSet v7) m_lv rfl cv_Fa_throughSet w_ml_C_200 rfl rfl (by decide) (Nat.le_of_ble_eq_true rfl) rfl rfl (fun v8 => ?_)
      refine sm_istore_n (i := 2) (L' := [(2, .inl v8), (0, .inr (.inr x0)), (1, .inl x1)]) (pc' := 55) d_C_live_54 rfl rfl (Nat.le_of_ble_eq_true rfl) rfl (sm_aload_n (i := 0) (j := 1) (pc' := 56) d_C_live_55 rfl rfl rfl ?_)
      refine sm_getR (pc' := 59) d_C_live_56 rfl fl_C_37 rfl rfl (fun v9 => ?_)
      refine sm_callVi (ci := 3) (x := v9) (av := []) (st := []) (mc := 0) (ms := 0) (pc' := 62) d_C_live_59 rfl (sd_Fa_livingSet v9) m_lv rfl cv_Fa_livingSet w_ml_C_193 rfl rfl (by decide) (Nat.le_of_ble_eq_true rfl) rfl rfl (fun v10 => ?_)
      refine sm_istore_n (i := 3) (L' := [(3, .inl v10), (2, .inl v8), (0, .inr (.inr x0)), (1, .inl x1)]) (pc' := 63) d_C_live_62 rfl rfl (Nat.le_of_ble_eq_true rfl) rfl (sm_aload_n (i := 0) (j := 2) (pc' := 64) d_C_live_63 rfl rfl rfl ?_)
      refine sm_getR (pc' := 67) d_C_live_64 rfl fl_C_37 rfl rfl (fun v11 => ?_)
      refine sm_getI (pc' := 70) d_C_live_67 rfl fl_C_190 rfl ⟨by decide, by decide⟩ (fun v12 => ?_)
      refine sm_istore (L' := [(4, .inl v12), (3, .inl v10), (2, .inl v8), (0, .inr (.inr x0)), (1, .inl x1)]) (pc' := 72) d_C_live_70 rfl (Nat.le_of_ble_eq_true rfl) rfl (sm_aload_n (i := 0) (j := 3) (pc' := 73) d_C_live_72 rfl rfl rfl ?_)
      refine sm_getR (pc' := 76) d_C_live_73 rfl fl_C_37 rfl rfl (fun v13 => ?_)
      refine sm_getR (pc' := 79) d_C_live_76 rfl fl_C_163 rfl rfl (fun v14 => ?_)
      refine sm_aload_n (i := 0) (j := 3) (pc' := 80) d_C_live_79 rfl rfl rfl ?_
      refine sm_getR (pc' := 83) d_C_live_80 rfl fl_C_37 rfl rfl (fun v15 => ?_)
      refine sm_iload_n (i := 1) (j := 4) (pc' := 84) d_C_live_83 rfl rfl rfl ?_
      refine sm_callVv (ci := 6) (x := v14) (av := [.inr (.inr v15), .inl x1]) (st := []) (mc := 0) (ms := 0) (pc' := 87) d_C_live_84 rfl (sd_Pl_run v14 v15 x1) m_lv rfl cv_Pl_run w_ml_C_422 rfl rfl (by decide) (Nat.le_of_ble_eq_true rfl) rfl rfl ?_
      refine sm_aload_n (i := 0) (j := 3) (pc' := 88) d_C_live_87 rfl rfl rfl ?_
      refine sm_getR (pc' := 91) d_C_live_88 rfl fl_C_86 rfl rfl (fun v16 => ?_)
      refine sm_iconst (pc' := 92) d_C_live_91 rfl ic_0 (sm_aload_n (i := 0) (j := 3) (pc' := 93) d_C_live_92 rfl rfl rfl ?_)
      refine sm_getR (pc' := 96) d_C_live_93 rfl fl_C_37 rfl rfl (fun v17 => ?_)
      refine sm_getR (pc' := 99) d_C_live_96 rfl fl_C_163 rfl rfl (fun v18 => ?_)
      refine sm_getI (pc' := 102) d_C_live_99 rfl fl_C_425 rfl ⟨by decide, by decide⟩ (fun v19 => ?_)
      refine sm_iast (pc' := 103) d_C_live_102 rfl (sm_aload_n (i := 0) (j := 3) (pc' := 104) d_C_live_103 rfl rfl rfl ?_)
      refine sm_getR (pc' := 107) d_C_live_104 rfl fl_C_86 rfl rfl (fun v20 => ?_)
      refine sm_iconst (pc' := 108) d_C_live_107 rfl ic_1 (sm_aload_n (i := 0) (j := 3) (pc' := 109) d_C_live_108 rfl rfl rfl ?_)
      refine sm_getR (pc' := 112) d_C_live_109 rfl fl_C_37 rfl rfl (fun v21 => ?_)
      refine sm_getI (pc' := 115) d_C_live_112 rfl fl_C_190 rfl ⟨by decide, by decide⟩ (fun v22 => ?_)
      refine sm_iload (j := 0) (pc' := 117) d_C_live_115 rfl rfl (sm_isub (pc' := 118) d_C_live_117 rfl (sm_iast (pc' := 119) d_C_live_118 rfl (sm_aload_n (i := 0) (j := 3) (pc' := 120) d_C_live_119 rfl rfl rfl ?_)))
      refine sm_getR (pc' := 123) d_C_live_120 rfl fl_C_86 rfl rfl (fun v23 => ?_)
      refine sm_iconst (pc' := 124) d_C_live_123 rfl ic_2 (sm_aload_n (i := 0) (j := 3) (pc' := 125) d_C_live_124 rfl rfl rfl ?_)
      refine sm_getR (pc' := 128) d_C_live_125 rfl fl_C_37 rfl rfl (fun v24 => ?_)
      refine sm_callVi (ci := 3) (x := v24) (av := []) (st := [.inl 2, .inr (.inr v23)]) (mc := 0) (ms := 0) (pc' := 131) d_C_live_128 rfl (sd_Fa_throughSet v24) m_lv rfl cv_Fa_throughSet w_ml_C_200 rfl rfl (by decide) (Nat.le_of_ble_eq_true rfl) rfl rfl (fun v25 => ?_)
      refine sm_iload_n (i := 2) (j := 2) (pc' := 132) d_C_live_131 rfl rfl rfl (sm_iconst (pc' := 133) d_C_live_132 rfl ic_m1 (sm_ixor (pc' := 134) d_C_live_133 rfl (sm_iand (pc' := 135) d_C_live_134 rfl ?_)))
      refine sm_callSi (av := [.inl (v25 &&& (v8 ^^^ (-1)))]) (st := [.inl 2, .inr (.inr v23)]) (mc := 0) (ms := 0) (pc' := 138) d_C_live_135 rfl (sd_JI_bitCount (v25 &&& (v8 ^^^ (-1)))) cs_JI_bitCount w_ml_C_374 rfl rfl (by decide) (Nat.le_of_ble_eq_true rfl) rfl rfl (fun v26 => ?_)
      refine sm_iast (pc' := 139) d_C_live_138 rfl (sm_aload_n (i := 0) (j := 3) (pc' := 140) d_C_live_139 rfl rfl rfl ?_)
      refine sm_getR (pc' := 143) d_C_live_140 rfl fl_C_86 rfl rfl (fun v27 => ?_)
      refine sm_iconst (pc' := 144) d_C_live_143 rfl ic_3 (sm_iload_n (i := 3) (j := 1) (pc' := 145) d_C_live_144 rfl rfl rfl (sm_aload_n (i := 0) (j := 3) (pc' := 146) d_C_live_145 rfl rfl rfl ?_))
      refine sm_getR (pc' := 149) d_C_live_146 rfl fl_C_37 rfl rfl (fun v28 => ?_)
      refine sm_callVi (ci := 3) (x := v28) (av := []) (st := [.inl v10, .inl 3, .inr (.inr v27)]) (mc := 0) (ms := 0) (pc' := 152) d_C_live_149 rfl (sd_Fa_livingSet v28) m_lv rfl cv_Fa_livingSet w_ml_C_193 rfl rfl (by decide) (Nat.le_of_ble_eq_true rfl) rfl rfl (fun v29 => ?_)
      refine sm_iconst (pc' := 153) d_C_live_152 rfl ic_m1 (sm_ixor (pc' := 154) d_C_live_153 rfl (sm_iand (pc' := 155) d_C_live_154 rfl ?_))
      refine sm_callSi (av := [.inl (v10 &&& (v29 ^^^ (-1)))]) (st := [.inl 3, .inr (.inr v27)]) (mc := 0) (ms := 0) (pc' := 158) d_C_live_155 rfl (sd_JI_bitCount (v10 &&& (v29 ^^^ (-1)))) cs_JI_bitCount w_ml_C_374 rfl rfl (by decide) (Nat.le_of_ble_eq_true rfl) rfl rfl (fun v30 => ?_)
      refine sm_iast (pc' := 159) d_C_live_158 rfl (sm_aload_n (i := 0) (j := 3) (pc' := 160) d_C_live_159 rfl rfl rfl ?_)
      refine sm_getR (pc' := 163) d_C_live_160 rfl fl_C_86 rfl rfl (fun v31 => ?_)
      refine sm_iconst (pc' := 164) d_C_live_163 rfl ic_4 (sm_aload_n (i := 0) (j := 3) (pc' := 165) d_C_live_164 rfl rfl rfl ?_)
      refine sm_getR (pc' := 168) d_C_live_165 rfl fl_C_37 rfl rfl (fun v32 => ?_)
      refine sm_getR (pc' := 171) d_C_live_168 rfl fl_C_163 rfl rfl (fun v33 => ?_)
      refine sm_callVi (ci := 6) (x := v33) (av := []) (st := [.inl 4, .inr (.inr v31)]) (mc := 0) (ms := 0) (pc' := 174) d_C_live_171 rfl (sd_Pl_isLeft v33) m_lv rfl cv_Pl_isLeft w_ml_C_428 rfl rfl (by decide) (Nat.le_of_ble_eq_true rfl) rfl rfl (fun v34 => ?_)
      refine sm_bd (mid := fun (t35 : Int32) => .inl (182, [(0, .inr (.inr x0))], [.inl t35, .inl 4, .inr (.inr v31)])) ?_ (fun t35 => ?_)
      · refine sm_if_eq (tgt := 181) (pc' := 177) d_C_live_174 rfl rfl ?_ ?_
        · refine sm_iconst (pc' := 182) d_C_live_181 rfl ic_0 (sm_sub [3] rfl ?_)
          exact sm_rt rfl
        · refine sm_iconst (pc' := 178) d_C_live_177 rfl ic_1 (sm_goto (tgt := 182) d_C_live_178 rfl (sm_sub [3] rfl ?_))
          exact sm_rt rfl
      · refine sm_iast (pc' := 183) d_C_live_182 rfl (sm_aload_n (i := 0) (j := 0) (pc' := 184) d_C_live_183 rfl rfl rfl (sm_iconst (pc' := 185) d_C_live_184 rfl ic_1 (sm_putZ (pc' := 188) d_C_live_185 rfl fl_C_90 (Or.inl rfl) rfl (sm_aload_n (i := 0) (j := 0) (pc' := 189) d_C_live_188 rfl rfl rfl ?_))))
        refine sm_getR (pc' := 192) d_C_live_189 rfl fl_C_37 rfl rfl (fun v36 => ?_)
        refine sm_getR (pc' := 195) d_C_live_192 rfl fl_C_163 rfl rfl (fun v37 => ?_)
        refine sm_getI (pc' := 198) d_C_live_195 rfl fl_C_431 rfl ⟨by decide, by decide⟩ (fun v38 => ?_)
        exact sm_ireturn d_C_live_198 rfl rfl
    · refine sm_iconst (pc' := 46) d_C_live_45 rfl ic_m1 ?_
      exact sm_ireturn d_C_live_46 rfl rfl
theorem d_C_lived_0 : m_D k_C_lived 0 (.aload_n 0) 1 := (by decide +kernel : decode prog_1_method_70_code 0 = .ok (.aload_n 0, 1))
theorem d_C_lived_1 : m_D k_C_lived 1 (.iload_n 1) 1 := (by decide +kernel : decode prog_1_method_70_code 1 = .ok (.iload_n 1, 1))
theorem d_C_lived_2 : m_D k_C_lived 2 (.iconst 0) 1 := (by decide +kernel : decode prog_1_method_70_code 2 = .ok (.iconst 0, 1))
theorem d_C_lived_3 : m_D k_C_lived 3 (.iconst 4) 1 := (by decide +kernel : decode prog_1_method_70_code 3 = .ok (.iconst 4, 1))
theorem d_C_lived_4 : m_D k_C_lived 4 (.invokestatic 269) 3 := (by decide +kernel : decode prog_1_method_70_code 4 = .ok (.invokestatic 269, 3))
theorem d_C_lived_7 : m_D k_C_lived 7 (.ifCond .ne 7) 3 := (by decide +kernel : decode prog_1_method_70_code 7 = .ok (.ifCond .ne 7, 3))
theorem d_C_lived_10 : m_D k_C_lived 10 (.iconst 5) 1 := (by decide +kernel : decode prog_1_method_70_code 10 = .ok (.iconst 5, 1))
theorem d_C_lived_11 : m_D k_C_lived 11 (.goto 16) 3 := (by decide +kernel : decode prog_1_method_70_code 11 = .ok (.goto 16, 3))
theorem d_C_lived_14 : m_D k_C_lived 14 (.aload_n 0) 1 := (by decide +kernel : decode prog_1_method_70_code 14 = .ok (.aload_n 0, 1))
theorem d_C_lived_15 : m_D k_C_lived 15 (.getfield 90) 3 := (by decide +kernel : decode prog_1_method_70_code 15 = .ok (.getfield 90, 3))
theorem d_C_lived_18 : m_D k_C_lived 18 (.ifCond .eq 7) 3 := (by decide +kernel : decode prog_1_method_70_code 18 = .ok (.ifCond .eq 7, 3))
theorem d_C_lived_21 : m_D k_C_lived 21 (.iconst 0) 1 := (by decide +kernel : decode prog_1_method_70_code 21 = .ok (.iconst 0, 1))
theorem d_C_lived_22 : m_D k_C_lived 22 (.goto 5) 3 := (by decide +kernel : decode prog_1_method_70_code 22 = .ok (.goto 5, 3))
theorem d_C_lived_25 : m_D k_C_lived 25 (.bipush 8) 2 := (by decide +kernel : decode prog_1_method_70_code 25 = .ok (.bipush 8, 2))
theorem d_C_lived_27 : m_D k_C_lived 27 (.putfield 9) 3 := (by decide +kernel : decode prog_1_method_70_code 27 = .ok (.putfield 9, 3))
theorem d_C_lived_30 : m_D k_C_lived 30 (.aload_n 0) 1 := (by decide +kernel : decode prog_1_method_70_code 30 = .ok (.aload_n 0, 1))
theorem d_C_lived_31 : m_D k_C_lived 31 (.getfield 9) 3 := (by decide +kernel : decode prog_1_method_70_code 31 = .ok (.getfield 9, 3))
theorem d_C_lived_34 : m_D k_C_lived 34 (.ifCond .eq 5) 3 := (by decide +kernel : decode prog_1_method_70_code 34 = .ok (.ifCond .eq 5, 3))
theorem d_C_lived_37 : m_D k_C_lived 37 (.iconst (-1)) 1 := (by decide +kernel : decode prog_1_method_70_code 37 = .ok (.iconst (-1), 1))
theorem d_C_lived_38 : m_D k_C_lived 38 (.ireturn) 1 := (by decide +kernel : decode prog_1_method_70_code 38 = .ok (.ireturn, 1))
theorem d_C_lived_39 : m_D k_C_lived 39 (.aload_n 0) 1 := (by decide +kernel : decode prog_1_method_70_code 39 = .ok (.aload_n 0, 1))
theorem d_C_lived_40 : m_D k_C_lived 40 (.getfield 86) 3 := (by decide +kernel : decode prog_1_method_70_code 40 = .ok (.getfield 86, 3))
theorem d_C_lived_43 : m_D k_C_lived 43 (.iload_n 1) 1 := (by decide +kernel : decode prog_1_method_70_code 43 = .ok (.iload_n 1, 1))
theorem d_C_lived_44 : m_D k_C_lived 44 (.iaload) 1 := (by decide +kernel : decode prog_1_method_70_code 44 = .ok (.iaload, 1))
theorem d_C_lived_45 : m_D k_C_lived 45 (.ireturn) 1 := (by decide +kernel : decode prog_1_method_70_code 45 = .ok (.ireturn, 1))
def fn_C_lived (x0 : Option mA) (x1 : Int32) : mP Int32 :=
  m_th 0 x0 <|
  m_bd (fn_C_isWithin x1 0 4) fun v1 =>
  m_bd (α := Int32) (
    if v1 = 0 then
      m_rt 5
    else
      m_bd (m_gI 0 15 x0) fun v2 =>
      if v2 = 0 then
        m_rt 8
      else
        m_rt 0
    ) fun (t3 : Int32) =>
  m_bd (m_pI 0 0 x0 t3) fun _ =>
  m_bd (m_gI 0 0 x0) fun v4 =>
  if v4 = 0 then
    m_bd (m_gR 0 14 x0) fun v5 =>
    m_bd (m_aI 0 v5 x1) fun v6 =>
    m_rt v6
  else
    m_rt (-1)
set_option maxHeartbeats 4000000 in
set_option maxRecDepth 100000 in
theorem sd_C_lived (x0 : Option mA) (x1 : Int32) : m_Sm k_C_lived 2 0 0 [.inr (.inr x0), .inl x1] (fn_C_lived x0 x1) (fun b => some (.inl b)) := by
  refine ⟨Nat.le_of_ble_eq_true rfl, ?_⟩
  refine sm_th ?_
  refine sm_aload_n (i := 0) (j := 0) (pc' := 1) d_C_lived_0 rfl rfl rfl (sm_iload_n (i := 1) (j := 1) (pc' := 2) d_C_lived_1 rfl rfl rfl (sm_iconst (pc' := 3) d_C_lived_2 rfl ic_0 (sm_iconst (pc' := 4) d_C_lived_3 rfl ic_4 ?_)))
  refine sm_callSi (av := [.inl x1, .inl 0, .inl 4]) (st := [.inr (.inr x0)]) (mc := 0) (ms := 0) (pc' := 7) d_C_lived_4 rfl (sd_C_isWithin x1 0 4) cs_C_isWithin w_ml_C_269 rfl rfl (by decide) (Nat.le_of_ble_eq_true rfl) rfl rfl (fun v1 => ?_)
  refine sm_bd (mid := fun (t3 : Int32) => .inl (27, [(0, .inr (.inr x0)), (1, .inl x1)], [.inl t3, .inr (.inr x0)])) ?_ (fun t3 => ?_)
  · refine sm_if_ne (tgt := 14) (pc' := 10) d_C_lived_7 rfl rfl ?_ ?_
    · refine sm_aload_n (i := 0) (j := 0) (pc' := 15) d_C_lived_14 rfl rfl rfl ?_
      refine sm_getI (pc' := 18) d_C_lived_15 rfl fl_C_90 rfl ⟨by decide, by decide⟩ (fun v2 => ?_)
      refine sm_if_eq (tgt := 25) (pc' := 21) d_C_lived_18 rfl rfl ?_ ?_
      · refine sm_bipush (pc' := 27) d_C_lived_25 rfl ib_8 (sm_sub [0, 1] rfl ?_)
        exact sm_rt rfl
      · refine sm_iconst (pc' := 22) d_C_lived_21 rfl ic_0 (sm_goto (tgt := 27) d_C_lived_22 rfl (sm_sub [0, 1] rfl ?_))
        exact sm_rt rfl
    · refine sm_iconst (pc' := 11) d_C_lived_10 rfl ic_5 (sm_goto (tgt := 27) d_C_lived_11 rfl (sm_sub [0, 1] rfl ?_))
      exact sm_rt rfl
  · refine sm_putI (pc' := 30) d_C_lived_27 rfl fl_C_9 (Or.inl rfl) rfl (sm_aload_n (i := 0) (j := 0) (pc' := 31) d_C_lived_30 rfl rfl rfl ?_)
    refine sm_getI (pc' := 34) d_C_lived_31 rfl fl_C_9 rfl ⟨by decide, by decide⟩ (fun v4 => ?_)
    refine sm_if_eq (tgt := 39) (pc' := 37) d_C_lived_34 rfl rfl ?_ ?_
    · refine sm_aload_n (i := 0) (j := 0) (pc' := 40) d_C_lived_39 rfl rfl rfl ?_
      refine sm_getR (pc' := 43) d_C_lived_40 rfl fl_C_86 rfl rfl (fun v5 => ?_)
      refine sm_iload_n (i := 1) (j := 1) (pc' := 44) d_C_lived_43 rfl rfl rfl ?_
      refine sm_iald (pc' := 45) d_C_lived_44 rfl (fun v6 => ?_)
      exact sm_ireturn d_C_lived_45 rfl rfl
    · refine sm_iconst (pc' := 38) d_C_lived_37 rfl ic_m1 ?_
      exact sm_ireturn d_C_lived_38 rfl rfl
theorem d_Pe_copyFrom_0 : m_D k_Pe_copyFrom 0 (.aload_n 0) 1 := (by decide +kernel : decode prog_6_method_2_code 0 = .ok (.aload_n 0, 1))
theorem d_Pe_copyFrom_1 : m_D k_Pe_copyFrom 1 (.aload_n 1) 1 := (by decide +kernel : decode prog_6_method_2_code 1 = .ok (.aload_n 1, 1))
theorem d_Pe_copyFrom_2 : m_D k_Pe_copyFrom 2 (.getfield 15) 3 := (by decide +kernel : decode prog_6_method_2_code 2 = .ok (.getfield 15, 3))
theorem d_Pe_copyFrom_5 : m_D k_Pe_copyFrom 5 (.putfield 15) 3 := (by decide +kernel : decode prog_6_method_2_code 5 = .ok (.putfield 15, 3))
theorem d_Pe_copyFrom_8 : m_D k_Pe_copyFrom 8 (.aload_n 0) 1 := (by decide +kernel : decode prog_6_method_2_code 8 = .ok (.aload_n 0, 1))
theorem d_Pe_copyFrom_9 : m_D k_Pe_copyFrom 9 (.aload_n 1) 1 := (by decide +kernel : decode prog_6_method_2_code 9 = .ok (.aload_n 1, 1))
theorem d_Pe_copyFrom_10 : m_D k_Pe_copyFrom 10 (.getfield 19) 3 := (by decide +kernel : decode prog_6_method_2_code 10 = .ok (.getfield 19, 3))
theorem d_Pe_copyFrom_13 : m_D k_Pe_copyFrom 13 (.putfield 19) 3 := (by decide +kernel : decode prog_6_method_2_code 13 = .ok (.putfield 19, 3))
theorem d_Pe_copyFrom_16 : m_D k_Pe_copyFrom 16 (.aload_n 0) 1 := (by decide +kernel : decode prog_6_method_2_code 16 = .ok (.aload_n 0, 1))
theorem d_Pe_copyFrom_17 : m_D k_Pe_copyFrom 17 (.aload_n 1) 1 := (by decide +kernel : decode prog_6_method_2_code 17 = .ok (.aload_n 1, 1))
theorem d_Pe_copyFrom_18 : m_D k_Pe_copyFrom 18 (.getfield 23) 3 := (by decide +kernel : decode prog_6_method_2_code 18 = .ok (.getfield 23, 3))
theorem d_Pe_copyFrom_21 : m_D k_Pe_copyFrom 21 (.putfield 23) 3 := (by decide +kernel : decode prog_6_method_2_code 21 = .ok (.putfield 23, 3))
theorem d_Pe_copyFrom_24 : m_D k_Pe_copyFrom 24 (.aload_n 0) 1 := (by decide +kernel : decode prog_6_method_2_code 24 = .ok (.aload_n 0, 1))
theorem d_Pe_copyFrom_25 : m_D k_Pe_copyFrom 25 (.aload_n 1) 1 := (by decide +kernel : decode prog_6_method_2_code 25 = .ok (.aload_n 1, 1))
theorem d_Pe_copyFrom_26 : m_D k_Pe_copyFrom 26 (.getfield 27) 3 := (by decide +kernel : decode prog_6_method_2_code 26 = .ok (.getfield 27, 3))
theorem d_Pe_copyFrom_29 : m_D k_Pe_copyFrom 29 (.putfield 27) 3 := (by decide +kernel : decode prog_6_method_2_code 29 = .ok (.putfield 27, 3))
theorem d_Pe_copyFrom_32 : m_D k_Pe_copyFrom 32 (.aload_n 1) 1 := (by decide +kernel : decode prog_6_method_2_code 32 = .ok (.aload_n 1, 1))
theorem d_Pe_copyFrom_33 : m_D k_Pe_copyFrom 33 (.getfield 9) 3 := (by decide +kernel : decode prog_6_method_2_code 33 = .ok (.getfield 9, 3))
theorem d_Pe_copyFrom_36 : m_D k_Pe_copyFrom 36 (.iconst 0) 1 := (by decide +kernel : decode prog_6_method_2_code 36 = .ok (.iconst 0, 1))
theorem d_Pe_copyFrom_37 : m_D k_Pe_copyFrom 37 (.aload_n 0) 1 := (by decide +kernel : decode prog_6_method_2_code 37 = .ok (.aload_n 0, 1))
theorem d_Pe_copyFrom_38 : m_D k_Pe_copyFrom 38 (.getfield 9) 3 := (by decide +kernel : decode prog_6_method_2_code 38 = .ok (.getfield 9, 3))
theorem d_Pe_copyFrom_41 : m_D k_Pe_copyFrom 41 (.iconst 0) 1 := (by decide +kernel : decode prog_6_method_2_code 41 = .ok (.iconst 0, 1))
theorem d_Pe_copyFrom_42 : m_D k_Pe_copyFrom 42 (.bipush 8) 2 := (by decide +kernel : decode prog_6_method_2_code 42 = .ok (.bipush 8, 2))
theorem d_Pe_copyFrom_44 : m_D k_Pe_copyFrom 44 (.invokestatic 30) 3 := (by decide +kernel : decode prog_6_method_2_code 44 = .ok (.invokestatic 30, 3))
theorem d_Pe_copyFrom_47 : m_D k_Pe_copyFrom 47 (.return_) 1 := (by decide +kernel : decode prog_6_method_2_code 47 = .ok (.return_, 1))
def fn_Pe_copyFrom (x0 : Option mA) (x1 : Option mA) : mP Unit :=
  m_th 4 x0 <|
  m_bd (m_gJ 4 0 x1) fun v1 =>
  m_bd (m_pJ 4 0 x0 v1) fun _ =>
  m_bd (m_gI 4 1 x1) fun v2 =>
  m_bd (m_pI 4 1 x0 v2) fun _ =>
  m_bd (m_gI 4 2 x1) fun v3 =>
  m_bd (m_pZ 4 2 x0 v3) fun _ =>
  m_bd (m_gI 4 3 x1) fun v4 =>
  m_bd (m_pZ 4 3 x0 v4) fun _ =>
  m_bd (m_gR 4 4 x1) fun v5 =>
  m_bd (m_gR 4 4 x0) fun v6 =>
  m_bd (m_cpI v5 0 v6 0 8) fun _ =>
  m_rt ()
set_option maxHeartbeats 4000000 in
set_option maxRecDepth 100000 in
theorem sd_Pe_copyFrom (x0 : Option mA) (x1 : Option mA) : m_Sm k_Pe_copyFrom 1 0 0 [.inr (.inr x0), .inr (.inr x1)] (fn_Pe_copyFrom x0 x1) (fun _ => none) := by
  refine ⟨Nat.le_of_ble_eq_true rfl, ?_⟩
  refine sm_th ?_
  refine sm_aload_n (i := 0) (j := 0) (pc' := 1) d_Pe_copyFrom_0 rfl rfl rfl (sm_aload_n (i := 1) (j := 1) (pc' := 2) d_Pe_copyFrom_1 rfl rfl rfl ?_)
  refine sm_getJ (pc' := 5) d_Pe_copyFrom_2 rfl fl_Pe_15 rfl rfl (fun v1 => ?_)
  refine sm_putJ (pc' := 8) d_Pe_copyFrom_5 rfl fl_Pe_15 (Or.inl rfl) rfl (sm_aload_n (i := 0) (j := 0) (pc' := 9) d_Pe_copyFrom_8 rfl rfl rfl (sm_aload_n (i := 1) (j := 1) (pc' := 10) d_Pe_copyFrom_9 rfl rfl rfl ?_))
  refine sm_getI (pc' := 13) d_Pe_copyFrom_10 rfl fl_Pe_19 rfl ⟨by decide, by decide⟩ (fun v2 => ?_)
  refine sm_putI (pc' := 16) d_Pe_copyFrom_13 rfl fl_Pe_19 (Or.inl rfl) rfl (sm_aload_n (i := 0) (j := 0) (pc' := 17) d_Pe_copyFrom_16 rfl rfl rfl (sm_aload_n (i := 1) (j := 1) (pc' := 18) d_Pe_copyFrom_17 rfl rfl rfl ?_))
  refine sm_getI (pc' := 21) d_Pe_copyFrom_18 rfl fl_Pe_23 rfl ⟨by decide, by decide⟩ (fun v3 => ?_)
  refine sm_putZ (pc' := 24) d_Pe_copyFrom_21 rfl fl_Pe_23 (Or.inl rfl) rfl (sm_aload_n (i := 0) (j := 0) (pc' := 25) d_Pe_copyFrom_24 rfl rfl rfl (sm_aload_n (i := 1) (j := 1) (pc' := 26) d_Pe_copyFrom_25 rfl rfl rfl ?_))
  refine sm_getI (pc' := 29) d_Pe_copyFrom_26 rfl fl_Pe_27 rfl ⟨by decide, by decide⟩ (fun v4 => ?_)
  refine sm_putZ (pc' := 32) d_Pe_copyFrom_29 rfl fl_Pe_27 (Or.inl rfl) rfl (sm_aload_n (i := 1) (j := 1) (pc' := 33) d_Pe_copyFrom_32 rfl rfl rfl ?_)
  refine sm_getR (pc' := 36) d_Pe_copyFrom_33 rfl fl_Pe_9 rfl rfl (fun v5 => ?_)
  refine sm_iconst (pc' := 37) d_Pe_copyFrom_36 rfl ic_0 (sm_aload_n (i := 0) (j := 0) (pc' := 38) d_Pe_copyFrom_37 rfl rfl rfl ?_)
  refine sm_getR (pc' := 41) d_Pe_copyFrom_38 rfl fl_Pe_9 rfl rfl (fun v6 => ?_)
  refine sm_iconst (pc' := 42) d_Pe_copyFrom_41 rfl ic_0 (sm_bipush (pc' := 44) d_Pe_copyFrom_42 rfl ib_8 (sm_cpI (pc' := 47) d_Pe_copyFrom_44 rfl w_ml_Pe_30 w_na_java_lang_System_arraycopy w_st_java_lang_System_arraycopy w_in_java_lang_System (by decide) rfl ?_))
  exact sm_return d_Pe_copyFrom_47 rfl rfl
theorem d_Fa_copyPeopleAndThings_0 : m_D k_Fa_copyPeopleAndThings 0 (.aload_n 0) 1 := (by decide +kernel : decode prog_3_method_2_code 0 = .ok (.aload_n 0, 1))
theorem d_Fa_copyPeopleAndThings_1 : m_D k_Fa_copyPeopleAndThings 1 (.aload_n 1) 1 := (by decide +kernel : decode prog_3_method_2_code 1 = .ok (.aload_n 1, 1))
theorem d_Fa_copyPeopleAndThings_2 : m_D k_Fa_copyPeopleAndThings 2 (.getfield 45) 3 := (by decide +kernel : decode prog_3_method_2_code 2 = .ok (.getfield 45, 3))
theorem d_Fa_copyPeopleAndThings_5 : m_D k_Fa_copyPeopleAndThings 5 (.putfield 45) 3 := (by decide +kernel : decode prog_3_method_2_code 5 = .ok (.putfield 45, 3))
theorem d_Fa_copyPeopleAndThings_8 : m_D k_Fa_copyPeopleAndThings 8 (.aload_n 0) 1 := (by decide +kernel : decode prog_3_method_2_code 8 = .ok (.aload_n 0, 1))
theorem d_Fa_copyPeopleAndThings_9 : m_D k_Fa_copyPeopleAndThings 9 (.aload_n 1) 1 := (by decide +kernel : decode prog_3_method_2_code 9 = .ok (.aload_n 1, 1))
theorem d_Fa_copyPeopleAndThings_10 : m_D k_Fa_copyPeopleAndThings 10 (.getfield 48) 3 := (by decide +kernel : decode prog_3_method_2_code 10 = .ok (.getfield 48, 3))
theorem d_Fa_copyPeopleAndThings_13 : m_D k_Fa_copyPeopleAndThings 13 (.putfield 48) 3 := (by decide +kernel : decode prog_3_method_2_code 13 = .ok (.putfield 48, 3))
theorem d_Fa_copyPeopleAndThings_16 : m_D k_Fa_copyPeopleAndThings 16 (.aload_n 0) 1 := (by decide +kernel : decode prog_3_method_2_code 16 = .ok (.aload_n 0, 1))
theorem d_Fa_copyPeopleAndThings_17 : m_D k_Fa_copyPeopleAndThings 17 (.aload_n 1) 1 := (by decide +kernel : decode prog_3_method_2_code 17 = .ok (.aload_n 1, 1))
theorem d_Fa_copyPeopleAndThings_18 : m_D k_Fa_copyPeopleAndThings 18 (.getfield 11) 3 := (by decide +kernel : decode prog_3_method_2_code 18 = .ok (.getfield 11, 3))
theorem d_Fa_copyPeopleAndThings_21 : m_D k_Fa_copyPeopleAndThings 21 (.putfield 11) 3 := (by decide +kernel : decode prog_3_method_2_code 21 = .ok (.putfield 11, 3))
theorem d_Fa_copyPeopleAndThings_24 : m_D k_Fa_copyPeopleAndThings 24 (.aload_n 0) 1 := (by decide +kernel : decode prog_3_method_2_code 24 = .ok (.aload_n 0, 1))
theorem d_Fa_copyPeopleAndThings_25 : m_D k_Fa_copyPeopleAndThings 25 (.aload_n 1) 1 := (by decide +kernel : decode prog_3_method_2_code 25 = .ok (.aload_n 1, 1))
theorem d_Fa_copyPeopleAndThings_26 : m_D k_Fa_copyPeopleAndThings 26 (.getfield 15) 3 := (by decide +kernel : decode prog_3_method_2_code 26 = .ok (.getfield 15, 3))
theorem d_Fa_copyPeopleAndThings_29 : m_D k_Fa_copyPeopleAndThings 29 (.putfield 15) 3 := (by decide +kernel : decode prog_3_method_2_code 29 = .ok (.putfield 15, 3))
theorem d_Fa_copyPeopleAndThings_32 : m_D k_Fa_copyPeopleAndThings 32 (.aload_n 0) 1 := (by decide +kernel : decode prog_3_method_2_code 32 = .ok (.aload_n 0, 1))
theorem d_Fa_copyPeopleAndThings_33 : m_D k_Fa_copyPeopleAndThings 33 (.aload_n 1) 1 := (by decide +kernel : decode prog_3_method_2_code 33 = .ok (.aload_n 1, 1))
theorem d_Fa_copyPeopleAndThings_34 : m_D k_Fa_copyPeopleAndThings 34 (.getfield 18) 3 := (by decide +kernel : decode prog_3_method_2_code 34 = .ok (.getfield 18, 3))
theorem d_Fa_copyPeopleAndThings_37 : m_D k_Fa_copyPeopleAndThings 37 (.putfield 18) 3 := (by decide +kernel : decode prog_3_method_2_code 37 = .ok (.putfield 18, 3))
theorem d_Fa_copyPeopleAndThings_40 : m_D k_Fa_copyPeopleAndThings 40 (.aload_n 0) 1 := (by decide +kernel : decode prog_3_method_2_code 40 = .ok (.aload_n 0, 1))
theorem d_Fa_copyPeopleAndThings_41 : m_D k_Fa_copyPeopleAndThings 41 (.aload_n 1) 1 := (by decide +kernel : decode prog_3_method_2_code 41 = .ok (.aload_n 1, 1))
theorem d_Fa_copyPeopleAndThings_42 : m_D k_Fa_copyPeopleAndThings 42 (.getfield 21) 3 := (by decide +kernel : decode prog_3_method_2_code 42 = .ok (.getfield 21, 3))
theorem d_Fa_copyPeopleAndThings_45 : m_D k_Fa_copyPeopleAndThings 45 (.putfield 21) 3 := (by decide +kernel : decode prog_3_method_2_code 45 = .ok (.putfield 21, 3))
theorem d_Fa_copyPeopleAndThings_48 : m_D k_Fa_copyPeopleAndThings 48 (.aload_n 0) 1 := (by decide +kernel : decode prog_3_method_2_code 48 = .ok (.aload_n 0, 1))
theorem d_Fa_copyPeopleAndThings_49 : m_D k_Fa_copyPeopleAndThings 49 (.aload_n 1) 1 := (by decide +kernel : decode prog_3_method_2_code 49 = .ok (.aload_n 1, 1))
theorem d_Fa_copyPeopleAndThings_50 : m_D k_Fa_copyPeopleAndThings 50 (.getfield 51) 3 := (by decide +kernel : decode prog_3_method_2_code 50 = .ok (.getfield 51, 3))
theorem d_Fa_copyPeopleAndThings_53 : m_D k_Fa_copyPeopleAndThings 53 (.putfield 51) 3 := (by decide +kernel : decode prog_3_method_2_code 53 = .ok (.putfield 51, 3))
theorem d_Fa_copyPeopleAndThings_56 : m_D k_Fa_copyPeopleAndThings 56 (.iconst 0) 1 := (by decide +kernel : decode prog_3_method_2_code 56 = .ok (.iconst 0, 1))
theorem d_Fa_copyPeopleAndThings_57 : m_D k_Fa_copyPeopleAndThings 57 (.istore_n 2) 1 := (by decide +kernel : decode prog_3_method_2_code 57 = .ok (.istore_n 2, 1))
theorem d_Fa_copyPeopleAndThings_58 : m_D k_Fa_copyPeopleAndThings 58 (.iload_n 2) 1 := (by decide +kernel : decode prog_3_method_2_code 58 = .ok (.iload_n 2, 1))
theorem d_Fa_copyPeopleAndThings_59 : m_D k_Fa_copyPeopleAndThings 59 (.aload_n 0) 1 := (by decide +kernel : decode prog_3_method_2_code 59 = .ok (.aload_n 0, 1))
theorem d_Fa_copyPeopleAndThings_60 : m_D k_Fa_copyPeopleAndThings 60 (.getfield 45) 3 := (by decide +kernel : decode prog_3_method_2_code 60 = .ok (.getfield 45, 3))
theorem d_Fa_copyPeopleAndThings_63 : m_D k_Fa_copyPeopleAndThings 63 (.if_icmp .ge 24) 3 := (by decide +kernel : decode prog_3_method_2_code 63 = .ok (.if_icmp .ge 24, 3))
theorem d_Fa_copyPeopleAndThings_66 : m_D k_Fa_copyPeopleAndThings 66 (.aload_n 0) 1 := (by decide +kernel : decode prog_3_method_2_code 66 = .ok (.aload_n 0, 1))
theorem d_Fa_copyPeopleAndThings_67 : m_D k_Fa_copyPeopleAndThings 67 (.getfield 26) 3 := (by decide +kernel : decode prog_3_method_2_code 67 = .ok (.getfield 26, 3))
theorem d_Fa_copyPeopleAndThings_70 : m_D k_Fa_copyPeopleAndThings 70 (.iload_n 2) 1 := (by decide +kernel : decode prog_3_method_2_code 70 = .ok (.iload_n 2, 1))
theorem d_Fa_copyPeopleAndThings_71 : m_D k_Fa_copyPeopleAndThings 71 (.aaload) 1 := (by decide +kernel : decode prog_3_method_2_code 71 = .ok (.aaload, 1))
theorem d_Fa_copyPeopleAndThings_72 : m_D k_Fa_copyPeopleAndThings 72 (.aload_n 1) 1 := (by decide +kernel : decode prog_3_method_2_code 72 = .ok (.aload_n 1, 1))
theorem d_Fa_copyPeopleAndThings_73 : m_D k_Fa_copyPeopleAndThings 73 (.getfield 26) 3 := (by decide +kernel : decode prog_3_method_2_code 73 = .ok (.getfield 26, 3))
theorem d_Fa_copyPeopleAndThings_76 : m_D k_Fa_copyPeopleAndThings 76 (.iload_n 2) 1 := (by decide +kernel : decode prog_3_method_2_code 76 = .ok (.iload_n 2, 1))
theorem d_Fa_copyPeopleAndThings_77 : m_D k_Fa_copyPeopleAndThings 77 (.aaload) 1 := (by decide +kernel : decode prog_3_method_2_code 77 = .ok (.aaload, 1))
theorem d_Fa_copyPeopleAndThings_78 : m_D k_Fa_copyPeopleAndThings 78 (.invokevirtual 54) 3 := (by decide +kernel : decode prog_3_method_2_code 78 = .ok (.invokevirtual 54, 3))
theorem d_Fa_copyPeopleAndThings_81 : m_D k_Fa_copyPeopleAndThings 81 (.iinc 2 1) 3 := (by decide +kernel : decode prog_3_method_2_code 81 = .ok (.iinc 2 1, 3))
theorem d_Fa_copyPeopleAndThings_84 : m_D k_Fa_copyPeopleAndThings 84 (.goto (-26)) 3 := (by decide +kernel : decode prog_3_method_2_code 84 = .ok (.goto (-26), 3))
theorem d_Fa_copyPeopleAndThings_87 : m_D k_Fa_copyPeopleAndThings 87 (.iconst 0) 1 := (by decide +kernel : decode prog_3_method_2_code 87 = .ok (.iconst 0, 1))
theorem d_Fa_copyPeopleAndThings_88 : m_D k_Fa_copyPeopleAndThings 88 (.istore_n 2) 1 := (by decide +kernel : decode prog_3_method_2_code 88 = .ok (.istore_n 2, 1))
theorem d_Fa_copyPeopleAndThings_89 : m_D k_Fa_copyPeopleAndThings 89 (.iload_n 2) 1 := (by decide +kernel : decode prog_3_method_2_code 89 = .ok (.iload_n 2, 1))
theorem d_Fa_copyPeopleAndThings_90 : m_D k_Fa_copyPeopleAndThings 90 (.aload_n 0) 1 := (by decide +kernel : decode prog_3_method_2_code 90 = .ok (.aload_n 0, 1))
theorem d_Fa_copyPeopleAndThings_91 : m_D k_Fa_copyPeopleAndThings 91 (.getfield 48) 3 := (by decide +kernel : decode prog_3_method_2_code 91 = .ok (.getfield 48, 3))
theorem d_Fa_copyPeopleAndThings_94 : m_D k_Fa_copyPeopleAndThings 94 (.if_icmp .ge 24) 3 := (by decide +kernel : decode prog_3_method_2_code 94 = .ok (.if_icmp .ge 24, 3))
theorem d_Fa_copyPeopleAndThings_97 : m_D k_Fa_copyPeopleAndThings 97 (.aload_n 0) 1 := (by decide +kernel : decode prog_3_method_2_code 97 = .ok (.aload_n 0, 1))
theorem d_Fa_copyPeopleAndThings_98 : m_D k_Fa_copyPeopleAndThings 98 (.getfield 33) 3 := (by decide +kernel : decode prog_3_method_2_code 98 = .ok (.getfield 33, 3))
theorem d_Fa_copyPeopleAndThings_101 : m_D k_Fa_copyPeopleAndThings 101 (.iload_n 2) 1 := (by decide +kernel : decode prog_3_method_2_code 101 = .ok (.iload_n 2, 1))
theorem d_Fa_copyPeopleAndThings_102 : m_D k_Fa_copyPeopleAndThings 102 (.aaload) 1 := (by decide +kernel : decode prog_3_method_2_code 102 = .ok (.aaload, 1))
theorem d_Fa_copyPeopleAndThings_103 : m_D k_Fa_copyPeopleAndThings 103 (.aload_n 1) 1 := (by decide +kernel : decode prog_3_method_2_code 103 = .ok (.aload_n 1, 1))
theorem d_Fa_copyPeopleAndThings_104 : m_D k_Fa_copyPeopleAndThings 104 (.getfield 33) 3 := (by decide +kernel : decode prog_3_method_2_code 104 = .ok (.getfield 33, 3))
theorem d_Fa_copyPeopleAndThings_107 : m_D k_Fa_copyPeopleAndThings 107 (.iload_n 2) 1 := (by decide +kernel : decode prog_3_method_2_code 107 = .ok (.iload_n 2, 1))
theorem d_Fa_copyPeopleAndThings_108 : m_D k_Fa_copyPeopleAndThings 108 (.aaload) 1 := (by decide +kernel : decode prog_3_method_2_code 108 = .ok (.aaload, 1))
theorem d_Fa_copyPeopleAndThings_109 : m_D k_Fa_copyPeopleAndThings 109 (.invokevirtual 58) 3 := (by decide +kernel : decode prog_3_method_2_code 109 = .ok (.invokevirtual 58, 3))
theorem d_Fa_copyPeopleAndThings_112 : m_D k_Fa_copyPeopleAndThings 112 (.iinc 2 1) 3 := (by decide +kernel : decode prog_3_method_2_code 112 = .ok (.iinc 2 1, 3))
theorem d_Fa_copyPeopleAndThings_115 : m_D k_Fa_copyPeopleAndThings 115 (.goto (-26)) 3 := (by decide +kernel : decode prog_3_method_2_code 115 = .ok (.goto (-26), 3))
theorem d_Fa_copyPeopleAndThings_118 : m_D k_Fa_copyPeopleAndThings 118 (.return_) 1 := (by decide +kernel : decode prog_3_method_2_code 118 = .ok (.return_, 1))
def fn_Fa_copyPeopleAndThings_l58 (x0 : Option mA) (x1 : Option mA) (t8 : Int32) : mP ((Int32) ⊕ (Unit)) :=
  m_bd (m_gI 3 0 x0) fun v9 =>
  if v9 ≤ t8 then
    m_rt (.inr ())
  else
    m_bd (m_gR 3 7 x0) fun v10 =>
    m_bd (m_aR 6 v10 t8) fun v11 =>
    m_bd (m_gR 3 7 x1) fun v12 =>
    m_bd (m_aR 6 v12 t8) fun v13 =>
    m_bd (fn_Pe_copyFrom v11 v13) fun _ =>
    m_rt (.inl (t8 + 1))
def fn_Fa_copyPeopleAndThings_l89 (x0 : Option mA) (x1 : Option mA) (t15 : Int32) : mP ((Int32) ⊕ (Unit)) :=
  m_bd (m_gI 3 1 x0) fun v16 =>
  if v16 ≤ t15 then
    m_rt (.inr ())
  else
    m_bd (m_gR 3 8 x0) fun v17 =>
    m_bd (m_aR 7 v17 t15) fun v18 =>
    m_bd (m_gR 3 8 x1) fun v19 =>
    m_bd (m_aR 7 v19 t15) fun v20 =>
    m_bd (fn_Th_copyFrom v18 v20) fun _ =>
    m_rt (.inl (t15 + 1))
def fn_Fa_copyPeopleAndThings (x0 : Option mA) (x1 : Option mA) : mP Unit :=
  m_th 3 x0 <|
  m_bd (m_gI 3 0 x1) fun v1 =>
  m_bd (m_pI 3 0 x0 v1) fun _ =>
  m_bd (m_gI 3 1 x1) fun v2 =>
  m_bd (m_pI 3 1 x0 v2) fun _ =>
  m_bd (m_gI 3 2 x1) fun v3 =>
  m_bd (m_pI 3 2 x0 v3) fun _ =>
  m_bd (m_gI 3 3 x1) fun v4 =>
  m_bd (m_pI 3 3 x0 v4) fun _ =>
  m_bd (m_gI 3 4 x1) fun v5 =>
  m_bd (m_pI 3 4 x0 v5) fun _ =>
  m_bd (m_gI 3 5 x1) fun v6 =>
  m_bd (m_pI 3 5 x0 v6) fun _ =>
  m_bd (m_gI 3 6 x1) fun v7 =>
  m_bd (m_pI 3 6 x0 v7) fun _ =>
  m_bd (m_lp (fn_Fa_copyPeopleAndThings_l58 x0 x1) m_F 0) fun (t14 : Unit) =>
  m_bd (m_lp (fn_Fa_copyPeopleAndThings_l89 x0 x1) m_F 0) fun (t21 : Unit) =>
  m_rt ()
set_option maxHeartbeats 4000000 in
set_option maxRecDepth 100000 in
theorem sd_Fa_copyPeopleAndThings (x0 : Option mA) (x1 : Option mA) : m_Sm k_Fa_copyPeopleAndThings 2 0 0 [.inr (.inr x0), .inr (.inr x1)] (fn_Fa_copyPeopleAndThings x0 x1) (fun _ => none) := by
  refine ⟨Nat.le_of_ble_eq_true rfl, ?_⟩
  refine sm_th ?_
  refine sm_aload_n (i := 0) (j := 0) (pc' := 1) d_Fa_copyPeopleAndThings_0 rfl rfl rfl (sm_aload_n (i := 1) (j := 1) (pc' := 2) d_Fa_copyPeopleAndThings_1 rfl rfl rfl ?_)
  refine sm_getI (pc' := 5) d_Fa_copyPeopleAndThings_2 rfl fl_Fa_45 rfl ⟨by decide, by decide⟩ (fun v1 => ?_)
  refine sm_putI (pc' := 8) d_Fa_copyPeopleAndThings_5 rfl fl_Fa_45 (Or.inl rfl) rfl (sm_aload_n (i := 0) (j := 0) (pc' := 9) d_Fa_copyPeopleAndThings_8 rfl rfl rfl (sm_aload_n (i := 1) (j := 1) (pc' := 10) d_Fa_copyPeopleAndThings_9 rfl rfl rfl ?_))
  refine sm_getI (pc' := 13) d_Fa_copyPeopleAndThings_10 rfl fl_Fa_48 rfl ⟨by decide, by decide⟩ (fun v2 => ?_)
  refine sm_putI (pc' := 16) d_Fa_copyPeopleAndThings_13 rfl fl_Fa_48 (Or.inl rfl) rfl (sm_aload_n (i := 0) (j := 0) (pc' := 17) d_Fa_copyPeopleAndThings_16 rfl rfl rfl (sm_aload_n (i := 1) (j := 1) (pc' := 18) d_Fa_copyPeopleAndThings_17 rfl rfl rfl ?_))
  refine sm_getI (pc' := 21) d_Fa_copyPeopleAndThings_18 rfl fl_Fa_11 rfl ⟨by decide, by decide⟩ (fun v3 => ?_)
  refine sm_putI (pc' := 24) d_Fa_copyPeopleAndThings_21 rfl fl_Fa_11 (Or.inl rfl) rfl (sm_aload_n (i := 0) (j := 0) (pc' := 25) d_Fa_copyPeopleAndThings_24 rfl rfl rfl (sm_aload_n (i := 1) (j := 1) (pc' := 26) d_Fa_copyPeopleAndThings_25 rfl rfl rfl ?_))
  refine sm_getI (pc' := 29) d_Fa_copyPeopleAndThings_26 rfl fl_Fa_15 rfl ⟨by decide, by decide⟩ (fun v4 => ?_)
  refine sm_putI (pc' := 32) d_Fa_copyPeopleAndThings_29 rfl fl_Fa_15 (Or.inl rfl) rfl (sm_aload_n (i := 0) (j := 0) (pc' := 33) d_Fa_copyPeopleAndThings_32 rfl rfl rfl (sm_aload_n (i := 1) (j := 1) (pc' := 34) d_Fa_copyPeopleAndThings_33 rfl rfl rfl ?_))
  refine sm_getI (pc' := 37) d_Fa_copyPeopleAndThings_34 rfl fl_Fa_18 rfl ⟨by decide, by decide⟩ (fun v5 => ?_)
  refine sm_putI (pc' := 40) d_Fa_copyPeopleAndThings_37 rfl fl_Fa_18 (Or.inl rfl) rfl (sm_aload_n (i := 0) (j := 0) (pc' := 41) d_Fa_copyPeopleAndThings_40 rfl rfl rfl (sm_aload_n (i := 1) (j := 1) (pc' := 42) d_Fa_copyPeopleAndThings_41 rfl rfl rfl ?_))
  refine sm_getI (pc' := 45) d_Fa_copyPeopleAndThings_42 rfl fl_Fa_21 rfl ⟨by decide, by decide⟩ (fun v6 => ?_)
  refine sm_putI (pc' := 48) d_Fa_copyPeopleAndThings_45 rfl fl_Fa_21 (Or.inl rfl) rfl (sm_aload_n (i := 0) (j := 0) (pc' := 49) d_Fa_copyPeopleAndThings_48 rfl rfl rfl (sm_aload_n (i := 1) (j := 1) (pc' := 50) d_Fa_copyPeopleAndThings_49 rfl rfl rfl ?_))
  refine sm_getI (pc' := 53) d_Fa_copyPeopleAndThings_50 rfl fl_Fa_51 rfl ⟨by decide, by decide⟩ (fun v7 => ?_)
  refine sm_putI (pc' := 56) d_Fa_copyPeopleAndThings_53 rfl fl_Fa_51 (Or.inl rfl) rfl (sm_iconst (pc' := 57) d_Fa_copyPeopleAndThings_56 rfl ic_0 (sm_istore_n (i := 2) (L' := [(2, .inl 0), (0, .inr (.inr x0)), (1, .inr (.inr x1))]) (pc' := 58) d_Fa_copyPeopleAndThings_57 rfl rfl (Nat.le_of_ble_eq_true rfl) rfl ?_))
  refine sm_sub [0, 1, 2] rfl ?_
  refine sm_bd (mid := fun (t14 : Unit) => .inl (87, [(0, .inr (.inr x0)), (1, .inr (.inr x1))], [])) (sm_lp (hd := fun (t8 : Int32) => (.inl (58, [(2, .inl t8), (0, .inr (.inr x0)), (1, .inr (.inr x1))], []) : mC)) (fun t8 => ?_) m_F 0) (fun t14 => ?_)
  · refine sm_iload_n (i := 2) (j := 0) (pc' := 59) d_Fa_copyPeopleAndThings_58 rfl rfl rfl (sm_aload_n (i := 0) (j := 1) (pc' := 60) d_Fa_copyPeopleAndThings_59 rfl rfl rfl ?_)
    refine sm_getI (pc' := 63) d_Fa_copyPeopleAndThings_60 rfl fl_Fa_45 rfl ⟨by decide, by decide⟩ (fun v9 => ?_)
    refine sm_icmp_ge (tgt := 87) (pc' := 66) d_Fa_copyPeopleAndThings_63 rfl rfl ?_ ?_
    · refine sm_sub [1, 2] rfl ?_
      exact sm_rt rfl
    · refine sm_aload_n (i := 0) (j := 1) (pc' := 67) d_Fa_copyPeopleAndThings_66 rfl rfl rfl ?_
      refine sm_getR (pc' := 70) d_Fa_copyPeopleAndThings_67 rfl fl_Fa_26 rfl rfl (fun v10 => ?_)
      refine sm_iload_n (i := 2) (j := 0) (pc' := 71) d_Fa_copyPeopleAndThings_70 rfl rfl rfl ?_
      refine sm_aald (t := 6) ⟨by decide, by decide⟩ rfl (pc' := 72) d_Fa_copyPeopleAndThings_71 rfl (fun v11 => ?_)
      refine sm_aload_n (i := 1) (j := 2) (pc' := 73) d_Fa_copyPeopleAndThings_72 rfl rfl rfl ?_
      refine sm_getR (pc' := 76) d_Fa_copyPeopleAndThings_73 rfl fl_Fa_26 rfl rfl (fun v12 => ?_)
      refine sm_iload_n (i := 2) (j := 0) (pc' := 77) d_Fa_copyPeopleAndThings_76 rfl rfl rfl ?_
      refine sm_aald (t := 6) ⟨by decide, by decide⟩ rfl (pc' := 78) d_Fa_copyPeopleAndThings_77 rfl (fun v13 => ?_)
      refine sm_callVv (ci := 4) (x := v11) (av := [.inr (.inr v13)]) (st := []) (mc := 0) (ms := 0) (pc' := 81) d_Fa_copyPeopleAndThings_78 rfl (sd_Pe_copyFrom v11 v13) m_lv rfl cv_Pe_copyFrom w_ml_Fa_54 rfl rfl (by decide) (Nat.le_of_ble_eq_true rfl) rfl rfl ?_
      refine sm_iinc (j := 0) (L' := [(2, .inl (t8 + 1)), (0, .inr (.inr x0)), (1, .inr (.inr x1))]) (pc' := 84) d_Fa_copyPeopleAndThings_81 rfl (v := (t8 + 1)) rfl (ix_1 _) (Nat.le_of_ble_eq_true rfl) rfl (sm_goto (tgt := 58) d_Fa_copyPeopleAndThings_84 rfl (sm_sub [0, 1, 2] rfl ?_))
      exact sm_rt rfl
  · refine sm_iconst (pc' := 88) d_Fa_copyPeopleAndThings_87 rfl ic_0 (sm_istore_n (i := 2) (L' := [(2, .inl 0), (0, .inr (.inr x0)), (1, .inr (.inr x1))]) (pc' := 89) d_Fa_copyPeopleAndThings_88 rfl rfl (Nat.le_of_ble_eq_true rfl) rfl ?_)
    refine sm_sub [0, 1, 2] rfl ?_
    refine sm_bd (mid := fun (t21 : Unit) => .inl (118, [], [])) (sm_lp (hd := fun (t15 : Int32) => (.inl (89, [(2, .inl t15), (0, .inr (.inr x0)), (1, .inr (.inr x1))], []) : mC)) (fun t15 => ?_) m_F 0) (fun t21 => ?_)
    · refine sm_iload_n (i := 2) (j := 0) (pc' := 90) d_Fa_copyPeopleAndThings_89 rfl rfl rfl (sm_aload_n (i := 0) (j := 1) (pc' := 91) d_Fa_copyPeopleAndThings_90 rfl rfl rfl ?_)
      refine sm_getI (pc' := 94) d_Fa_copyPeopleAndThings_91 rfl fl_Fa_48 rfl ⟨by decide, by decide⟩ (fun v16 => ?_)
      refine sm_icmp_ge (tgt := 118) (pc' := 97) d_Fa_copyPeopleAndThings_94 rfl rfl ?_ ?_
      · refine sm_sub [] rfl ?_
        exact sm_rt rfl
      · refine sm_aload_n (i := 0) (j := 1) (pc' := 98) d_Fa_copyPeopleAndThings_97 rfl rfl rfl ?_
        refine sm_getR (pc' := 101) d_Fa_copyPeopleAndThings_98 rfl fl_Fa_33 rfl rfl (fun v17 => ?_)
        refine sm_iload_n (i := 2) (j := 0) (pc' := 102) d_Fa_copyPeopleAndThings_101 rfl rfl rfl ?_
        refine sm_aald (t := 7) ⟨by decide, by decide⟩ rfl (pc' := 103) d_Fa_copyPeopleAndThings_102 rfl (fun v18 => ?_)
        refine sm_aload_n (i := 1) (j := 2) (pc' := 104) d_Fa_copyPeopleAndThings_103 rfl rfl rfl ?_
        refine sm_getR (pc' := 107) d_Fa_copyPeopleAndThings_104 rfl fl_Fa_33 rfl rfl (fun v19 => ?_)
        refine sm_iload_n (i := 2) (j := 0) (pc' := 108) d_Fa_copyPeopleAndThings_107 rfl rfl rfl ?_
        refine sm_aald (t := 7) ⟨by decide, by decide⟩ rfl (pc' := 109) d_Fa_copyPeopleAndThings_108 rfl (fun v20 => ?_)
        refine sm_callVv (ci := 5) (x := v18) (av := [.inr (.inr v20)]) (st := []) (mc := 0) (ms := 0) (pc' := 112) d_Fa_copyPeopleAndThings_109 rfl (sd_Th_copyFrom v18 v20) m_lv rfl cv_Th_copyFrom w_ml_Fa_58 rfl rfl (by decide) (Nat.le_of_ble_eq_true rfl) rfl rfl ?_
        refine sm_iinc (j := 0) (L' := [(2, .inl (t15 + 1)), (0, .inr (.inr x0)), (1, .inr (.inr x1))]) (pc' := 115) d_Fa_copyPeopleAndThings_112 rfl (v := (t15 + 1)) rfl (ix_1 _) (Nat.le_of_ble_eq_true rfl) rfl (sm_goto (tgt := 89) d_Fa_copyPeopleAndThings_115 rfl (sm_sub [0, 1, 2] rfl ?_))
        exact sm_rt rfl
    · exact sm_return d_Fa_copyPeopleAndThings_118 rfl rfl
theorem d_C_mean_0 : m_D k_C_mean 0 (.aload_n 0) 1 := (by decide +kernel : decode prog_1_method_71_code 0 = .ok (.aload_n 0, 1))
theorem d_C_mean_1 : m_D k_C_mean 1 (.iload_n 1) 1 := (by decide +kernel : decode prog_1_method_71_code 1 = .ok (.iload_n 1, 1))
theorem d_C_mean_2 : m_D k_C_mean 2 (.iconst 0) 1 := (by decide +kernel : decode prog_1_method_71_code 2 = .ok (.iconst 0, 1))
theorem d_C_mean_3 : m_D k_C_mean 3 (.sipush 9999) 3 := (by decide +kernel : decode prog_1_method_71_code 3 = .ok (.sipush 9999, 3))
theorem d_C_mean_6 : m_D k_C_mean 6 (.invokestatic 269) 3 := (by decide +kernel : decode prog_1_method_71_code 6 = .ok (.invokestatic 269, 3))
theorem d_C_mean_9 : m_D k_C_mean 9 (.ifCond .eq 24) 3 := (by decide +kernel : decode prog_1_method_71_code 9 = .ok (.ifCond .eq 24, 3))
theorem d_C_mean_12 : m_D k_C_mean 12 (.iload_n 2) 1 := (by decide +kernel : decode prog_1_method_71_code 12 = .ok (.iload_n 2, 1))
theorem d_C_mean_13 : m_D k_C_mean 13 (.iconst 1) 1 := (by decide +kernel : decode prog_1_method_71_code 13 = .ok (.iconst 1, 1))
theorem d_C_mean_14 : m_D k_C_mean 14 (.bipush 20) 2 := (by decide +kernel : decode prog_1_method_71_code 14 = .ok (.bipush 20, 2))
theorem d_C_mean_16 : m_D k_C_mean 16 (.invokestatic 269) 3 := (by decide +kernel : decode prog_1_method_71_code 16 = .ok (.invokestatic 269, 3))
theorem d_C_mean_19 : m_D k_C_mean 19 (.ifCond .eq 14) 3 := (by decide +kernel : decode prog_1_method_71_code 19 = .ok (.ifCond .eq 14, 3))
theorem d_C_mean_22 : m_D k_C_mean 22 (.iload_n 1) 1 := (by decide +kernel : decode prog_1_method_71_code 22 = .ok (.iload_n 1, 1))
theorem d_C_mean_23 : m_D k_C_mean 23 (.iload_n 2) 1 := (by decide +kernel : decode prog_1_method_71_code 23 = .ok (.iload_n 2, 1))
theorem d_C_mean_24 : m_D k_C_mean 24 (.iadd) 1 := (by decide +kernel : decode prog_1_method_71_code 24 = .ok (.iadd, 1))
theorem d_C_mean_25 : m_D k_C_mean 25 (.iconst 1) 1 := (by decide +kernel : decode prog_1_method_71_code 25 = .ok (.iconst 1, 1))
theorem d_C_mean_26 : m_D k_C_mean 26 (.isub) 1 := (by decide +kernel : decode prog_1_method_71_code 26 = .ok (.isub, 1))
theorem d_C_mean_27 : m_D k_C_mean 27 (.sipush 9999) 3 := (by decide +kernel : decode prog_1_method_71_code 27 = .ok (.sipush 9999, 3))
theorem d_C_mean_30 : m_D k_C_mean 30 (.if_icmp .le 7) 3 := (by decide +kernel : decode prog_1_method_71_code 30 = .ok (.if_icmp .le 7, 3))
theorem d_C_mean_33 : m_D k_C_mean 33 (.iconst 5) 1 := (by decide +kernel : decode prog_1_method_71_code 33 = .ok (.iconst 5, 1))
theorem d_C_mean_34 : m_D k_C_mean 34 (.goto 22) 3 := (by decide +kernel : decode prog_1_method_71_code 34 = .ok (.goto 22, 3))
theorem d_C_mean_37 : m_D k_C_mean 37 (.aload_n 0) 1 := (by decide +kernel : decode prog_1_method_71_code 37 = .ok (.aload_n 0, 1))
theorem d_C_mean_38 : m_D k_C_mean 38 (.getfield 37) 3 := (by decide +kernel : decode prog_1_method_71_code 38 = .ok (.getfield 37, 3))
theorem d_C_mean_41 : m_D k_C_mean 41 (.getfield 163) 3 := (by decide +kernel : decode prog_1_method_71_code 41 = .ok (.getfield 163, 3))
theorem d_C_mean_44 : m_D k_C_mean 44 (.getfield 419) 3 := (by decide +kernel : decode prog_1_method_71_code 44 = .ok (.getfield 419, 3))
theorem d_C_mean_47 : m_D k_C_mean 47 (.ifCond .eq 7) 3 := (by decide +kernel : decode prog_1_method_71_code 47 = .ok (.ifCond .eq 7, 3))
theorem d_C_mean_50 : m_D k_C_mean 50 (.iconst 0) 1 := (by decide +kernel : decode prog_1_method_71_code 50 = .ok (.iconst 0, 1))
theorem d_C_mean_51 : m_D k_C_mean 51 (.goto 5) 3 := (by decide +kernel : decode prog_1_method_71_code 51 = .ok (.goto 5, 3))
theorem d_C_mean_54 : m_D k_C_mean 54 (.bipush 8) 2 := (by decide +kernel : decode prog_1_method_71_code 54 = .ok (.bipush 8, 2))
theorem d_C_mean_56 : m_D k_C_mean 56 (.putfield 9) 3 := (by decide +kernel : decode prog_1_method_71_code 56 = .ok (.putfield 9, 3))
theorem d_C_mean_59 : m_D k_C_mean 59 (.aload_n 0) 1 := (by decide +kernel : decode prog_1_method_71_code 59 = .ok (.aload_n 0, 1))
theorem d_C_mean_60 : m_D k_C_mean 60 (.getfield 9) 3 := (by decide +kernel : decode prog_1_method_71_code 60 = .ok (.getfield 9, 3))
theorem d_C_mean_63 : m_D k_C_mean 63 (.ifCond .eq 5) 3 := (by decide +kernel : decode prog_1_method_71_code 63 = .ok (.ifCond .eq 5, 3))
theorem d_C_mean_66 : m_D k_C_mean 66 (.iconst 0) 1 := (by decide +kernel : decode prog_1_method_71_code 66 = .ok (.iconst 0, 1))
theorem d_C_mean_67 : m_D k_C_mean 67 (.ireturn) 1 := (by decide +kernel : decode prog_1_method_71_code 67 = .ok (.ireturn, 1))
theorem d_C_mean_68 : m_D k_C_mean 68 (.iconst 0) 1 := (by decide +kernel : decode prog_1_method_71_code 68 = .ok (.iconst 0, 1))
theorem d_C_mean_69 : m_D k_C_mean 69 (.istore_n 3) 1 := (by decide +kernel : decode prog_1_method_71_code 69 = .ok (.istore_n 3, 1))
theorem d_C_mean_70 : m_D k_C_mean 70 (.iconst 0) 1 := (by decide +kernel : decode prog_1_method_71_code 70 = .ok (.iconst 0, 1))
theorem d_C_mean_71 : m_D k_C_mean 71 (.istore 4) 2 := (by decide +kernel : decode prog_1_method_71_code 71 = .ok (.istore 4, 2))
theorem d_C_mean_73 : m_D k_C_mean 73 (.iload 4) 2 := (by decide +kernel : decode prog_1_method_71_code 73 = .ok (.iload 4, 2))
theorem d_C_mean_75 : m_D k_C_mean 75 (.iload_n 2) 1 := (by decide +kernel : decode prog_1_method_71_code 75 = .ok (.iload_n 2, 1))
theorem d_C_mean_76 : m_D k_C_mean 76 (.if_icmp .ge 48) 3 := (by decide +kernel : decode prog_1_method_71_code 76 = .ok (.if_icmp .ge 48, 3))
theorem d_C_mean_79 : m_D k_C_mean 79 (.aload_n 0) 1 := (by decide +kernel : decode prog_1_method_71_code 79 = .ok (.aload_n 0, 1))
theorem d_C_mean_80 : m_D k_C_mean 80 (.getfield 41) 3 := (by decide +kernel : decode prog_1_method_71_code 80 = .ok (.getfield 41, 3))
theorem d_C_mean_83 : m_D k_C_mean 83 (.aload_n 0) 1 := (by decide +kernel : decode prog_1_method_71_code 83 = .ok (.aload_n 0, 1))
theorem d_C_mean_84 : m_D k_C_mean 84 (.getfield 37) 3 := (by decide +kernel : decode prog_1_method_71_code 84 = .ok (.getfield 37, 3))
theorem d_C_mean_87 : m_D k_C_mean 87 (.invokevirtual 434) 3 := (by decide +kernel : decode prog_1_method_71_code 87 = .ok (.invokevirtual 434, 3))
theorem d_C_mean_90 : m_D k_C_mean 90 (.aload_n 0) 1 := (by decide +kernel : decode prog_1_method_71_code 90 = .ok (.aload_n 0, 1))
theorem d_C_mean_91 : m_D k_C_mean 91 (.getfield 37) 3 := (by decide +kernel : decode prog_1_method_71_code 91 = .ok (.getfield 37, 3))
theorem d_C_mean_94 : m_D k_C_mean 94 (.getfield 163) 3 := (by decide +kernel : decode prog_1_method_71_code 94 = .ok (.getfield 163, 3))
theorem d_C_mean_97 : m_D k_C_mean 97 (.aload_n 0) 1 := (by decide +kernel : decode prog_1_method_71_code 97 = .ok (.aload_n 0, 1))
theorem d_C_mean_98 : m_D k_C_mean 98 (.getfield 41) 3 := (by decide +kernel : decode prog_1_method_71_code 98 = .ok (.getfield 41, 3))
theorem d_C_mean_101 : m_D k_C_mean 101 (.iload_n 1) 1 := (by decide +kernel : decode prog_1_method_71_code 101 = .ok (.iload_n 1, 1))
theorem d_C_mean_102 : m_D k_C_mean 102 (.iload 4) 2 := (by decide +kernel : decode prog_1_method_71_code 102 = .ok (.iload 4, 2))
theorem d_C_mean_104 : m_D k_C_mean 104 (.iadd) 1 := (by decide +kernel : decode prog_1_method_71_code 104 = .ok (.iadd, 1))
theorem d_C_mean_105 : m_D k_C_mean 105 (.invokevirtual 422) 3 := (by decide +kernel : decode prog_1_method_71_code 105 = .ok (.invokevirtual 422, 3))
theorem d_C_mean_108 : m_D k_C_mean 108 (.iload_n 3) 1 := (by decide +kernel : decode prog_1_method_71_code 108 = .ok (.iload_n 3, 1))
theorem d_C_mean_109 : m_D k_C_mean 109 (.aload_n 0) 1 := (by decide +kernel : decode prog_1_method_71_code 109 = .ok (.aload_n 0, 1))
theorem d_C_mean_110 : m_D k_C_mean 110 (.getfield 41) 3 := (by decide +kernel : decode prog_1_method_71_code 110 = .ok (.getfield 41, 3))
theorem d_C_mean_113 : m_D k_C_mean 113 (.invokevirtual 206) 3 := (by decide +kernel : decode prog_1_method_71_code 113 = .ok (.invokevirtual 206, 3))
theorem d_C_mean_116 : m_D k_C_mean 116 (.iadd) 1 := (by decide +kernel : decode prog_1_method_71_code 116 = .ok (.iadd, 1))
theorem d_C_mean_117 : m_D k_C_mean 117 (.istore_n 3) 1 := (by decide +kernel : decode prog_1_method_71_code 117 = .ok (.istore_n 3, 1))
theorem d_C_mean_118 : m_D k_C_mean 118 (.iinc 4 1) 3 := (by decide +kernel : decode prog_1_method_71_code 118 = .ok (.iinc 4 1, 3))
theorem d_C_mean_121 : m_D k_C_mean 121 (.goto (-48)) 3 := (by decide +kernel : decode prog_1_method_71_code 121 = .ok (.goto (-48), 3))
theorem d_C_mean_124 : m_D k_C_mean 124 (.aload_n 0) 1 := (by decide +kernel : decode prog_1_method_71_code 124 = .ok (.aload_n 0, 1))
theorem d_C_mean_125 : m_D k_C_mean 125 (.iload_n 3) 1 := (by decide +kernel : decode prog_1_method_71_code 125 = .ok (.iload_n 3, 1))
theorem d_C_mean_126 : m_D k_C_mean 126 (.i2l) 1 := (by decide +kernel : decode prog_1_method_71_code 126 = .ok (.i2l, 1))
theorem d_C_mean_127 : m_D k_C_mean 127 (.iload_n 2) 1 := (by decide +kernel : decode prog_1_method_71_code 127 = .ok (.iload_n 2, 1))
theorem d_C_mean_128 : m_D k_C_mean 128 (.i2l) 1 := (by decide +kernel : decode prog_1_method_71_code 128 = .ok (.i2l, 1))
theorem d_C_mean_129 : m_D k_C_mean 129 (.invokevirtual 407) 3 := (by decide +kernel : decode prog_1_method_71_code 129 = .ok (.invokevirtual 407, 3))
theorem d_C_mean_132 : m_D k_C_mean 132 (.iconst 1) 1 := (by decide +kernel : decode prog_1_method_71_code 132 = .ok (.iconst 1, 1))
theorem d_C_mean_133 : m_D k_C_mean 133 (.ireturn) 1 := (by decide +kernel : decode prog_1_method_71_code 133 = .ok (.ireturn, 1))
def fn_C_mean_l73 (x0 : Option mA) (x1 : Int32) (x2 : Int32) (t8 : Int32 × Int32) : mP ((Int32 × Int32) ⊕ (Int32)) :=
  if x2 ≤ t8.2 then
    m_rt (.inr t8.1)
  else
    m_bd (m_gR 0 6 x0) fun v9 =>
    m_bd (m_gR 0 5 x0) fun v10 =>
    m_bd (fn_Fa_copyPeopleAndThings v9 v10) fun _ =>
    m_bd (m_gR 0 5 x0) fun v11 =>
    m_bd (m_gR 3 9 v11) fun v12 =>
    m_bd (m_gR 0 6 x0) fun v13 =>
    m_bd (fn_Pl_run v12 v13 (x1 + t8.2)) fun _ =>
    m_bd (m_gR 0 6 x0) fun v14 =>
    m_bd (fn_Fa_allRust v14) fun v15 =>
    m_rt (.inl ((t8.1 + v15), (t8.2 + 1)))
def fn_C_mean (x0 : Option mA) (x1 : Int32) (x2 : Int32) : mP Int32 :=
  m_th 0 x0 <|
  m_bd (fn_C_isWithin x1 0 9999) fun v1 =>
  m_bd (α := Int32) (
    if v1 = 0 then
      m_rt 5
    else
      m_bd (fn_C_isWithin x2 1 20) fun v2 =>
      if v2 = 0 then
        m_rt 5
      else
        if ((x1 + x2) - 1) ≤ 9999 then
          m_bd (m_gR 0 5 x0) fun v3 =>
          m_bd (m_gR 3 9 v3) fun v4 =>
          m_bd (m_gI 6 0 v4) fun v5 =>
          if v5 = 0 then
            m_rt 8
          else
            m_rt 0
        else
          m_rt 5
    ) fun (t6 : Int32) =>
  m_bd (m_pI 0 0 x0 t6) fun _ =>
  m_bd (m_gI 0 0 x0) fun v7 =>
  if v7 = 0 then
    m_bd (m_lp (fn_C_mean_l73 x0 x1 x2) m_F (0, 0)) fun (t16 : Int32) =>
    m_bd (fn_C_tell x0 (t16).toInt64 (x2).toInt64) fun _ =>
    m_rt 1
  else
    m_rt 0
set_option maxHeartbeats 4000000 in
set_option maxRecDepth 100000 in
theorem sd_C_mean (x0 : Option mA) (x1 : Int32) (x2 : Int32) : m_Sm k_C_mean 8 0 0 [.inr (.inr x0), .inl x1, .inl x2] (fn_C_mean x0 x1 x2) (fun b => some (.inl b)) := by
  refine ⟨Nat.le_of_ble_eq_true rfl, ?_⟩
  refine sm_th ?_
  refine sm_aload_n (i := 0) (j := 0) (pc' := 1) d_C_mean_0 rfl rfl rfl (sm_iload_n (i := 1) (j := 1) (pc' := 2) d_C_mean_1 rfl rfl rfl (sm_iconst (pc' := 3) d_C_mean_2 rfl ic_0 (sm_sipush (pc' := 6) d_C_mean_3 rfl is_9999 ?_)))
  refine sm_callSi (av := [.inl x1, .inl 0, .inl 9999]) (st := [.inr (.inr x0)]) (mc := 0) (ms := 0) (pc' := 9) d_C_mean_6 rfl (sd_C_isWithin x1 0 9999) cs_C_isWithin w_ml_C_269 rfl rfl (by decide) (Nat.le_of_ble_eq_true rfl) rfl rfl (fun v1 => ?_)
  refine sm_bd (mid := fun (t6 : Int32) => .inl (56, [(0, .inr (.inr x0)), (1, .inl x1), (2, .inl x2)], [.inl t6, .inr (.inr x0)])) ?_ (fun t6 => ?_)
  · refine sm_if_eq (tgt := 33) (pc' := 12) d_C_mean_9 rfl rfl ?_ ?_
    · refine sm_iconst (pc' := 34) d_C_mean_33 rfl ic_5 (sm_goto (tgt := 56) d_C_mean_34 rfl (sm_sub [0, 1, 2] rfl ?_))
      exact sm_rt rfl
    · refine sm_iload_n (i := 2) (j := 2) (pc' := 13) d_C_mean_12 rfl rfl rfl (sm_iconst (pc' := 14) d_C_mean_13 rfl ic_1 (sm_bipush (pc' := 16) d_C_mean_14 rfl ib_20 ?_))
      refine sm_callSi (av := [.inl x2, .inl 1, .inl 20]) (st := [.inr (.inr x0)]) (mc := 0) (ms := 0) (pc' := 19) d_C_mean_16 rfl (sd_C_isWithin x2 1 20) cs_C_isWithin w_ml_C_269 rfl rfl (by decide) (Nat.le_of_ble_eq_true rfl) rfl rfl (fun v2 => ?_)
      refine sm_if_eq (tgt := 33) (pc' := 22) d_C_mean_19 rfl rfl ?_ ?_
      · refine sm_iconst (pc' := 34) d_C_mean_33 rfl ic_5 (sm_goto (tgt := 56) d_C_mean_34 rfl (sm_sub [0, 1, 2] rfl ?_))
        exact sm_rt rfl
      · refine sm_iload_n (i := 1) (j := 1) (pc' := 23) d_C_mean_22 rfl rfl rfl (sm_iload_n (i := 2) (j := 2) (pc' := 24) d_C_mean_23 rfl rfl rfl (sm_iadd (pc' := 25) d_C_mean_24 rfl (sm_iconst (pc' := 26) d_C_mean_25 rfl ic_1 (sm_isub (pc' := 27) d_C_mean_26 rfl (sm_sipush (pc' := 30) d_C_mean_27 rfl is_9999 ?_)))))
        refine sm_icmp_le (tgt := 37) (pc' := 33) d_C_mean_30 rfl rfl ?_ ?_
        · refine sm_aload_n (i := 0) (j := 0) (pc' := 38) d_C_mean_37 rfl rfl rfl ?_
          refine sm_getR (pc' := 41) d_C_mean_38 rfl fl_C_37 rfl rfl (fun v3 => ?_)
          refine sm_getR (pc' := 44) d_C_mean_41 rfl fl_C_163 rfl rfl (fun v4 => ?_)
          refine sm_getI (pc' := 47) d_C_mean_44 rfl fl_C_419 rfl ⟨by decide, by decide⟩ (fun v5 => ?_)
          refine sm_if_eq (tgt := 54) (pc' := 50) d_C_mean_47 rfl rfl ?_ ?_
          · refine sm_bipush (pc' := 56) d_C_mean_54 rfl ib_8 (sm_sub [0, 1, 2] rfl ?_)
            exact sm_rt rfl
          · refine sm_iconst (pc' := 51) d_C_mean_50 rfl ic_0 (sm_goto (tgt := 56) d_C_mean_51 rfl (sm_sub [0, 1, 2] rfl ?_))
            exact sm_rt rfl
        · refine sm_iconst (pc' := 34) d_C_mean_33 rfl ic_5 (sm_goto (tgt := 56) d_C_mean_34 rfl (sm_sub [0, 1, 2] rfl ?_))
          exact sm_rt rfl
  · refine sm_putI (pc' := 59) d_C_mean_56 rfl fl_C_9 (Or.inl rfl) rfl (sm_aload_n (i := 0) (j := 0) (pc' := 60) d_C_mean_59 rfl rfl rfl ?_)
    refine sm_getI (pc' := 63) d_C_mean_60 rfl fl_C_9 rfl ⟨by decide, by decide⟩ (fun v7 => ?_)
    refine sm_if_eq (tgt := 68) (pc' := 66) d_C_mean_63 rfl rfl ?_ ?_
    · refine sm_iconst (pc' := 69) d_C_mean_68 rfl ic_0 (sm_istore_n (i := 3) (L' := [(3, .inl 0), (0, .inr (.inr x0)), (1, .inl x1), (2, .inl x2)]) (pc' := 70) d_C_mean_69 rfl rfl (Nat.le_of_ble_eq_true rfl) rfl (sm_iconst (pc' := 71) d_C_mean_70 rfl ic_0 (sm_istore (L' := [(4, .inl 0), (3, .inl 0), (0, .inr (.inr x0)), (1, .inl x1), (2, .inl x2)]) (pc' := 73) d_C_mean_71 rfl (Nat.le_of_ble_eq_true rfl) rfl ?_)))
      refine sm_sub [1, 0, 2, 3, 4] rfl ?_
      refine sm_bd (mid := fun (t16 : Int32) => .inl (124, [(3, .inl t16), (0, .inr (.inr x0)), (2, .inl x2)], [])) (sm_lp (hd := fun (t8 : Int32 × Int32) => (.inl (73, [(3, .inl t8.1), (4, .inl t8.2), (0, .inr (.inr x0)), (1, .inl x1), (2, .inl x2)], []) : mC)) (fun t8 => ?_) m_F (0, 0)) (fun t16 => ?_)
      · refine sm_iload (j := 1) (pc' := 75) d_C_mean_73 rfl rfl (sm_iload_n (i := 2) (j := 4) (pc' := 76) d_C_mean_75 rfl rfl rfl ?_)
        refine sm_icmp_ge (tgt := 124) (pc' := 79) d_C_mean_76 rfl rfl ?_ ?_
        · refine sm_sub [0, 2, 4] rfl ?_
          exact sm_rt rfl
        · refine sm_aload_n (i := 0) (j := 2) (pc' := 80) d_C_mean_79 rfl rfl rfl ?_
          refine sm_getR (pc' := 83) d_C_mean_80 rfl fl_C_41 rfl rfl (fun v9 => ?_)
          refine sm_aload_n (i := 0) (j := 2) (pc' := 84) d_C_mean_83 rfl rfl rfl ?_
          refine sm_getR (pc' := 87) d_C_mean_84 rfl fl_C_37 rfl rfl (fun v10 => ?_)
          refine sm_callVv (ci := 3) (x := v9) (av := [.inr (.inr v10)]) (st := []) (mc := 0) (ms := 0) (pc' := 90) d_C_mean_87 rfl (sd_Fa_copyPeopleAndThings v9 v10) m_lv rfl cv_Fa_copyPeopleAndThings w_ml_C_434 rfl rfl (by decide) (Nat.le_of_ble_eq_true rfl) rfl rfl ?_
          refine sm_aload_n (i := 0) (j := 2) (pc' := 91) d_C_mean_90 rfl rfl rfl ?_
          refine sm_getR (pc' := 94) d_C_mean_91 rfl fl_C_37 rfl rfl (fun v11 => ?_)
          refine sm_getR (pc' := 97) d_C_mean_94 rfl fl_C_163 rfl rfl (fun v12 => ?_)
          refine sm_aload_n (i := 0) (j := 2) (pc' := 98) d_C_mean_97 rfl rfl rfl ?_
          refine sm_getR (pc' := 101) d_C_mean_98 rfl fl_C_41 rfl rfl (fun v13 => ?_)
          refine sm_iload_n (i := 1) (j := 3) (pc' := 102) d_C_mean_101 rfl rfl rfl (sm_iload (j := 1) (pc' := 104) d_C_mean_102 rfl rfl (sm_iadd (pc' := 105) d_C_mean_104 rfl ?_))
          refine sm_callVv (ci := 6) (x := v12) (av := [.inr (.inr v13), .inl (x1 + t8.2)]) (st := []) (mc := 0) (ms := 0) (pc' := 108) d_C_mean_105 rfl (sd_Pl_run v12 v13 (x1 + t8.2)) m_lv rfl cv_Pl_run w_ml_C_422 rfl rfl (by decide) (Nat.le_of_ble_eq_true rfl) rfl rfl ?_
          refine sm_iload_n (i := 3) (j := 0) (pc' := 109) d_C_mean_108 rfl rfl rfl (sm_aload_n (i := 0) (j := 2) (pc' := 110) d_C_mean_109 rfl rfl rfl ?_)
          refine sm_getR (pc' := 113) d_C_mean_110 rfl fl_C_41 rfl rfl (fun v14 => ?_)
          refine sm_callVi (ci := 3) (x := v14) (av := []) (st := [.inl t8.1]) (mc := 0) (ms := 0) (pc' := 116) d_C_mean_113 rfl (sd_Fa_allRust v14) m_lv rfl cv_Fa_allRust w_ml_C_206 rfl rfl (by decide) (Nat.le_of_ble_eq_true rfl) rfl rfl (fun v15 => ?_)
          refine sm_iadd (pc' := 117) d_C_mean_116 rfl (sm_istore_n (i := 3) (L' := [(3, .inl (t8.1 + v15)), (4, .inl t8.2), (0, .inr (.inr x0)), (1, .inl x1), (2, .inl x2)]) (pc' := 118) d_C_mean_117 rfl rfl (Nat.le_of_ble_eq_true rfl) rfl (sm_iinc (j := 1) (L' := [(4, .inl (t8.2 + 1)), (3, .inl (t8.1 + v15)), (0, .inr (.inr x0)), (1, .inl x1), (2, .inl x2)]) (pc' := 121) d_C_mean_118 rfl (v := (t8.2 + 1)) rfl (ix_1 _) (Nat.le_of_ble_eq_true rfl) rfl (sm_goto (tgt := 73) d_C_mean_121 rfl (sm_sub [1, 0, 2, 3, 4] rfl ?_))))
          exact sm_rt rfl
      · refine sm_aload_n (i := 0) (j := 1) (pc' := 125) d_C_mean_124 rfl rfl rfl (sm_iload_n (i := 3) (j := 0) (pc' := 126) d_C_mean_125 rfl rfl rfl (sm_i2l (pc' := 127) d_C_mean_126 rfl (sm_iload_n (i := 2) (j := 2) (pc' := 128) d_C_mean_127 rfl rfl rfl (sm_i2l (pc' := 129) d_C_mean_128 rfl ?_))))
        refine sm_callVv (ci := 0) (x := x0) (av := [.inr (.inl (t16).toInt64), .inr (.inl (x2).toInt64)]) (st := []) (mc := 0) (ms := 0) (pc' := 132) d_C_mean_129 rfl (sd_C_tell x0 (t16).toInt64 (x2).toInt64) m_lv rfl cv_C_tell w_ml_C_407 rfl rfl (by decide) (Nat.le_of_ble_eq_true rfl) rfl rfl ?_
        refine sm_iconst (pc' := 133) d_C_mean_132 rfl ic_1 ?_
        exact sm_zreturn d_C_mean_133 rfl (by decide) rfl
    · refine sm_iconst (pc' := 67) d_C_mean_66 rfl ic_0 ?_
      exact sm_zreturn d_C_mean_67 rfl (by decide) rfl
theorem d_Pl_copyFrom_0 : m_D k_Pl_copyFrom 0 (.aload_n 0) 1 := (by decide +kernel : decode prog_7_method_3_code 0 = .ok (.aload_n 0, 1))
theorem d_Pl_copyFrom_1 : m_D k_Pl_copyFrom 1 (.aload_n 1) 1 := (by decide +kernel : decode prog_7_method_3_code 1 = .ok (.aload_n 1, 1))
theorem d_Pl_copyFrom_2 : m_D k_Pl_copyFrom 2 (.getfield 33) 3 := (by decide +kernel : decode prog_7_method_3_code 2 = .ok (.getfield 33, 3))
theorem d_Pl_copyFrom_5 : m_D k_Pl_copyFrom 5 (.putfield 33) 3 := (by decide +kernel : decode prog_7_method_3_code 5 = .ok (.putfield 33, 3))
theorem d_Pl_copyFrom_8 : m_D k_Pl_copyFrom 8 (.aload_n 0) 1 := (by decide +kernel : decode prog_7_method_3_code 8 = .ok (.aload_n 0, 1))
theorem d_Pl_copyFrom_9 : m_D k_Pl_copyFrom 9 (.aload_n 1) 1 := (by decide +kernel : decode prog_7_method_3_code 9 = .ok (.aload_n 1, 1))
theorem d_Pl_copyFrom_10 : m_D k_Pl_copyFrom 10 (.getfield 37) 3 := (by decide +kernel : decode prog_7_method_3_code 10 = .ok (.getfield 37, 3))
theorem d_Pl_copyFrom_13 : m_D k_Pl_copyFrom 13 (.putfield 37) 3 := (by decide +kernel : decode prog_7_method_3_code 13 = .ok (.putfield 37, 3))
theorem d_Pl_copyFrom_16 : m_D k_Pl_copyFrom 16 (.aload_n 1) 1 := (by decide +kernel : decode prog_7_method_3_code 16 = .ok (.aload_n 1, 1))
theorem d_Pl_copyFrom_17 : m_D k_Pl_copyFrom 17 (.getfield 11) 3 := (by decide +kernel : decode prog_7_method_3_code 17 = .ok (.getfield 11, 3))
theorem d_Pl_copyFrom_20 : m_D k_Pl_copyFrom 20 (.iconst 0) 1 := (by decide +kernel : decode prog_7_method_3_code 20 = .ok (.iconst 0, 1))
theorem d_Pl_copyFrom_21 : m_D k_Pl_copyFrom 21 (.aload_n 0) 1 := (by decide +kernel : decode prog_7_method_3_code 21 = .ok (.aload_n 0, 1))
theorem d_Pl_copyFrom_22 : m_D k_Pl_copyFrom 22 (.getfield 11) 3 := (by decide +kernel : decode prog_7_method_3_code 22 = .ok (.getfield 11, 3))
theorem d_Pl_copyFrom_25 : m_D k_Pl_copyFrom 25 (.iconst 0) 1 := (by decide +kernel : decode prog_7_method_3_code 25 = .ok (.iconst 0, 1))
theorem d_Pl_copyFrom_26 : m_D k_Pl_copyFrom 26 (.aload_n 0) 1 := (by decide +kernel : decode prog_7_method_3_code 26 = .ok (.aload_n 0, 1))
theorem d_Pl_copyFrom_27 : m_D k_Pl_copyFrom 27 (.getfield 37) 3 := (by decide +kernel : decode prog_7_method_3_code 27 = .ok (.getfield 37, 3))
theorem d_Pl_copyFrom_30 : m_D k_Pl_copyFrom 30 (.invokestatic 41) 3 := (by decide +kernel : decode prog_7_method_3_code 30 = .ok (.invokestatic 41, 3))
theorem d_Pl_copyFrom_33 : m_D k_Pl_copyFrom 33 (.aload_n 1) 1 := (by decide +kernel : decode prog_7_method_3_code 33 = .ok (.aload_n 1, 1))
theorem d_Pl_copyFrom_34 : m_D k_Pl_copyFrom 34 (.getfield 15) 3 := (by decide +kernel : decode prog_7_method_3_code 34 = .ok (.getfield 15, 3))
theorem d_Pl_copyFrom_37 : m_D k_Pl_copyFrom 37 (.iconst 0) 1 := (by decide +kernel : decode prog_7_method_3_code 37 = .ok (.iconst 0, 1))
theorem d_Pl_copyFrom_38 : m_D k_Pl_copyFrom 38 (.aload_n 0) 1 := (by decide +kernel : decode prog_7_method_3_code 38 = .ok (.aload_n 0, 1))
theorem d_Pl_copyFrom_39 : m_D k_Pl_copyFrom 39 (.getfield 15) 3 := (by decide +kernel : decode prog_7_method_3_code 39 = .ok (.getfield 15, 3))
theorem d_Pl_copyFrom_42 : m_D k_Pl_copyFrom 42 (.iconst 0) 1 := (by decide +kernel : decode prog_7_method_3_code 42 = .ok (.iconst 0, 1))
theorem d_Pl_copyFrom_43 : m_D k_Pl_copyFrom 43 (.aload_n 0) 1 := (by decide +kernel : decode prog_7_method_3_code 43 = .ok (.aload_n 0, 1))
theorem d_Pl_copyFrom_44 : m_D k_Pl_copyFrom 44 (.getfield 37) 3 := (by decide +kernel : decode prog_7_method_3_code 44 = .ok (.getfield 37, 3))
theorem d_Pl_copyFrom_47 : m_D k_Pl_copyFrom 47 (.invokestatic 41) 3 := (by decide +kernel : decode prog_7_method_3_code 47 = .ok (.invokestatic 41, 3))
theorem d_Pl_copyFrom_50 : m_D k_Pl_copyFrom 50 (.aload_n 1) 1 := (by decide +kernel : decode prog_7_method_3_code 50 = .ok (.aload_n 1, 1))
theorem d_Pl_copyFrom_51 : m_D k_Pl_copyFrom 51 (.getfield 18) 3 := (by decide +kernel : decode prog_7_method_3_code 51 = .ok (.getfield 18, 3))
theorem d_Pl_copyFrom_54 : m_D k_Pl_copyFrom 54 (.iconst 0) 1 := (by decide +kernel : decode prog_7_method_3_code 54 = .ok (.iconst 0, 1))
theorem d_Pl_copyFrom_55 : m_D k_Pl_copyFrom 55 (.aload_n 0) 1 := (by decide +kernel : decode prog_7_method_3_code 55 = .ok (.aload_n 0, 1))
theorem d_Pl_copyFrom_56 : m_D k_Pl_copyFrom 56 (.getfield 18) 3 := (by decide +kernel : decode prog_7_method_3_code 56 = .ok (.getfield 18, 3))
theorem d_Pl_copyFrom_59 : m_D k_Pl_copyFrom 59 (.iconst 0) 1 := (by decide +kernel : decode prog_7_method_3_code 59 = .ok (.iconst 0, 1))
theorem d_Pl_copyFrom_60 : m_D k_Pl_copyFrom 60 (.aload_n 0) 1 := (by decide +kernel : decode prog_7_method_3_code 60 = .ok (.aload_n 0, 1))
theorem d_Pl_copyFrom_61 : m_D k_Pl_copyFrom 61 (.getfield 37) 3 := (by decide +kernel : decode prog_7_method_3_code 61 = .ok (.getfield 37, 3))
theorem d_Pl_copyFrom_64 : m_D k_Pl_copyFrom 64 (.invokestatic 41) 3 := (by decide +kernel : decode prog_7_method_3_code 64 = .ok (.invokestatic 41, 3))
theorem d_Pl_copyFrom_67 : m_D k_Pl_copyFrom 67 (.aload_n 1) 1 := (by decide +kernel : decode prog_7_method_3_code 67 = .ok (.aload_n 1, 1))
theorem d_Pl_copyFrom_68 : m_D k_Pl_copyFrom 68 (.getfield 21) 3 := (by decide +kernel : decode prog_7_method_3_code 68 = .ok (.getfield 21, 3))
theorem d_Pl_copyFrom_71 : m_D k_Pl_copyFrom 71 (.iconst 0) 1 := (by decide +kernel : decode prog_7_method_3_code 71 = .ok (.iconst 0, 1))
theorem d_Pl_copyFrom_72 : m_D k_Pl_copyFrom 72 (.aload_n 0) 1 := (by decide +kernel : decode prog_7_method_3_code 72 = .ok (.aload_n 0, 1))
theorem d_Pl_copyFrom_73 : m_D k_Pl_copyFrom 73 (.getfield 21) 3 := (by decide +kernel : decode prog_7_method_3_code 73 = .ok (.getfield 21, 3))
theorem d_Pl_copyFrom_76 : m_D k_Pl_copyFrom 76 (.iconst 0) 1 := (by decide +kernel : decode prog_7_method_3_code 76 = .ok (.iconst 0, 1))
theorem d_Pl_copyFrom_77 : m_D k_Pl_copyFrom 77 (.aload_n 0) 1 := (by decide +kernel : decode prog_7_method_3_code 77 = .ok (.aload_n 0, 1))
theorem d_Pl_copyFrom_78 : m_D k_Pl_copyFrom 78 (.getfield 37) 3 := (by decide +kernel : decode prog_7_method_3_code 78 = .ok (.getfield 37, 3))
theorem d_Pl_copyFrom_81 : m_D k_Pl_copyFrom 81 (.invokestatic 41) 3 := (by decide +kernel : decode prog_7_method_3_code 81 = .ok (.invokestatic 41, 3))
theorem d_Pl_copyFrom_84 : m_D k_Pl_copyFrom 84 (.aload_n 1) 1 := (by decide +kernel : decode prog_7_method_3_code 84 = .ok (.aload_n 1, 1))
theorem d_Pl_copyFrom_85 : m_D k_Pl_copyFrom 85 (.getfield 24) 3 := (by decide +kernel : decode prog_7_method_3_code 85 = .ok (.getfield 24, 3))
theorem d_Pl_copyFrom_88 : m_D k_Pl_copyFrom 88 (.iconst 0) 1 := (by decide +kernel : decode prog_7_method_3_code 88 = .ok (.iconst 0, 1))
theorem d_Pl_copyFrom_89 : m_D k_Pl_copyFrom 89 (.aload_n 0) 1 := (by decide +kernel : decode prog_7_method_3_code 89 = .ok (.aload_n 0, 1))
theorem d_Pl_copyFrom_90 : m_D k_Pl_copyFrom 90 (.getfield 24) 3 := (by decide +kernel : decode prog_7_method_3_code 90 = .ok (.getfield 24, 3))
theorem d_Pl_copyFrom_93 : m_D k_Pl_copyFrom 93 (.iconst 0) 1 := (by decide +kernel : decode prog_7_method_3_code 93 = .ok (.iconst 0, 1))
theorem d_Pl_copyFrom_94 : m_D k_Pl_copyFrom 94 (.aload_n 0) 1 := (by decide +kernel : decode prog_7_method_3_code 94 = .ok (.aload_n 0, 1))
theorem d_Pl_copyFrom_95 : m_D k_Pl_copyFrom 95 (.getfield 37) 3 := (by decide +kernel : decode prog_7_method_3_code 95 = .ok (.getfield 37, 3))
theorem d_Pl_copyFrom_98 : m_D k_Pl_copyFrom 98 (.invokestatic 41) 3 := (by decide +kernel : decode prog_7_method_3_code 98 = .ok (.invokestatic 41, 3))
theorem d_Pl_copyFrom_101 : m_D k_Pl_copyFrom 101 (.return_) 1 := (by decide +kernel : decode prog_7_method_3_code 101 = .ok (.return_, 1))
def fn_Pl_copyFrom (x0 : Option mA) (x1 : Option mA) : mP Unit :=
  m_th 6 x0 <|
  m_bd (m_gI 6 0 x1) fun v1 =>
  m_bd (m_pZ 6 0 x0 v1) fun _ =>
  m_bd (m_gI 6 1 x1) fun v2 =>
  m_bd (m_pI 6 1 x0 v2) fun _ =>
  m_bd (m_gR 6 2 x1) fun v3 =>
  m_bd (m_gR 6 2 x0) fun v4 =>
  m_bd (m_gI 6 1 x0) fun v5 =>
  m_bd (m_cpI v3 0 v4 0 v5) fun _ =>
  m_bd (m_gR 6 3 x1) fun v6 =>
  m_bd (m_gR 6 3 x0) fun v7 =>
  m_bd (m_gI 6 1 x0) fun v8 =>
  m_bd (m_cpI v6 0 v7 0 v8) fun _ =>
  m_bd (m_gR 6 4 x1) fun v9 =>
  m_bd (m_gR 6 4 x0) fun v10 =>
  m_bd (m_gI 6 1 x0) fun v11 =>
  m_bd (m_cpI v9 0 v10 0 v11) fun _ =>
  m_bd (m_gR 6 5 x1) fun v12 =>
  m_bd (m_gR 6 5 x0) fun v13 =>
  m_bd (m_gI 6 1 x0) fun v14 =>
  m_bd (m_cpI v12 0 v13 0 v14) fun _ =>
  m_bd (m_gR 6 6 x1) fun v15 =>
  m_bd (m_gR 6 6 x0) fun v16 =>
  m_bd (m_gI 6 1 x0) fun v17 =>
  m_bd (m_cpI v15 0 v16 0 v17) fun _ =>
  m_rt ()
set_option maxHeartbeats 4000000 in
set_option maxRecDepth 100000 in
theorem sd_Pl_copyFrom (x0 : Option mA) (x1 : Option mA) : m_Sm k_Pl_copyFrom 1 0 0 [.inr (.inr x0), .inr (.inr x1)] (fn_Pl_copyFrom x0 x1) (fun _ => none) := by
  refine ⟨Nat.le_of_ble_eq_true rfl, ?_⟩
  refine sm_th ?_
  refine sm_aload_n (i := 0) (j := 0) (pc' := 1) d_Pl_copyFrom_0 rfl rfl rfl (sm_aload_n (i := 1) (j := 1) (pc' := 2) d_Pl_copyFrom_1 rfl rfl rfl ?_)
  refine sm_getI (pc' := 5) d_Pl_copyFrom_2 rfl fl_Pl_33 rfl ⟨by decide, by decide⟩ (fun v1 => ?_)
  refine sm_putZ (pc' := 8) d_Pl_copyFrom_5 rfl fl_Pl_33 (Or.inl rfl) rfl (sm_aload_n (i := 0) (j := 0) (pc' := 9) d_Pl_copyFrom_8 rfl rfl rfl (sm_aload_n (i := 1) (j := 1) (pc' := 10) d_Pl_copyFrom_9 rfl rfl rfl ?_))
  refine sm_getI (pc' := 13) d_Pl_copyFrom_10 rfl fl_Pl_37 rfl ⟨by decide, by decide⟩ (fun v2 => ?_)
  refine sm_putI (pc' := 16) d_Pl_copyFrom_13 rfl fl_Pl_37 (Or.inl rfl) rfl (sm_aload_n (i := 1) (j := 1) (pc' := 17) d_Pl_copyFrom_16 rfl rfl rfl ?_)
  refine sm_getR (pc' := 20) d_Pl_copyFrom_17 rfl fl_Pl_11 rfl rfl (fun v3 => ?_)
  refine sm_iconst (pc' := 21) d_Pl_copyFrom_20 rfl ic_0 (sm_aload_n (i := 0) (j := 0) (pc' := 22) d_Pl_copyFrom_21 rfl rfl rfl ?_)
  refine sm_getR (pc' := 25) d_Pl_copyFrom_22 rfl fl_Pl_11 rfl rfl (fun v4 => ?_)
  refine sm_iconst (pc' := 26) d_Pl_copyFrom_25 rfl ic_0 (sm_aload_n (i := 0) (j := 0) (pc' := 27) d_Pl_copyFrom_26 rfl rfl rfl ?_)
  refine sm_getI (pc' := 30) d_Pl_copyFrom_27 rfl fl_Pl_37 rfl ⟨by decide, by decide⟩ (fun v5 => ?_)
  refine sm_cpI (pc' := 33) d_Pl_copyFrom_30 rfl w_ml_Pl_41 w_na_java_lang_System_arraycopy w_st_java_lang_System_arraycopy w_in_java_lang_System (by decide) rfl (sm_aload_n (i := 1) (j := 1) (pc' := 34) d_Pl_copyFrom_33 rfl rfl rfl ?_)
  refine sm_getR (pc' := 37) d_Pl_copyFrom_34 rfl fl_Pl_15 rfl rfl (fun v6 => ?_)
  refine sm_iconst (pc' := 38) d_Pl_copyFrom_37 rfl ic_0 (sm_aload_n (i := 0) (j := 0) (pc' := 39) d_Pl_copyFrom_38 rfl rfl rfl ?_)
  refine sm_getR (pc' := 42) d_Pl_copyFrom_39 rfl fl_Pl_15 rfl rfl (fun v7 => ?_)
  refine sm_iconst (pc' := 43) d_Pl_copyFrom_42 rfl ic_0 (sm_aload_n (i := 0) (j := 0) (pc' := 44) d_Pl_copyFrom_43 rfl rfl rfl ?_)
  refine sm_getI (pc' := 47) d_Pl_copyFrom_44 rfl fl_Pl_37 rfl ⟨by decide, by decide⟩ (fun v8 => ?_)
  refine sm_cpI (pc' := 50) d_Pl_copyFrom_47 rfl w_ml_Pl_41 w_na_java_lang_System_arraycopy w_st_java_lang_System_arraycopy w_in_java_lang_System (by decide) rfl (sm_aload_n (i := 1) (j := 1) (pc' := 51) d_Pl_copyFrom_50 rfl rfl rfl ?_)
  refine sm_getR (pc' := 54) d_Pl_copyFrom_51 rfl fl_Pl_18 rfl rfl (fun v9 => ?_)
  refine sm_iconst (pc' := 55) d_Pl_copyFrom_54 rfl ic_0 (sm_aload_n (i := 0) (j := 0) (pc' := 56) d_Pl_copyFrom_55 rfl rfl rfl ?_)
  refine sm_getR (pc' := 59) d_Pl_copyFrom_56 rfl fl_Pl_18 rfl rfl (fun v10 => ?_)
  refine sm_iconst (pc' := 60) d_Pl_copyFrom_59 rfl ic_0 (sm_aload_n (i := 0) (j := 0) (pc' := 61) d_Pl_copyFrom_60 rfl rfl rfl ?_)
  refine sm_getI (pc' := 64) d_Pl_copyFrom_61 rfl fl_Pl_37 rfl ⟨by decide, by decide⟩ (fun v11 => ?_)
  refine sm_cpI (pc' := 67) d_Pl_copyFrom_64 rfl w_ml_Pl_41 w_na_java_lang_System_arraycopy w_st_java_lang_System_arraycopy w_in_java_lang_System (by decide) rfl (sm_aload_n (i := 1) (j := 1) (pc' := 68) d_Pl_copyFrom_67 rfl rfl rfl ?_)
  refine sm_getR (pc' := 71) d_Pl_copyFrom_68 rfl fl_Pl_21 rfl rfl (fun v12 => ?_)
  refine sm_iconst (pc' := 72) d_Pl_copyFrom_71 rfl ic_0 (sm_aload_n (i := 0) (j := 0) (pc' := 73) d_Pl_copyFrom_72 rfl rfl rfl ?_)
  refine sm_getR (pc' := 76) d_Pl_copyFrom_73 rfl fl_Pl_21 rfl rfl (fun v13 => ?_)
  refine sm_iconst (pc' := 77) d_Pl_copyFrom_76 rfl ic_0 (sm_aload_n (i := 0) (j := 0) (pc' := 78) d_Pl_copyFrom_77 rfl rfl rfl ?_)
  refine sm_getI (pc' := 81) d_Pl_copyFrom_78 rfl fl_Pl_37 rfl ⟨by decide, by decide⟩ (fun v14 => ?_)
  refine sm_cpI (pc' := 84) d_Pl_copyFrom_81 rfl w_ml_Pl_41 w_na_java_lang_System_arraycopy w_st_java_lang_System_arraycopy w_in_java_lang_System (by decide) rfl (sm_aload_n (i := 1) (j := 1) (pc' := 85) d_Pl_copyFrom_84 rfl rfl rfl ?_)
  refine sm_getR (pc' := 88) d_Pl_copyFrom_85 rfl fl_Pl_24 rfl rfl (fun v15 => ?_)
  refine sm_iconst (pc' := 89) d_Pl_copyFrom_88 rfl ic_0 (sm_aload_n (i := 0) (j := 0) (pc' := 90) d_Pl_copyFrom_89 rfl rfl rfl ?_)
  refine sm_getR (pc' := 93) d_Pl_copyFrom_90 rfl fl_Pl_24 rfl rfl (fun v16 => ?_)
  refine sm_iconst (pc' := 94) d_Pl_copyFrom_93 rfl ic_0 (sm_aload_n (i := 0) (j := 0) (pc' := 95) d_Pl_copyFrom_94 rfl rfl rfl ?_)
  refine sm_getI (pc' := 98) d_Pl_copyFrom_95 rfl fl_Pl_37 rfl ⟨by decide, by decide⟩ (fun v17 => ?_)
  refine sm_cpI (pc' := 101) d_Pl_copyFrom_98 rfl w_ml_Pl_41 w_na_java_lang_System_arraycopy w_st_java_lang_System_arraycopy w_in_java_lang_System (by decide) rfl ?_
  exact sm_return d_Pl_copyFrom_101 rfl rfl
