/-! 10.ref1, laid by wip/whole/gen.py -/
theorem d_M_fail_0 : m_D k_M_fail 0 (.aload_n 0) 1 := (by decide +kernel : decode prog_14_method_45_code 0 = .ok (.aload_n 0, 1))
theorem d_M_fail_1 : m_D k_M_fail 1 (.getfield 218) 3 := (by decide +kernel : decode prog_14_method_45_code 1 = .ok (.getfield 218, 3))
theorem d_M_fail_4 : m_D k_M_fail 4 (.ifCond .le 4) 3 := (by decide +kernel : decode prog_14_method_45_code 4 = .ok (.ifCond .le 4, 3))
theorem d_M_fail_7 : m_D k_M_fail 7 (.return_) 1 := (by decide +kernel : decode prog_14_method_45_code 7 = .ok (.return_, 1))
theorem d_M_fail_8 : m_D k_M_fail 8 (.aload_n 0) 1 := (by decide +kernel : decode prog_14_method_45_code 8 = .ok (.aload_n 0, 1))
theorem d_M_fail_9 : m_D k_M_fail 9 (.iload_n 1) 1 := (by decide +kernel : decode prog_14_method_45_code 9 = .ok (.iload_n 1, 1))
theorem d_M_fail_10 : m_D k_M_fail 10 (.putfield 218) 3 := (by decide +kernel : decode prog_14_method_45_code 10 = .ok (.putfield 218, 3))
theorem d_M_fail_13 : m_D k_M_fail 13 (.aload_n 0) 1 := (by decide +kernel : decode prog_14_method_45_code 13 = .ok (.aload_n 0, 1))
theorem d_M_fail_14 : m_D k_M_fail 14 (.iload_n 2) 1 := (by decide +kernel : decode prog_14_method_45_code 14 = .ok (.iload_n 2, 1))
theorem d_M_fail_15 : m_D k_M_fail 15 (.putfield 221) 3 := (by decide +kernel : decode prog_14_method_45_code 15 = .ok (.putfield 221, 3))
theorem d_M_fail_18 : m_D k_M_fail 18 (.return_) 1 := (by decide +kernel : decode prog_14_method_45_code 18 = .ok (.return_, 1))
def fn_M_fail (x0 : Option mA) (x1 : Int32) (x2 : Int32) : mP Unit :=
  m_th 11 x0 <|
  m_bd (m_gI 11 12 x0) fun v1 =>
  if v1 ≤ 0 then
    m_bd (m_pI 11 12 x0 x1) fun _ =>
    m_bd (m_pI 11 13 x0 x2) fun _ =>
    m_rt ()
  else
    m_rt ()
set_option maxHeartbeats 4000000 in
set_option maxRecDepth 100000 in
theorem sd_M_fail (x0 : Option mA) (x1 : Int32) (x2 : Int32) : m_Sm k_M_fail 1 0 0 [.inr (.inr x0), .inl x1, .inl x2] (fn_M_fail x0 x1 x2) (fun _ => none) := by
  refine ⟨Nat.le_of_ble_eq_true rfl, ?_⟩
  refine sm_th ?_
  refine sm_aload_n (i := 0) (j := 0) (pc' := 1) d_M_fail_0 rfl rfl rfl ?_
  refine sm_getI (pc' := 4) d_M_fail_1 rfl fl_M_218 rfl ⟨by decide, by decide⟩ (fun v1 => ?_)
  refine sm_if_le (tgt := 8) (pc' := 7) d_M_fail_4 rfl rfl ?_ ?_
  · refine sm_aload_n (i := 0) (j := 0) (pc' := 9) d_M_fail_8 rfl rfl rfl (sm_iload_n (i := 1) (j := 1) (pc' := 10) d_M_fail_9 rfl rfl rfl (sm_putI (pc' := 13) d_M_fail_10 rfl fl_M_218 (Or.inl rfl) rfl (sm_aload_n (i := 0) (j := 0) (pc' := 14) d_M_fail_13 rfl rfl rfl (sm_iload_n (i := 2) (j := 2) (pc' := 15) d_M_fail_14 rfl rfl rfl (sm_putI (pc' := 18) d_M_fail_15 rfl fl_M_221 (Or.inl rfl) rfl ?_)))))
    exact sm_return d_M_fail_18 rfl rfl
  · exact sm_return d_M_fail_7 rfl rfl
theorem d_M_amiss_0 : m_D k_M_amiss 0 (.aload_n 0) 1 := (by decide +kernel : decode prog_14_method_46_code 0 = .ok (.aload_n 0, 1))
theorem d_M_amiss_1 : m_D k_M_amiss 1 (.aload_n 0) 1 := (by decide +kernel : decode prog_14_method_46_code 1 = .ok (.aload_n 0, 1))
theorem d_M_amiss_2 : m_D k_M_amiss 2 (.getfield 136) 3 := (by decide +kernel : decode prog_14_method_46_code 2 = .ok (.getfield 136, 3))
theorem d_M_amiss_5 : m_D k_M_amiss 5 (.iconst 4) 1 := (by decide +kernel : decode prog_14_method_46_code 5 = .ok (.iconst 4, 1))
theorem d_M_amiss_6 : m_D k_M_amiss 6 (.if_icmp .ne 7) 3 := (by decide +kernel : decode prog_14_method_46_code 6 = .ok (.if_icmp .ne 7, 3))
theorem d_M_amiss_9 : m_D k_M_amiss 9 (.iconst 1) 1 := (by decide +kernel : decode prog_14_method_46_code 9 = .ok (.iconst 1, 1))
theorem d_M_amiss_10 : m_D k_M_amiss 10 (.goto 4) 3 := (by decide +kernel : decode prog_14_method_46_code 10 = .ok (.goto 4, 3))
theorem d_M_amiss_13 : m_D k_M_amiss 13 (.iconst 2) 1 := (by decide +kernel : decode prog_14_method_46_code 13 = .ok (.iconst 2, 1))
theorem d_M_amiss_14 : m_D k_M_amiss 14 (.aload_n 0) 1 := (by decide +kernel : decode prog_14_method_46_code 14 = .ok (.aload_n 0, 1))
theorem d_M_amiss_15 : m_D k_M_amiss 15 (.getfield 130) 3 := (by decide +kernel : decode prog_14_method_46_code 15 = .ok (.getfield 130, 3))
theorem d_M_amiss_18 : m_D k_M_amiss 18 (.invokevirtual 224) 3 := (by decide +kernel : decode prog_14_method_46_code 18 = .ok (.invokevirtual 224, 3))
theorem d_M_amiss_21 : m_D k_M_amiss 21 (.return_) 1 := (by decide +kernel : decode prog_14_method_46_code 21 = .ok (.return_, 1))
def fn_M_amiss (x0 : Option mA) : mP Unit :=
  m_th 11 x0 <|
  m_bd (m_gI 11 14 x0) fun v1 =>
  m_bd (α := Int32) (
    if v1 = 4 then
      m_rt 1
    else
      m_rt 2
    ) fun (t2 : Int32) =>
  m_bd (m_gI 11 15 x0) fun v3 =>
  m_bd (fn_M_fail x0 t2 v3) fun _ =>
  m_rt ()
set_option maxHeartbeats 4000000 in
set_option maxRecDepth 100000 in
theorem sd_M_amiss (x0 : Option mA) : m_Sm k_M_amiss 2 0 0 [.inr (.inr x0)] (fn_M_amiss x0) (fun _ => none) := by
  refine ⟨Nat.le_of_ble_eq_true rfl, ?_⟩
  refine sm_th ?_
  refine sm_aload_n (i := 0) (j := 0) (pc' := 1) d_M_amiss_0 rfl rfl rfl (sm_aload_n (i := 0) (j := 0) (pc' := 2) d_M_amiss_1 rfl rfl rfl ?_)
  refine sm_getI (pc' := 5) d_M_amiss_2 rfl fl_M_136 rfl ⟨by decide, by decide⟩ (fun v1 => ?_)
  refine sm_iconst (pc' := 6) d_M_amiss_5 rfl ic_4 ?_
  refine sm_bd (mid := fun (t2 : Int32) => .inl (14, [(0, .inr (.inr x0))], [.inl t2, .inr (.inr x0)])) ?_ (fun t2 => ?_)
  · refine sm_icmp_ne (tgt := 13) (pc' := 9) d_M_amiss_6 rfl rfl ?_ ?_
    · refine sm_iconst (pc' := 14) d_M_amiss_13 rfl ic_2 (sm_sub [0] rfl ?_)
      exact sm_rt rfl
    · refine sm_iconst (pc' := 10) d_M_amiss_9 rfl ic_1 (sm_goto (tgt := 14) d_M_amiss_10 rfl (sm_sub [0] rfl ?_))
      exact sm_rt rfl
  · refine sm_aload_n (i := 0) (j := 0) (pc' := 15) d_M_amiss_14 rfl rfl rfl ?_
    refine sm_getI (pc' := 18) d_M_amiss_15 rfl fl_M_130 rfl ⟨by decide, by decide⟩ (fun v3 => ?_)
    refine sm_callVv (ci := 11) (x := x0) (av := [.inl t2, .inl v3]) (st := []) (mc := 0) (ms := 0) (pc' := 21) d_M_amiss_18 rfl (sd_M_fail x0 t2 v3) m_lv rfl cv_M_fail w_ml_M_224 rfl rfl (by decide) (Nat.le_of_ble_eq_true rfl) rfl rfl ?_
    exact sm_return d_M_amiss_21 rfl rfl
theorem d_M_must_0 : m_D k_M_must 0 (.aload_n 0) 1 := (by decide +kernel : decode prog_14_method_47_code 0 = .ok (.aload_n 0, 1))
theorem d_M_must_1 : m_D k_M_must 1 (.getfield 218) 3 := (by decide +kernel : decode prog_14_method_47_code 1 = .ok (.getfield 218, 3))
theorem d_M_must_4 : m_D k_M_must 4 (.ifCond .le 4) 3 := (by decide +kernel : decode prog_14_method_47_code 4 = .ok (.ifCond .le 4, 3))
theorem d_M_must_7 : m_D k_M_must 7 (.return_) 1 := (by decide +kernel : decode prog_14_method_47_code 7 = .ok (.return_, 1))
theorem d_M_must_8 : m_D k_M_must 8 (.iload_n 1) 1 := (by decide +kernel : decode prog_14_method_47_code 8 = .ok (.iload_n 1, 1))
theorem d_M_must_9 : m_D k_M_must 9 (.ifCond .eq 10) 3 := (by decide +kernel : decode prog_14_method_47_code 9 = .ok (.ifCond .eq 10, 3))
theorem d_M_must_12 : m_D k_M_must 12 (.aload_n 0) 1 := (by decide +kernel : decode prog_14_method_47_code 12 = .ok (.aload_n 0, 1))
theorem d_M_must_13 : m_D k_M_must 13 (.invokevirtual 228) 3 := (by decide +kernel : decode prog_14_method_47_code 13 = .ok (.invokevirtual 228, 3))
theorem d_M_must_16 : m_D k_M_must 16 (.goto 7) 3 := (by decide +kernel : decode prog_14_method_47_code 16 = .ok (.goto 7, 3))
theorem d_M_must_19 : m_D k_M_must 19 (.aload_n 0) 1 := (by decide +kernel : decode prog_14_method_47_code 19 = .ok (.aload_n 0, 1))
theorem d_M_must_20 : m_D k_M_must 20 (.invokevirtual 231) 3 := (by decide +kernel : decode prog_14_method_47_code 20 = .ok (.invokevirtual 231, 3))
theorem d_M_must_23 : m_D k_M_must 23 (.return_) 1 := (by decide +kernel : decode prog_14_method_47_code 23 = .ok (.return_, 1))
def fn_M_must (x0 : Option mA) (x1 : Int32) : mP Unit :=
  m_th 11 x0 <|
  m_bd (m_gI 11 12 x0) fun v1 =>
  if v1 ≤ 0 then
    if x1 = 0 then
      m_bd (fn_M_amiss x0) fun _ =>
      m_rt ()
    else
      m_bd (fn_M_advance x0) fun _ =>
      m_rt ()
  else
    m_rt ()
set_option maxHeartbeats 4000000 in
set_option maxRecDepth 100000 in
theorem sd_M_must (x0 : Option mA) (x1 : Int32) : m_Sm k_M_must 3 0 0 [.inr (.inr x0), .inl x1] (fn_M_must x0 x1) (fun _ => none) := by
  refine ⟨Nat.le_of_ble_eq_true rfl, ?_⟩
  refine sm_th ?_
  refine sm_aload_n (i := 0) (j := 0) (pc' := 1) d_M_must_0 rfl rfl rfl ?_
  refine sm_getI (pc' := 4) d_M_must_1 rfl fl_M_218 rfl ⟨by decide, by decide⟩ (fun v1 => ?_)
  refine sm_if_le (tgt := 8) (pc' := 7) d_M_must_4 rfl rfl ?_ ?_
  · refine sm_iload_n (i := 1) (j := 1) (pc' := 9) d_M_must_8 rfl rfl rfl ?_
    refine sm_if_eq (tgt := 19) (pc' := 12) d_M_must_9 rfl rfl ?_ ?_
    · refine sm_aload_n (i := 0) (j := 0) (pc' := 20) d_M_must_19 rfl rfl rfl ?_
      refine sm_callVv (ci := 11) (x := x0) (av := []) (st := []) (mc := 0) (ms := 0) (pc' := 23) d_M_must_20 rfl (sd_M_amiss x0) m_lv rfl cv_M_amiss w_ml_M_231 rfl rfl (by decide) (Nat.le_of_ble_eq_true rfl) rfl rfl ?_
      exact sm_return d_M_must_23 rfl rfl
    · refine sm_aload_n (i := 0) (j := 0) (pc' := 13) d_M_must_12 rfl rfl rfl ?_
      refine sm_callVv (ci := 11) (x := x0) (av := []) (st := []) (mc := 0) (ms := 0) (pc' := 16) d_M_must_13 rfl (sd_M_advance x0) m_lv rfl cv_M_advance w_ml_M_228 rfl rfl (by decide) (Nat.le_of_ble_eq_true rfl) rfl rfl ?_
      refine sm_goto (tgt := 23) d_M_must_16 rfl ?_
      exact sm_return d_M_must_23 rfl rfl
  · exact sm_return d_M_must_7 rfl rfl
theorem d_M_isWord_0 : m_D k_M_isWord 0 (.aload_n 0) 1 := (by decide +kernel : decode prog_14_method_28_code 0 = .ok (.aload_n 0, 1))
theorem d_M_isWord_1 : m_D k_M_isWord 1 (.getfield 136) 3 := (by decide +kernel : decode prog_14_method_28_code 1 = .ok (.getfield 136, 3))
theorem d_M_isWord_4 : m_D k_M_isWord 4 (.iconst 1) 1 := (by decide +kernel : decode prog_14_method_28_code 4 = .ok (.iconst 1, 1))
theorem d_M_isWord_5 : m_D k_M_isWord 5 (.if_icmp .ne 16) 3 := (by decide +kernel : decode prog_14_method_28_code 5 = .ok (.if_icmp .ne 16, 3))
theorem d_M_isWord_8 : m_D k_M_isWord 8 (.aload_n 0) 1 := (by decide +kernel : decode prog_14_method_28_code 8 = .ok (.aload_n 0, 1))
theorem d_M_isWord_9 : m_D k_M_isWord 9 (.getfield 142) 3 := (by decide +kernel : decode prog_14_method_28_code 9 = .ok (.getfield 142, 3))
theorem d_M_isWord_12 : m_D k_M_isWord 12 (.lload_n 1) 1 := (by decide +kernel : decode prog_14_method_28_code 12 = .ok (.lload_n 1, 1))
theorem d_M_isWord_13 : m_D k_M_isWord 13 (.lcmp) 1 := (by decide +kernel : decode prog_14_method_28_code 13 = .ok (.lcmp, 1))
theorem d_M_isWord_14 : m_D k_M_isWord 14 (.ifCond .ne 7) 3 := (by decide +kernel : decode prog_14_method_28_code 14 = .ok (.ifCond .ne 7, 3))
theorem d_M_isWord_17 : m_D k_M_isWord 17 (.iconst 1) 1 := (by decide +kernel : decode prog_14_method_28_code 17 = .ok (.iconst 1, 1))
theorem d_M_isWord_18 : m_D k_M_isWord 18 (.goto 4) 3 := (by decide +kernel : decode prog_14_method_28_code 18 = .ok (.goto 4, 3))
theorem d_M_isWord_21 : m_D k_M_isWord 21 (.iconst 0) 1 := (by decide +kernel : decode prog_14_method_28_code 21 = .ok (.iconst 0, 1))
theorem d_M_isWord_22 : m_D k_M_isWord 22 (.ireturn) 1 := (by decide +kernel : decode prog_14_method_28_code 22 = .ok (.ireturn, 1))
def fn_M_isWord (x0 : Option mA) (x1 : Int64) : mP Int32 :=
  m_th 11 x0 <|
  m_bd (m_gI 11 14 x0) fun v1 =>
  if v1 = 1 then
    m_bd (m_gJ 11 19 x0) fun v2 =>
    if (lg_cmp v2 x1) = 0 then
      m_rt 1
    else
      m_rt 0
  else
    m_rt 0
set_option maxHeartbeats 4000000 in
set_option maxRecDepth 100000 in
theorem sd_M_isWord (x0 : Option mA) (x1 : Int64) : m_Sm k_M_isWord 1 0 0 [.inr (.inr x0), .inr (.inl x1)] (fn_M_isWord x0 x1) (fun b => some (.inl b)) := by
  refine ⟨Nat.le_of_ble_eq_true rfl, ?_⟩
  refine sm_th ?_
  refine sm_aload_n (i := 0) (j := 0) (pc' := 1) d_M_isWord_0 rfl rfl rfl ?_
  refine sm_getI (pc' := 4) d_M_isWord_1 rfl fl_M_136 rfl ⟨by decide, by decide⟩ (fun v1 => ?_)
  refine sm_iconst (pc' := 5) d_M_isWord_4 rfl ic_1 ?_
  refine sm_icmp_ne (tgt := 21) (pc' := 8) d_M_isWord_5 rfl rfl ?_ ?_
  · refine sm_iconst (pc' := 22) d_M_isWord_21 rfl ic_0 ?_
    exact sm_zreturn d_M_isWord_22 rfl (by decide) rfl
  · refine sm_aload_n (i := 0) (j := 0) (pc' := 9) d_M_isWord_8 rfl rfl rfl ?_
    refine sm_getJ (pc' := 12) d_M_isWord_9 rfl fl_M_142 rfl rfl (fun v2 => ?_)
    refine sm_lload_n (i := 1) (j := 1) (pc' := 13) d_M_isWord_12 rfl rfl rfl (sm_lcmp (pc' := 14) d_M_isWord_13 rfl ?_)
    refine sm_if_ne (tgt := 21) (pc' := 17) d_M_isWord_14 rfl rfl ?_ ?_
    · refine sm_iconst (pc' := 22) d_M_isWord_21 rfl ic_0 ?_
      exact sm_zreturn d_M_isWord_22 rfl (by decide) rfl
    · refine sm_iconst (pc' := 18) d_M_isWord_17 rfl ic_1 (sm_goto (tgt := 22) d_M_isWord_18 rfl ?_)
      exact sm_zreturn d_M_isWord_22 rfl (by decide) rfl
theorem d_M_spelled_0 : m_D k_M_spelled 0 (.iload_n 0) 1 := (by decide +kernel : decode prog_14_method_27_code 0 = .ok (.iload_n 0, 1))
theorem d_M_spelled_1 : m_D k_M_spelled 1 (.i2l) 1 := (by decide +kernel : decode prog_14_method_27_code 1 = .ok (.i2l, 1))
theorem d_M_spelled_2 : m_D k_M_spelled 2 (.ldc2_w 147) 3 := (by decide +kernel : decode prog_14_method_27_code 2 = .ok (.ldc2_w 147, 3))
theorem d_M_spelled_5 : m_D k_M_spelled 5 (.lsub) 1 := (by decide +kernel : decode prog_14_method_27_code 5 = .ok (.lsub, 1))
theorem d_M_spelled_6 : m_D k_M_spelled 6 (.ldc2_w 145) 3 := (by decide +kernel : decode prog_14_method_27_code 6 = .ok (.ldc2_w 145, 3))
theorem d_M_spelled_9 : m_D k_M_spelled 9 (.lmul) 1 := (by decide +kernel : decode prog_14_method_27_code 9 = .ok (.lmul, 1))
theorem d_M_spelled_10 : m_D k_M_spelled 10 (.iload_n 1) 1 := (by decide +kernel : decode prog_14_method_27_code 10 = .ok (.iload_n 1, 1))
theorem d_M_spelled_11 : m_D k_M_spelled 11 (.i2l) 1 := (by decide +kernel : decode prog_14_method_27_code 11 = .ok (.i2l, 1))
theorem d_M_spelled_12 : m_D k_M_spelled 12 (.ladd) 1 := (by decide +kernel : decode prog_14_method_27_code 12 = .ok (.ladd, 1))
theorem d_M_spelled_13 : m_D k_M_spelled 13 (.ldc2_w 147) 3 := (by decide +kernel : decode prog_14_method_27_code 13 = .ok (.ldc2_w 147, 3))
theorem d_M_spelled_16 : m_D k_M_spelled 16 (.lsub) 1 := (by decide +kernel : decode prog_14_method_27_code 16 = .ok (.lsub, 1))
theorem d_M_spelled_17 : m_D k_M_spelled 17 (.lstore 6) 2 := (by decide +kernel : decode prog_14_method_27_code 17 = .ok (.lstore 6, 2))
theorem d_M_spelled_19 : m_D k_M_spelled 19 (.iload_n 2) 1 := (by decide +kernel : decode prog_14_method_27_code 19 = .ok (.iload_n 2, 1))
theorem d_M_spelled_20 : m_D k_M_spelled 20 (.ifCond .le 19) 3 := (by decide +kernel : decode prog_14_method_27_code 20 = .ok (.ifCond .le 19, 3))
theorem d_M_spelled_23 : m_D k_M_spelled 23 (.lload 6) 2 := (by decide +kernel : decode prog_14_method_27_code 23 = .ok (.lload 6, 2))
theorem d_M_spelled_25 : m_D k_M_spelled 25 (.ldc2_w 145) 3 := (by decide +kernel : decode prog_14_method_27_code 25 = .ok (.ldc2_w 145, 3))
theorem d_M_spelled_28 : m_D k_M_spelled 28 (.lmul) 1 := (by decide +kernel : decode prog_14_method_27_code 28 = .ok (.lmul, 1))
theorem d_M_spelled_29 : m_D k_M_spelled 29 (.iload_n 2) 1 := (by decide +kernel : decode prog_14_method_27_code 29 = .ok (.iload_n 2, 1))
theorem d_M_spelled_30 : m_D k_M_spelled 30 (.i2l) 1 := (by decide +kernel : decode prog_14_method_27_code 30 = .ok (.i2l, 1))
theorem d_M_spelled_31 : m_D k_M_spelled 31 (.ladd) 1 := (by decide +kernel : decode prog_14_method_27_code 31 = .ok (.ladd, 1))
theorem d_M_spelled_32 : m_D k_M_spelled 32 (.ldc2_w 147) 3 := (by decide +kernel : decode prog_14_method_27_code 32 = .ok (.ldc2_w 147, 3))
theorem d_M_spelled_35 : m_D k_M_spelled 35 (.lsub) 1 := (by decide +kernel : decode prog_14_method_27_code 35 = .ok (.lsub, 1))
theorem d_M_spelled_36 : m_D k_M_spelled 36 (.goto 5) 3 := (by decide +kernel : decode prog_14_method_27_code 36 = .ok (.goto 5, 3))
theorem d_M_spelled_39 : m_D k_M_spelled 39 (.lload 6) 2 := (by decide +kernel : decode prog_14_method_27_code 39 = .ok (.lload 6, 2))
theorem d_M_spelled_41 : m_D k_M_spelled 41 (.lstore 6) 2 := (by decide +kernel : decode prog_14_method_27_code 41 = .ok (.lstore 6, 2))
theorem d_M_spelled_43 : m_D k_M_spelled 43 (.iload_n 3) 1 := (by decide +kernel : decode prog_14_method_27_code 43 = .ok (.iload_n 3, 1))
theorem d_M_spelled_44 : m_D k_M_spelled 44 (.ifCond .le 19) 3 := (by decide +kernel : decode prog_14_method_27_code 44 = .ok (.ifCond .le 19, 3))
theorem d_M_spelled_47 : m_D k_M_spelled 47 (.lload 6) 2 := (by decide +kernel : decode prog_14_method_27_code 47 = .ok (.lload 6, 2))
theorem d_M_spelled_49 : m_D k_M_spelled 49 (.ldc2_w 145) 3 := (by decide +kernel : decode prog_14_method_27_code 49 = .ok (.ldc2_w 145, 3))
theorem d_M_spelled_52 : m_D k_M_spelled 52 (.lmul) 1 := (by decide +kernel : decode prog_14_method_27_code 52 = .ok (.lmul, 1))
theorem d_M_spelled_53 : m_D k_M_spelled 53 (.iload_n 3) 1 := (by decide +kernel : decode prog_14_method_27_code 53 = .ok (.iload_n 3, 1))
theorem d_M_spelled_54 : m_D k_M_spelled 54 (.i2l) 1 := (by decide +kernel : decode prog_14_method_27_code 54 = .ok (.i2l, 1))
theorem d_M_spelled_55 : m_D k_M_spelled 55 (.ladd) 1 := (by decide +kernel : decode prog_14_method_27_code 55 = .ok (.ladd, 1))
theorem d_M_spelled_56 : m_D k_M_spelled 56 (.ldc2_w 147) 3 := (by decide +kernel : decode prog_14_method_27_code 56 = .ok (.ldc2_w 147, 3))
theorem d_M_spelled_59 : m_D k_M_spelled 59 (.lsub) 1 := (by decide +kernel : decode prog_14_method_27_code 59 = .ok (.lsub, 1))
theorem d_M_spelled_60 : m_D k_M_spelled 60 (.goto 5) 3 := (by decide +kernel : decode prog_14_method_27_code 60 = .ok (.goto 5, 3))
theorem d_M_spelled_63 : m_D k_M_spelled 63 (.lload 6) 2 := (by decide +kernel : decode prog_14_method_27_code 63 = .ok (.lload 6, 2))
theorem d_M_spelled_65 : m_D k_M_spelled 65 (.lstore 6) 2 := (by decide +kernel : decode prog_14_method_27_code 65 = .ok (.lstore 6, 2))
theorem d_M_spelled_67 : m_D k_M_spelled 67 (.iload 4) 2 := (by decide +kernel : decode prog_14_method_27_code 67 = .ok (.iload 4, 2))
theorem d_M_spelled_69 : m_D k_M_spelled 69 (.ifCond .le 20) 3 := (by decide +kernel : decode prog_14_method_27_code 69 = .ok (.ifCond .le 20, 3))
theorem d_M_spelled_72 : m_D k_M_spelled 72 (.lload 6) 2 := (by decide +kernel : decode prog_14_method_27_code 72 = .ok (.lload 6, 2))
theorem d_M_spelled_74 : m_D k_M_spelled 74 (.ldc2_w 145) 3 := (by decide +kernel : decode prog_14_method_27_code 74 = .ok (.ldc2_w 145, 3))
theorem d_M_spelled_77 : m_D k_M_spelled 77 (.lmul) 1 := (by decide +kernel : decode prog_14_method_27_code 77 = .ok (.lmul, 1))
theorem d_M_spelled_78 : m_D k_M_spelled 78 (.iload 4) 2 := (by decide +kernel : decode prog_14_method_27_code 78 = .ok (.iload 4, 2))
theorem d_M_spelled_80 : m_D k_M_spelled 80 (.i2l) 1 := (by decide +kernel : decode prog_14_method_27_code 80 = .ok (.i2l, 1))
theorem d_M_spelled_81 : m_D k_M_spelled 81 (.ladd) 1 := (by decide +kernel : decode prog_14_method_27_code 81 = .ok (.ladd, 1))
theorem d_M_spelled_82 : m_D k_M_spelled 82 (.ldc2_w 147) 3 := (by decide +kernel : decode prog_14_method_27_code 82 = .ok (.ldc2_w 147, 3))
theorem d_M_spelled_85 : m_D k_M_spelled 85 (.lsub) 1 := (by decide +kernel : decode prog_14_method_27_code 85 = .ok (.lsub, 1))
theorem d_M_spelled_86 : m_D k_M_spelled 86 (.goto 5) 3 := (by decide +kernel : decode prog_14_method_27_code 86 = .ok (.goto 5, 3))
theorem d_M_spelled_89 : m_D k_M_spelled 89 (.lload 6) 2 := (by decide +kernel : decode prog_14_method_27_code 89 = .ok (.lload 6, 2))
theorem d_M_spelled_91 : m_D k_M_spelled 91 (.lstore 6) 2 := (by decide +kernel : decode prog_14_method_27_code 91 = .ok (.lstore 6, 2))
theorem d_M_spelled_93 : m_D k_M_spelled 93 (.iload 5) 2 := (by decide +kernel : decode prog_14_method_27_code 93 = .ok (.iload 5, 2))
theorem d_M_spelled_95 : m_D k_M_spelled 95 (.ifCond .le 20) 3 := (by decide +kernel : decode prog_14_method_27_code 95 = .ok (.ifCond .le 20, 3))
theorem d_M_spelled_98 : m_D k_M_spelled 98 (.lload 6) 2 := (by decide +kernel : decode prog_14_method_27_code 98 = .ok (.lload 6, 2))
theorem d_M_spelled_100 : m_D k_M_spelled 100 (.ldc2_w 145) 3 := (by decide +kernel : decode prog_14_method_27_code 100 = .ok (.ldc2_w 145, 3))
theorem d_M_spelled_103 : m_D k_M_spelled 103 (.lmul) 1 := (by decide +kernel : decode prog_14_method_27_code 103 = .ok (.lmul, 1))
theorem d_M_spelled_104 : m_D k_M_spelled 104 (.iload 5) 2 := (by decide +kernel : decode prog_14_method_27_code 104 = .ok (.iload 5, 2))
theorem d_M_spelled_106 : m_D k_M_spelled 106 (.i2l) 1 := (by decide +kernel : decode prog_14_method_27_code 106 = .ok (.i2l, 1))
theorem d_M_spelled_107 : m_D k_M_spelled 107 (.ladd) 1 := (by decide +kernel : decode prog_14_method_27_code 107 = .ok (.ladd, 1))
theorem d_M_spelled_108 : m_D k_M_spelled 108 (.ldc2_w 147) 3 := (by decide +kernel : decode prog_14_method_27_code 108 = .ok (.ldc2_w 147, 3))
theorem d_M_spelled_111 : m_D k_M_spelled 111 (.lsub) 1 := (by decide +kernel : decode prog_14_method_27_code 111 = .ok (.lsub, 1))
theorem d_M_spelled_112 : m_D k_M_spelled 112 (.goto 5) 3 := (by decide +kernel : decode prog_14_method_27_code 112 = .ok (.goto 5, 3))
theorem d_M_spelled_115 : m_D k_M_spelled 115 (.lload 6) 2 := (by decide +kernel : decode prog_14_method_27_code 115 = .ok (.lload 6, 2))
theorem d_M_spelled_117 : m_D k_M_spelled 117 (.lreturn) 1 := (by decide +kernel : decode prog_14_method_27_code 117 = .ok (.lreturn, 1))
def fn_M_spelled (x0 : Int32) (x1 : Int32) (x2 : Int32) (x3 : Int32) (x4 : Int32) (x5 : Int32) : mP Int64 :=
  m_bd (α := Int64) (
    if x2 ≤ 0 then
      m_rt (((((x0).toInt64 - 96) * 32) + (x1).toInt64) - 96)
    else
      m_rt ((((((((x0).toInt64 - 96) * 32) + (x1).toInt64) - 96) * 32) + (x2).toInt64) - 96)
    ) fun (t1 : Int64) =>
  m_bd (α := Int64) (
    if x3 ≤ 0 then
      m_rt t1
    else
      m_rt (((t1 * 32) + (x3).toInt64) - 96)
    ) fun (t2 : Int64) =>
  m_bd (α := Int64) (
    if x4 ≤ 0 then
      m_rt t2
    else
      m_rt (((t2 * 32) + (x4).toInt64) - 96)
    ) fun (t3 : Int64) =>
  if x5 ≤ 0 then
    m_rt t3
  else
    m_rt (((t3 * 32) + (x5).toInt64) - 96)
set_option maxHeartbeats 4000000 in
set_option maxRecDepth 100000 in
theorem sd_M_spelled (x0 : Int32) (x1 : Int32) (x2 : Int32) (x3 : Int32) (x4 : Int32) (x5 : Int32) : m_Sm k_M_spelled 1 0 0 [.inl x0, .inl x1, .inl x2, .inl x3, .inl x4, .inl x5] (fn_M_spelled x0 x1 x2 x3 x4 x5) (fun b => some (.inr (.inl b))) := by
  refine ⟨Nat.le_of_ble_eq_true rfl, ?_⟩
  refine sm_iload_n (i := 0) (j := 0) (pc' := 1) d_M_spelled_0 rfl rfl rfl (sm_i2l (pc' := 2) d_M_spelled_1 rfl (sm_ldc2 (v := 96) (pc' := 5) d_M_spelled_2 rfl w_cl_M_147 (sm_lsub (pc' := 6) d_M_spelled_5 rfl (sm_ldc2 (v := 32) (pc' := 9) d_M_spelled_6 rfl w_cl_M_145 (sm_lmul (pc' := 10) d_M_spelled_9 rfl (sm_iload_n (i := 1) (j := 1) (pc' := 11) d_M_spelled_10 rfl rfl rfl (sm_i2l (pc' := 12) d_M_spelled_11 rfl (sm_ladd (pc' := 13) d_M_spelled_12 rfl (sm_ldc2 (v := 96) (pc' := 16) d_M_spelled_13 rfl w_cl_M_147 ?_)))))))))
  refine sm_lsub (pc' := 17) d_M_spelled_16 rfl (sm_lstore (L' := [(6, .inr (.inl (((((x0).toInt64 - 96) * 32) + (x1).toInt64) - 96))), (0, .inl x0), (1, .inl x1), (2, .inl x2), (3, .inl x3), (4, .inl x4), (5, .inl x5)]) (pc' := 19) d_M_spelled_17 rfl (Nat.le_of_ble_eq_true rfl) rfl (sm_iload_n (i := 2) (j := 3) (pc' := 20) d_M_spelled_19 rfl rfl rfl ?_))
  refine sm_bd (mid := fun (t1 : Int64) => .inl (41, [(3, .inl x3), (4, .inl x4), (5, .inl x5)], [.inr (.inl t1)])) ?_ (fun t1 => ?_)
  · refine sm_if_le (tgt := 39) (pc' := 23) d_M_spelled_20 rfl rfl ?_ ?_
    · refine sm_lload (j := 0) (pc' := 41) d_M_spelled_39 rfl rfl (sm_sub [4, 5, 6] rfl ?_)
      exact sm_rt rfl
    · refine sm_lload (j := 0) (pc' := 25) d_M_spelled_23 rfl rfl (sm_ldc2 (v := 32) (pc' := 28) d_M_spelled_25 rfl w_cl_M_145 (sm_lmul (pc' := 29) d_M_spelled_28 rfl (sm_iload_n (i := 2) (j := 3) (pc' := 30) d_M_spelled_29 rfl rfl rfl (sm_i2l (pc' := 31) d_M_spelled_30 rfl (sm_ladd (pc' := 32) d_M_spelled_31 rfl (sm_ldc2 (v := 96) (pc' := 35) d_M_spelled_32 rfl w_cl_M_147 (sm_lsub (pc' := 36) d_M_spelled_35 rfl (sm_goto (tgt := 41) d_M_spelled_36 rfl (sm_sub [4, 5, 6] rfl ?_)))))))))
      exact sm_rt rfl
  · refine sm_lstore (L' := [(6, .inr (.inl t1)), (3, .inl x3), (4, .inl x4), (5, .inl x5)]) (pc' := 43) d_M_spelled_41 rfl (Nat.le_of_ble_eq_true rfl) rfl (sm_iload_n (i := 3) (j := 1) (pc' := 44) d_M_spelled_43 rfl rfl rfl ?_)
    refine sm_bd (mid := fun (t2 : Int64) => .inl (65, [(4, .inl x4), (5, .inl x5)], [.inr (.inl t2)])) ?_ (fun t2 => ?_)
    · refine sm_if_le (tgt := 63) (pc' := 47) d_M_spelled_44 rfl rfl ?_ ?_
      · refine sm_lload (j := 0) (pc' := 65) d_M_spelled_63 rfl rfl (sm_sub [2, 3] rfl ?_)
        exact sm_rt rfl
      · refine sm_lload (j := 0) (pc' := 49) d_M_spelled_47 rfl rfl (sm_ldc2 (v := 32) (pc' := 52) d_M_spelled_49 rfl w_cl_M_145 (sm_lmul (pc' := 53) d_M_spelled_52 rfl (sm_iload_n (i := 3) (j := 1) (pc' := 54) d_M_spelled_53 rfl rfl rfl (sm_i2l (pc' := 55) d_M_spelled_54 rfl (sm_ladd (pc' := 56) d_M_spelled_55 rfl (sm_ldc2 (v := 96) (pc' := 59) d_M_spelled_56 rfl w_cl_M_147 (sm_lsub (pc' := 60) d_M_spelled_59 rfl (sm_goto (tgt := 65) d_M_spelled_60 rfl (sm_sub [2, 3] rfl ?_)))))))))
        exact sm_rt rfl
    · refine sm_lstore (L' := [(6, .inr (.inl t2)), (4, .inl x4), (5, .inl x5)]) (pc' := 67) d_M_spelled_65 rfl (Nat.le_of_ble_eq_true rfl) rfl (sm_iload (j := 1) (pc' := 69) d_M_spelled_67 rfl rfl ?_)
      refine sm_bd (mid := fun (t3 : Int64) => .inl (91, [(5, .inl x5)], [.inr (.inl t3)])) ?_ (fun t3 => ?_)
      · refine sm_if_le (tgt := 89) (pc' := 72) d_M_spelled_69 rfl rfl ?_ ?_
        · refine sm_lload (j := 0) (pc' := 91) d_M_spelled_89 rfl rfl (sm_sub [2] rfl ?_)
          exact sm_rt rfl
        · refine sm_lload (j := 0) (pc' := 74) d_M_spelled_72 rfl rfl (sm_ldc2 (v := 32) (pc' := 77) d_M_spelled_74 rfl w_cl_M_145 (sm_lmul (pc' := 78) d_M_spelled_77 rfl (sm_iload (j := 1) (pc' := 80) d_M_spelled_78 rfl rfl (sm_i2l (pc' := 81) d_M_spelled_80 rfl (sm_ladd (pc' := 82) d_M_spelled_81 rfl (sm_ldc2 (v := 96) (pc' := 85) d_M_spelled_82 rfl w_cl_M_147 (sm_lsub (pc' := 86) d_M_spelled_85 rfl (sm_goto (tgt := 91) d_M_spelled_86 rfl (sm_sub [2] rfl ?_)))))))))
          exact sm_rt rfl
      · refine sm_lstore (L' := [(6, .inr (.inl t3)), (5, .inl x5)]) (pc' := 93) d_M_spelled_91 rfl (Nat.le_of_ble_eq_true rfl) rfl (sm_iload (j := 1) (pc' := 95) d_M_spelled_93 rfl rfl ?_)
        refine sm_if_le (tgt := 115) (pc' := 98) d_M_spelled_95 rfl rfl ?_ ?_
        · refine sm_lload (j := 0) (pc' := 117) d_M_spelled_115 rfl rfl ?_
          exact sm_lreturn d_M_spelled_117 rfl rfl
        · refine sm_lload (j := 0) (pc' := 100) d_M_spelled_98 rfl rfl (sm_ldc2 (v := 32) (pc' := 103) d_M_spelled_100 rfl w_cl_M_145 (sm_lmul (pc' := 104) d_M_spelled_103 rfl (sm_iload (j := 1) (pc' := 106) d_M_spelled_104 rfl rfl (sm_i2l (pc' := 107) d_M_spelled_106 rfl (sm_ladd (pc' := 108) d_M_spelled_107 rfl (sm_ldc2 (v := 96) (pc' := 111) d_M_spelled_108 rfl w_cl_M_147 (sm_lsub (pc' := 112) d_M_spelled_111 rfl (sm_goto (tgt := 117) d_M_spelled_112 rfl ?_))))))))
          exact sm_lreturn d_M_spelled_117 rfl rfl
theorem d_M_isBreath_0 : m_D k_M_isBreath 0 (.aload_n 0) 1 := (by decide +kernel : decode prog_14_method_32_code 0 = .ok (.aload_n 0, 1))
theorem d_M_isBreath_1 : m_D k_M_isBreath 1 (.bipush 98) 2 := (by decide +kernel : decode prog_14_method_32_code 1 = .ok (.bipush 98, 2))
theorem d_M_isBreath_3 : m_D k_M_isBreath 3 (.bipush 114) 2 := (by decide +kernel : decode prog_14_method_32_code 3 = .ok (.bipush 114, 2))
theorem d_M_isBreath_5 : m_D k_M_isBreath 5 (.bipush 101) 2 := (by decide +kernel : decode prog_14_method_32_code 5 = .ok (.bipush 101, 2))
theorem d_M_isBreath_7 : m_D k_M_isBreath 7 (.bipush 97) 2 := (by decide +kernel : decode prog_14_method_32_code 7 = .ok (.bipush 97, 2))
theorem d_M_isBreath_9 : m_D k_M_isBreath 9 (.bipush 116) 2 := (by decide +kernel : decode prog_14_method_32_code 9 = .ok (.bipush 116, 2))
theorem d_M_isBreath_11 : m_D k_M_isBreath 11 (.bipush 104) 2 := (by decide +kernel : decode prog_14_method_32_code 11 = .ok (.bipush 104, 2))
theorem d_M_isBreath_13 : m_D k_M_isBreath 13 (.invokestatic 161) 3 := (by decide +kernel : decode prog_14_method_32_code 13 = .ok (.invokestatic 161, 3))
theorem d_M_isBreath_16 : m_D k_M_isBreath 16 (.invokevirtual 165) 3 := (by decide +kernel : decode prog_14_method_32_code 16 = .ok (.invokevirtual 165, 3))
theorem d_M_isBreath_19 : m_D k_M_isBreath 19 (.ireturn) 1 := (by decide +kernel : decode prog_14_method_32_code 19 = .ok (.ireturn, 1))
def fn_M_isBreath (x0 : Option mA) : mP Int32 :=
  m_th 11 x0 <|
  m_bd (fn_M_spelled 98 114 101 97 116 104) fun v1 =>
  m_bd (fn_M_isWord x0 v1) fun v2 =>
  m_bd (m_cz v2) fun _ => m_rt v2
set_option maxHeartbeats 4000000 in
set_option maxRecDepth 100000 in
theorem sd_M_isBreath (x0 : Option mA) : m_Sm k_M_isBreath 2 0 0 [.inr (.inr x0)] (fn_M_isBreath x0) (fun b => some (.inl b)) := by
  refine ⟨Nat.le_of_ble_eq_true rfl, ?_⟩
  refine sm_th ?_
  refine sm_aload_n (i := 0) (j := 0) (pc' := 1) d_M_isBreath_0 rfl rfl rfl (sm_bipush (pc' := 3) d_M_isBreath_1 rfl ib_98 (sm_bipush (pc' := 5) d_M_isBreath_3 rfl ib_114 (sm_bipush (pc' := 7) d_M_isBreath_5 rfl ib_101 (sm_bipush (pc' := 9) d_M_isBreath_7 rfl ib_97 (sm_bipush (pc' := 11) d_M_isBreath_9 rfl ib_116 (sm_bipush (pc' := 13) d_M_isBreath_11 rfl ib_104 ?_))))))
  refine sm_callSj (av := [.inl 98, .inl 114, .inl 101, .inl 97, .inl 116, .inl 104]) (st := [.inr (.inr x0)]) (mc := 0) (ms := 0) (pc' := 16) d_M_isBreath_13 rfl (sd_M_spelled 98 114 101 97 116 104) cs_M_spelled w_ml_M_161 rfl rfl (by decide) (Nat.le_of_ble_eq_true rfl) rfl rfl (fun v1 => ?_)
  refine sm_callVi (ci := 11) (x := x0) (av := [.inr (.inl v1)]) (st := []) (mc := 0) (ms := 0) (pc' := 19) d_M_isBreath_16 rfl (sd_M_isWord x0 v1) m_lv rfl cv_M_isWord w_ml_M_165 rfl rfl (by decide) (Nat.le_of_ble_eq_true rfl) rfl rfl (fun v2 => ?_)
  exact sm_zretC d_M_isBreath_19 rfl rfl
theorem d_M_isDamp_0 : m_D k_M_isDamp 0 (.aload_n 0) 1 := (by decide +kernel : decode prog_14_method_31_code 0 = .ok (.aload_n 0, 1))
theorem d_M_isDamp_1 : m_D k_M_isDamp 1 (.bipush 100) 2 := (by decide +kernel : decode prog_14_method_31_code 1 = .ok (.bipush 100, 2))
theorem d_M_isDamp_3 : m_D k_M_isDamp 3 (.bipush 97) 2 := (by decide +kernel : decode prog_14_method_31_code 3 = .ok (.bipush 97, 2))
theorem d_M_isDamp_5 : m_D k_M_isDamp 5 (.bipush 109) 2 := (by decide +kernel : decode prog_14_method_31_code 5 = .ok (.bipush 109, 2))
theorem d_M_isDamp_7 : m_D k_M_isDamp 7 (.bipush 112) 2 := (by decide +kernel : decode prog_14_method_31_code 7 = .ok (.bipush 112, 2))
theorem d_M_isDamp_9 : m_D k_M_isDamp 9 (.iconst 0) 1 := (by decide +kernel : decode prog_14_method_31_code 9 = .ok (.iconst 0, 1))
theorem d_M_isDamp_10 : m_D k_M_isDamp 10 (.iconst 0) 1 := (by decide +kernel : decode prog_14_method_31_code 10 = .ok (.iconst 0, 1))
theorem d_M_isDamp_11 : m_D k_M_isDamp 11 (.invokestatic 161) 3 := (by decide +kernel : decode prog_14_method_31_code 11 = .ok (.invokestatic 161, 3))
theorem d_M_isDamp_14 : m_D k_M_isDamp 14 (.invokevirtual 165) 3 := (by decide +kernel : decode prog_14_method_31_code 14 = .ok (.invokevirtual 165, 3))
theorem d_M_isDamp_17 : m_D k_M_isDamp 17 (.ireturn) 1 := (by decide +kernel : decode prog_14_method_31_code 17 = .ok (.ireturn, 1))
def fn_M_isDamp (x0 : Option mA) : mP Int32 :=
  m_th 11 x0 <|
  m_bd (fn_M_spelled 100 97 109 112 0 0) fun v1 =>
  m_bd (fn_M_isWord x0 v1) fun v2 =>
  m_bd (m_cz v2) fun _ => m_rt v2
set_option maxHeartbeats 4000000 in
set_option maxRecDepth 100000 in
theorem sd_M_isDamp (x0 : Option mA) : m_Sm k_M_isDamp 2 0 0 [.inr (.inr x0)] (fn_M_isDamp x0) (fun b => some (.inl b)) := by
  refine ⟨Nat.le_of_ble_eq_true rfl, ?_⟩
  refine sm_th ?_
  refine sm_aload_n (i := 0) (j := 0) (pc' := 1) d_M_isDamp_0 rfl rfl rfl (sm_bipush (pc' := 3) d_M_isDamp_1 rfl ib_100 (sm_bipush (pc' := 5) d_M_isDamp_3 rfl ib_97 (sm_bipush (pc' := 7) d_M_isDamp_5 rfl ib_109 (sm_bipush (pc' := 9) d_M_isDamp_7 rfl ib_112 (sm_iconst (pc' := 10) d_M_isDamp_9 rfl ic_0 (sm_iconst (pc' := 11) d_M_isDamp_10 rfl ic_0 ?_))))))
  refine sm_callSj (av := [.inl 100, .inl 97, .inl 109, .inl 112, .inl 0, .inl 0]) (st := [.inr (.inr x0)]) (mc := 0) (ms := 0) (pc' := 14) d_M_isDamp_11 rfl (sd_M_spelled 100 97 109 112 0 0) cs_M_spelled w_ml_M_161 rfl rfl (by decide) (Nat.le_of_ble_eq_true rfl) rfl rfl (fun v1 => ?_)
  refine sm_callVi (ci := 11) (x := x0) (av := [.inr (.inl v1)]) (st := []) (mc := 0) (ms := 0) (pc' := 17) d_M_isDamp_14 rfl (sd_M_isWord x0 v1) m_lv rfl cv_M_isWord w_ml_M_165 rfl rfl (by decide) (Nat.le_of_ble_eq_true rfl) rfl rfl (fun v2 => ?_)
  exact sm_zretC d_M_isDamp_17 rfl rfl
theorem d_M_isLife_0 : m_D k_M_isLife 0 (.aload_n 0) 1 := (by decide +kernel : decode prog_14_method_30_code 0 = .ok (.aload_n 0, 1))
theorem d_M_isLife_1 : m_D k_M_isLife 1 (.bipush 108) 2 := (by decide +kernel : decode prog_14_method_30_code 1 = .ok (.bipush 108, 2))
theorem d_M_isLife_3 : m_D k_M_isLife 3 (.bipush 105) 2 := (by decide +kernel : decode prog_14_method_30_code 3 = .ok (.bipush 105, 2))
theorem d_M_isLife_5 : m_D k_M_isLife 5 (.bipush 102) 2 := (by decide +kernel : decode prog_14_method_30_code 5 = .ok (.bipush 102, 2))
theorem d_M_isLife_7 : m_D k_M_isLife 7 (.bipush 101) 2 := (by decide +kernel : decode prog_14_method_30_code 7 = .ok (.bipush 101, 2))
theorem d_M_isLife_9 : m_D k_M_isLife 9 (.iconst 0) 1 := (by decide +kernel : decode prog_14_method_30_code 9 = .ok (.iconst 0, 1))
theorem d_M_isLife_10 : m_D k_M_isLife 10 (.iconst 0) 1 := (by decide +kernel : decode prog_14_method_30_code 10 = .ok (.iconst 0, 1))
theorem d_M_isLife_11 : m_D k_M_isLife 11 (.invokestatic 161) 3 := (by decide +kernel : decode prog_14_method_30_code 11 = .ok (.invokestatic 161, 3))
theorem d_M_isLife_14 : m_D k_M_isLife 14 (.invokevirtual 165) 3 := (by decide +kernel : decode prog_14_method_30_code 14 = .ok (.invokevirtual 165, 3))
theorem d_M_isLife_17 : m_D k_M_isLife 17 (.ireturn) 1 := (by decide +kernel : decode prog_14_method_30_code 17 = .ok (.ireturn, 1))
def fn_M_isLife (x0 : Option mA) : mP Int32 :=
  m_th 11 x0 <|
  m_bd (fn_M_spelled 108 105 102 101 0 0) fun v1 =>
  m_bd (fn_M_isWord x0 v1) fun v2 =>
  m_bd (m_cz v2) fun _ => m_rt v2
set_option maxHeartbeats 4000000 in
set_option maxRecDepth 100000 in
theorem sd_M_isLife (x0 : Option mA) : m_Sm k_M_isLife 2 0 0 [.inr (.inr x0)] (fn_M_isLife x0) (fun b => some (.inl b)) := by
  refine ⟨Nat.le_of_ble_eq_true rfl, ?_⟩
  refine sm_th ?_
  refine sm_aload_n (i := 0) (j := 0) (pc' := 1) d_M_isLife_0 rfl rfl rfl (sm_bipush (pc' := 3) d_M_isLife_1 rfl ib_108 (sm_bipush (pc' := 5) d_M_isLife_3 rfl ib_105 (sm_bipush (pc' := 7) d_M_isLife_5 rfl ib_102 (sm_bipush (pc' := 9) d_M_isLife_7 rfl ib_101 (sm_iconst (pc' := 10) d_M_isLife_9 rfl ic_0 (sm_iconst (pc' := 11) d_M_isLife_10 rfl ic_0 ?_))))))
  refine sm_callSj (av := [.inl 108, .inl 105, .inl 102, .inl 101, .inl 0, .inl 0]) (st := [.inr (.inr x0)]) (mc := 0) (ms := 0) (pc' := 14) d_M_isLife_11 rfl (sd_M_spelled 108 105 102 101 0 0) cs_M_spelled w_ml_M_161 rfl rfl (by decide) (Nat.le_of_ble_eq_true rfl) rfl rfl (fun v1 => ?_)
  refine sm_callVi (ci := 11) (x := x0) (av := [.inr (.inl v1)]) (st := []) (mc := 0) (ms := 0) (pc' := 17) d_M_isLife_14 rfl (sd_M_isWord x0 v1) m_lv rfl cv_M_isWord w_ml_M_165 rfl rfl (by decide) (Nat.le_of_ble_eq_true rfl) rfl rfl (fun v2 => ?_)
  exact sm_zretC d_M_isLife_17 rfl rfl
theorem d_M_isLoves_0 : m_D k_M_isLoves 0 (.aload_n 0) 1 := (by decide +kernel : decode prog_14_method_39_code 0 = .ok (.aload_n 0, 1))
theorem d_M_isLoves_1 : m_D k_M_isLoves 1 (.bipush 108) 2 := (by decide +kernel : decode prog_14_method_39_code 1 = .ok (.bipush 108, 2))
theorem d_M_isLoves_3 : m_D k_M_isLoves 3 (.bipush 111) 2 := (by decide +kernel : decode prog_14_method_39_code 3 = .ok (.bipush 111, 2))
theorem d_M_isLoves_5 : m_D k_M_isLoves 5 (.bipush 118) 2 := (by decide +kernel : decode prog_14_method_39_code 5 = .ok (.bipush 118, 2))
theorem d_M_isLoves_7 : m_D k_M_isLoves 7 (.bipush 101) 2 := (by decide +kernel : decode prog_14_method_39_code 7 = .ok (.bipush 101, 2))
theorem d_M_isLoves_9 : m_D k_M_isLoves 9 (.bipush 115) 2 := (by decide +kernel : decode prog_14_method_39_code 9 = .ok (.bipush 115, 2))
theorem d_M_isLoves_11 : m_D k_M_isLoves 11 (.iconst 0) 1 := (by decide +kernel : decode prog_14_method_39_code 11 = .ok (.iconst 0, 1))
theorem d_M_isLoves_12 : m_D k_M_isLoves 12 (.invokestatic 161) 3 := (by decide +kernel : decode prog_14_method_39_code 12 = .ok (.invokestatic 161, 3))
theorem d_M_isLoves_15 : m_D k_M_isLoves 15 (.invokevirtual 165) 3 := (by decide +kernel : decode prog_14_method_39_code 15 = .ok (.invokevirtual 165, 3))
theorem d_M_isLoves_18 : m_D k_M_isLoves 18 (.ireturn) 1 := (by decide +kernel : decode prog_14_method_39_code 18 = .ok (.ireturn, 1))
def fn_M_isLoves (x0 : Option mA) : mP Int32 :=
  m_th 11 x0 <|
  m_bd (fn_M_spelled 108 111 118 101 115 0) fun v1 =>
  m_bd (fn_M_isWord x0 v1) fun v2 =>
  m_bd (m_cz v2) fun _ => m_rt v2
set_option maxHeartbeats 4000000 in
set_option maxRecDepth 100000 in
theorem sd_M_isLoves (x0 : Option mA) : m_Sm k_M_isLoves 2 0 0 [.inr (.inr x0)] (fn_M_isLoves x0) (fun b => some (.inl b)) := by
  refine ⟨Nat.le_of_ble_eq_true rfl, ?_⟩
  refine sm_th ?_
  refine sm_aload_n (i := 0) (j := 0) (pc' := 1) d_M_isLoves_0 rfl rfl rfl (sm_bipush (pc' := 3) d_M_isLoves_1 rfl ib_108 (sm_bipush (pc' := 5) d_M_isLoves_3 rfl ib_111 (sm_bipush (pc' := 7) d_M_isLoves_5 rfl ib_118 (sm_bipush (pc' := 9) d_M_isLoves_7 rfl ib_101 (sm_bipush (pc' := 11) d_M_isLoves_9 rfl ib_115 (sm_iconst (pc' := 12) d_M_isLoves_11 rfl ic_0 ?_))))))
  refine sm_callSj (av := [.inl 108, .inl 111, .inl 118, .inl 101, .inl 115, .inl 0]) (st := [.inr (.inr x0)]) (mc := 0) (ms := 0) (pc' := 15) d_M_isLoves_12 rfl (sd_M_spelled 108 111 118 101 115 0) cs_M_spelled w_ml_M_161 rfl rfl (by decide) (Nat.le_of_ble_eq_true rfl) rfl rfl (fun v1 => ?_)
  refine sm_callVi (ci := 11) (x := x0) (av := [.inr (.inl v1)]) (st := []) (mc := 0) (ms := 0) (pc' := 18) d_M_isLoves_15 rfl (sd_M_isWord x0 v1) m_lv rfl cv_M_isWord w_ml_M_165 rfl rfl (by decide) (Nat.le_of_ble_eq_true rfl) rfl rfl (fun v2 => ?_)
  exact sm_zretC d_M_isLoves_18 rfl rfl
theorem d_M_isPerson_0 : m_D k_M_isPerson 0 (.aload_n 0) 1 := (by decide +kernel : decode prog_14_method_33_code 0 = .ok (.aload_n 0, 1))
theorem d_M_isPerson_1 : m_D k_M_isPerson 1 (.bipush 112) 2 := (by decide +kernel : decode prog_14_method_33_code 1 = .ok (.bipush 112, 2))
theorem d_M_isPerson_3 : m_D k_M_isPerson 3 (.bipush 101) 2 := (by decide +kernel : decode prog_14_method_33_code 3 = .ok (.bipush 101, 2))
theorem d_M_isPerson_5 : m_D k_M_isPerson 5 (.bipush 114) 2 := (by decide +kernel : decode prog_14_method_33_code 5 = .ok (.bipush 114, 2))
theorem d_M_isPerson_7 : m_D k_M_isPerson 7 (.bipush 115) 2 := (by decide +kernel : decode prog_14_method_33_code 7 = .ok (.bipush 115, 2))
theorem d_M_isPerson_9 : m_D k_M_isPerson 9 (.bipush 111) 2 := (by decide +kernel : decode prog_14_method_33_code 9 = .ok (.bipush 111, 2))
theorem d_M_isPerson_11 : m_D k_M_isPerson 11 (.bipush 110) 2 := (by decide +kernel : decode prog_14_method_33_code 11 = .ok (.bipush 110, 2))
theorem d_M_isPerson_13 : m_D k_M_isPerson 13 (.invokestatic 161) 3 := (by decide +kernel : decode prog_14_method_33_code 13 = .ok (.invokestatic 161, 3))
theorem d_M_isPerson_16 : m_D k_M_isPerson 16 (.invokevirtual 165) 3 := (by decide +kernel : decode prog_14_method_33_code 16 = .ok (.invokevirtual 165, 3))
theorem d_M_isPerson_19 : m_D k_M_isPerson 19 (.ireturn) 1 := (by decide +kernel : decode prog_14_method_33_code 19 = .ok (.ireturn, 1))
def fn_M_isPerson (x0 : Option mA) : mP Int32 :=
  m_th 11 x0 <|
  m_bd (fn_M_spelled 112 101 114 115 111 110) fun v1 =>
  m_bd (fn_M_isWord x0 v1) fun v2 =>
  m_bd (m_cz v2) fun _ => m_rt v2
set_option maxHeartbeats 4000000 in
set_option maxRecDepth 100000 in
theorem sd_M_isPerson (x0 : Option mA) : m_Sm k_M_isPerson 2 0 0 [.inr (.inr x0)] (fn_M_isPerson x0) (fun b => some (.inl b)) := by
  refine ⟨Nat.le_of_ble_eq_true rfl, ?_⟩
  refine sm_th ?_
  refine sm_aload_n (i := 0) (j := 0) (pc' := 1) d_M_isPerson_0 rfl rfl rfl (sm_bipush (pc' := 3) d_M_isPerson_1 rfl ib_112 (sm_bipush (pc' := 5) d_M_isPerson_3 rfl ib_101 (sm_bipush (pc' := 7) d_M_isPerson_5 rfl ib_114 (sm_bipush (pc' := 9) d_M_isPerson_7 rfl ib_115 (sm_bipush (pc' := 11) d_M_isPerson_9 rfl ib_111 (sm_bipush (pc' := 13) d_M_isPerson_11 rfl ib_110 ?_))))))
  refine sm_callSj (av := [.inl 112, .inl 101, .inl 114, .inl 115, .inl 111, .inl 110]) (st := [.inr (.inr x0)]) (mc := 0) (ms := 0) (pc' := 16) d_M_isPerson_13 rfl (sd_M_spelled 112 101 114 115 111 110) cs_M_spelled w_ml_M_161 rfl rfl (by decide) (Nat.le_of_ble_eq_true rfl) rfl rfl (fun v1 => ?_)
  refine sm_callVi (ci := 11) (x := x0) (av := [.inr (.inl v1)]) (st := []) (mc := 0) (ms := 0) (pc' := 19) d_M_isPerson_16 rfl (sd_M_isWord x0 v1) m_lv rfl cv_M_isWord w_ml_M_165 rfl rfl (by decide) (Nat.le_of_ble_eq_true rfl) rfl rfl (fun v2 => ?_)
  exact sm_zretC d_M_isPerson_19 rfl rfl
theorem d_M_isShows_0 : m_D k_M_isShows 0 (.aload_n 0) 1 := (by decide +kernel : decode prog_14_method_29_code 0 = .ok (.aload_n 0, 1))
theorem d_M_isShows_1 : m_D k_M_isShows 1 (.bipush 115) 2 := (by decide +kernel : decode prog_14_method_29_code 1 = .ok (.bipush 115, 2))
theorem d_M_isShows_3 : m_D k_M_isShows 3 (.bipush 104) 2 := (by decide +kernel : decode prog_14_method_29_code 3 = .ok (.bipush 104, 2))
theorem d_M_isShows_5 : m_D k_M_isShows 5 (.bipush 111) 2 := (by decide +kernel : decode prog_14_method_29_code 5 = .ok (.bipush 111, 2))
theorem d_M_isShows_7 : m_D k_M_isShows 7 (.bipush 119) 2 := (by decide +kernel : decode prog_14_method_29_code 7 = .ok (.bipush 119, 2))
theorem d_M_isShows_9 : m_D k_M_isShows 9 (.bipush 115) 2 := (by decide +kernel : decode prog_14_method_29_code 9 = .ok (.bipush 115, 2))
theorem d_M_isShows_11 : m_D k_M_isShows 11 (.iconst 0) 1 := (by decide +kernel : decode prog_14_method_29_code 11 = .ok (.iconst 0, 1))
theorem d_M_isShows_12 : m_D k_M_isShows 12 (.invokestatic 161) 3 := (by decide +kernel : decode prog_14_method_29_code 12 = .ok (.invokestatic 161, 3))
theorem d_M_isShows_15 : m_D k_M_isShows 15 (.invokevirtual 165) 3 := (by decide +kernel : decode prog_14_method_29_code 15 = .ok (.invokevirtual 165, 3))
theorem d_M_isShows_18 : m_D k_M_isShows 18 (.ireturn) 1 := (by decide +kernel : decode prog_14_method_29_code 18 = .ok (.ireturn, 1))
def fn_M_isShows (x0 : Option mA) : mP Int32 :=
  m_th 11 x0 <|
  m_bd (fn_M_spelled 115 104 111 119 115 0) fun v1 =>
  m_bd (fn_M_isWord x0 v1) fun v2 =>
  m_bd (m_cz v2) fun _ => m_rt v2
set_option maxHeartbeats 4000000 in
set_option maxRecDepth 100000 in
theorem sd_M_isShows (x0 : Option mA) : m_Sm k_M_isShows 2 0 0 [.inr (.inr x0)] (fn_M_isShows x0) (fun b => some (.inl b)) := by
  refine ⟨Nat.le_of_ble_eq_true rfl, ?_⟩
  refine sm_th ?_
  refine sm_aload_n (i := 0) (j := 0) (pc' := 1) d_M_isShows_0 rfl rfl rfl (sm_bipush (pc' := 3) d_M_isShows_1 rfl ib_115 (sm_bipush (pc' := 5) d_M_isShows_3 rfl ib_104 (sm_bipush (pc' := 7) d_M_isShows_5 rfl ib_111 (sm_bipush (pc' := 9) d_M_isShows_7 rfl ib_119 (sm_bipush (pc' := 11) d_M_isShows_9 rfl ib_115 (sm_iconst (pc' := 12) d_M_isShows_11 rfl ic_0 ?_))))))
  refine sm_callSj (av := [.inl 115, .inl 104, .inl 111, .inl 119, .inl 115, .inl 0]) (st := [.inr (.inr x0)]) (mc := 0) (ms := 0) (pc' := 15) d_M_isShows_12 rfl (sd_M_spelled 115 104 111 119 115 0) cs_M_spelled w_ml_M_161 rfl rfl (by decide) (Nat.le_of_ble_eq_true rfl) rfl rfl (fun v1 => ?_)
  refine sm_callVi (ci := 11) (x := x0) (av := [.inr (.inl v1)]) (st := []) (mc := 0) (ms := 0) (pc' := 18) d_M_isShows_15 rfl (sd_M_isWord x0 v1) m_lv rfl cv_M_isWord w_ml_M_165 rfl rfl (by decide) (Nat.le_of_ble_eq_true rfl) rfl rfl (fun v2 => ?_)
  exact sm_zretC d_M_isShows_18 rfl rfl
theorem d_M_isThing_0 : m_D k_M_isThing 0 (.aload_n 0) 1 := (by decide +kernel : decode prog_14_method_36_code 0 = .ok (.aload_n 0, 1))
theorem d_M_isThing_1 : m_D k_M_isThing 1 (.bipush 116) 2 := (by decide +kernel : decode prog_14_method_36_code 1 = .ok (.bipush 116, 2))
theorem d_M_isThing_3 : m_D k_M_isThing 3 (.bipush 104) 2 := (by decide +kernel : decode prog_14_method_36_code 3 = .ok (.bipush 104, 2))
theorem d_M_isThing_5 : m_D k_M_isThing 5 (.bipush 105) 2 := (by decide +kernel : decode prog_14_method_36_code 5 = .ok (.bipush 105, 2))
theorem d_M_isThing_7 : m_D k_M_isThing 7 (.bipush 110) 2 := (by decide +kernel : decode prog_14_method_36_code 7 = .ok (.bipush 110, 2))
theorem d_M_isThing_9 : m_D k_M_isThing 9 (.bipush 103) 2 := (by decide +kernel : decode prog_14_method_36_code 9 = .ok (.bipush 103, 2))
theorem d_M_isThing_11 : m_D k_M_isThing 11 (.iconst 0) 1 := (by decide +kernel : decode prog_14_method_36_code 11 = .ok (.iconst 0, 1))
theorem d_M_isThing_12 : m_D k_M_isThing 12 (.invokestatic 161) 3 := (by decide +kernel : decode prog_14_method_36_code 12 = .ok (.invokestatic 161, 3))
theorem d_M_isThing_15 : m_D k_M_isThing 15 (.invokevirtual 165) 3 := (by decide +kernel : decode prog_14_method_36_code 15 = .ok (.invokevirtual 165, 3))
theorem d_M_isThing_18 : m_D k_M_isThing 18 (.ireturn) 1 := (by decide +kernel : decode prog_14_method_36_code 18 = .ok (.ireturn, 1))
def fn_M_isThing (x0 : Option mA) : mP Int32 :=
  m_th 11 x0 <|
  m_bd (fn_M_spelled 116 104 105 110 103 0) fun v1 =>
  m_bd (fn_M_isWord x0 v1) fun v2 =>
  m_bd (m_cz v2) fun _ => m_rt v2
set_option maxHeartbeats 4000000 in
set_option maxRecDepth 100000 in
theorem sd_M_isThing (x0 : Option mA) : m_Sm k_M_isThing 2 0 0 [.inr (.inr x0)] (fn_M_isThing x0) (fun b => some (.inl b)) := by
  refine ⟨Nat.le_of_ble_eq_true rfl, ?_⟩
  refine sm_th ?_
  refine sm_aload_n (i := 0) (j := 0) (pc' := 1) d_M_isThing_0 rfl rfl rfl (sm_bipush (pc' := 3) d_M_isThing_1 rfl ib_116 (sm_bipush (pc' := 5) d_M_isThing_3 rfl ib_104 (sm_bipush (pc' := 7) d_M_isThing_5 rfl ib_105 (sm_bipush (pc' := 9) d_M_isThing_7 rfl ib_110 (sm_bipush (pc' := 11) d_M_isThing_9 rfl ib_103 (sm_iconst (pc' := 12) d_M_isThing_11 rfl ic_0 ?_))))))
  refine sm_callSj (av := [.inl 116, .inl 104, .inl 105, .inl 110, .inl 103, .inl 0]) (st := [.inr (.inr x0)]) (mc := 0) (ms := 0) (pc' := 15) d_M_isThing_12 rfl (sd_M_spelled 116 104 105 110 103 0) cs_M_spelled w_ml_M_161 rfl rfl (by decide) (Nat.le_of_ble_eq_true rfl) rfl rfl (fun v1 => ?_)
  refine sm_callVi (ci := 11) (x := x0) (av := [.inr (.inl v1)]) (st := []) (mc := 0) (ms := 0) (pc' := 18) d_M_isThing_15 rfl (sd_M_isWord x0 v1) m_lv rfl cv_M_isWord w_ml_M_165 rfl rfl (by decide) (Nat.le_of_ble_eq_true rfl) rfl rfl (fun v2 => ?_)
  exact sm_zretC d_M_isThing_18 rfl rfl
theorem d_M_isIn_0 : m_D k_M_isIn 0 (.lload_n 0) 1 := (by decide +kernel : decode prog_14_method_8_code 0 = .ok (.lload_n 0, 1))
theorem d_M_isIn_1 : m_D k_M_isIn 1 (.lload_n 2) 1 := (by decide +kernel : decode prog_14_method_8_code 1 = .ok (.lload_n 2, 1))
theorem d_M_isIn_2 : m_D k_M_isIn 2 (.lcmp) 1 := (by decide +kernel : decode prog_14_method_8_code 2 = .ok (.lcmp, 1))
theorem d_M_isIn_3 : m_D k_M_isIn 3 (.ifCond .lt 14) 3 := (by decide +kernel : decode prog_14_method_8_code 3 = .ok (.ifCond .lt 14, 3))
theorem d_M_isIn_6 : m_D k_M_isIn 6 (.lload_n 0) 1 := (by decide +kernel : decode prog_14_method_8_code 6 = .ok (.lload_n 0, 1))
theorem d_M_isIn_7 : m_D k_M_isIn 7 (.lload 4) 2 := (by decide +kernel : decode prog_14_method_8_code 7 = .ok (.lload 4, 2))
theorem d_M_isIn_9 : m_D k_M_isIn 9 (.lcmp) 1 := (by decide +kernel : decode prog_14_method_8_code 9 = .ok (.lcmp, 1))
theorem d_M_isIn_10 : m_D k_M_isIn 10 (.ifCond .gt 7) 3 := (by decide +kernel : decode prog_14_method_8_code 10 = .ok (.ifCond .gt 7, 3))
theorem d_M_isIn_13 : m_D k_M_isIn 13 (.iconst 1) 1 := (by decide +kernel : decode prog_14_method_8_code 13 = .ok (.iconst 1, 1))
theorem d_M_isIn_14 : m_D k_M_isIn 14 (.goto 4) 3 := (by decide +kernel : decode prog_14_method_8_code 14 = .ok (.goto 4, 3))
theorem d_M_isIn_17 : m_D k_M_isIn 17 (.iconst 0) 1 := (by decide +kernel : decode prog_14_method_8_code 17 = .ok (.iconst 0, 1))
theorem d_M_isIn_18 : m_D k_M_isIn 18 (.ireturn) 1 := (by decide +kernel : decode prog_14_method_8_code 18 = .ok (.ireturn, 1))
def fn_M_isIn (x0 : Int64) (x2 : Int64) (x4 : Int64) : mP Int32 :=
  if (lg_cmp x0 x2) < 0 then
    m_rt 0
  else
    if 0 < (lg_cmp x0 x4) then
      m_rt 0
    else
      m_rt 1
set_option maxHeartbeats 4000000 in
set_option maxRecDepth 100000 in
theorem sd_M_isIn (x0 : Int64) (x2 : Int64) (x4 : Int64) : m_Sm k_M_isIn 1 0 0 [.inr (.inl x0), .inr (.inl x2), .inr (.inl x4)] (fn_M_isIn x0 x2 x4) (fun b => some (.inl b)) := by
  refine ⟨Nat.le_of_ble_eq_true rfl, ?_⟩
  refine sm_lload_n (i := 0) (j := 0) (pc' := 1) d_M_isIn_0 rfl rfl rfl (sm_lload_n (i := 2) (j := 1) (pc' := 2) d_M_isIn_1 rfl rfl rfl (sm_lcmp (pc' := 3) d_M_isIn_2 rfl ?_))
  refine sm_if_lt (tgt := 17) (pc' := 6) d_M_isIn_3 rfl rfl ?_ ?_
  · refine sm_iconst (pc' := 18) d_M_isIn_17 rfl ic_0 ?_
    exact sm_zreturn d_M_isIn_18 rfl (by decide) rfl
  · refine sm_lload_n (i := 0) (j := 0) (pc' := 7) d_M_isIn_6 rfl rfl rfl (sm_lload (j := 2) (pc' := 9) d_M_isIn_7 rfl rfl (sm_lcmp (pc' := 10) d_M_isIn_9 rfl ?_))
    refine sm_if_gt (tgt := 17) (pc' := 13) d_M_isIn_10 rfl rfl ?_ ?_
    · refine sm_iconst (pc' := 18) d_M_isIn_17 rfl ic_0 ?_
      exact sm_zreturn d_M_isIn_18 rfl (by decide) rfl
    · refine sm_iconst (pc' := 14) d_M_isIn_13 rfl ic_1 (sm_goto (tgt := 18) d_M_isIn_14 rfl ?_)
      exact sm_zreturn d_M_isIn_18 rfl (by decide) rfl
theorem d_M_count_0 : m_D k_M_count 0 (.aload_n 0) 1 := (by decide +kernel : decode prog_14_method_48_code 0 = .ok (.aload_n 0, 1))
theorem d_M_count_1 : m_D k_M_count 1 (.getfield 218) 3 := (by decide +kernel : decode prog_14_method_48_code 1 = .ok (.getfield 218, 3))
theorem d_M_count_4 : m_D k_M_count 4 (.ifCond .ne 15) 3 := (by decide +kernel : decode prog_14_method_48_code 4 = .ok (.ifCond .ne 15, 3))
theorem d_M_count_7 : m_D k_M_count 7 (.aload_n 0) 1 := (by decide +kernel : decode prog_14_method_48_code 7 = .ok (.aload_n 0, 1))
theorem d_M_count_8 : m_D k_M_count 8 (.getfield 136) 3 := (by decide +kernel : decode prog_14_method_48_code 8 = .ok (.getfield 136, 3))
theorem d_M_count_11 : m_D k_M_count 11 (.iconst 2) 1 := (by decide +kernel : decode prog_14_method_48_code 11 = .ok (.iconst 2, 1))
theorem d_M_count_12 : m_D k_M_count 12 (.if_icmp .eq 7) 3 := (by decide +kernel : decode prog_14_method_48_code 12 = .ok (.if_icmp .eq 7, 3))
theorem d_M_count_15 : m_D k_M_count 15 (.aload_n 0) 1 := (by decide +kernel : decode prog_14_method_48_code 15 = .ok (.aload_n 0, 1))
theorem d_M_count_16 : m_D k_M_count 16 (.invokevirtual 231) 3 := (by decide +kernel : decode prog_14_method_48_code 16 = .ok (.invokevirtual 231, 3))
theorem d_M_count_19 : m_D k_M_count 19 (.aload_n 0) 1 := (by decide +kernel : decode prog_14_method_48_code 19 = .ok (.aload_n 0, 1))
theorem d_M_count_20 : m_D k_M_count 20 (.getfield 218) 3 := (by decide +kernel : decode prog_14_method_48_code 20 = .ok (.getfield 218, 3))
theorem d_M_count_23 : m_D k_M_count 23 (.ifCond .ne 27) 3 := (by decide +kernel : decode prog_14_method_48_code 23 = .ok (.ifCond .ne 27, 3))
theorem d_M_count_26 : m_D k_M_count 26 (.aload_n 0) 1 := (by decide +kernel : decode prog_14_method_48_code 26 = .ok (.aload_n 0, 1))
theorem d_M_count_27 : m_D k_M_count 27 (.getfield 155) 3 := (by decide +kernel : decode prog_14_method_48_code 27 = .ok (.getfield 155, 3))
theorem d_M_count_30 : m_D k_M_count 30 (.i2l) 1 := (by decide +kernel : decode prog_14_method_48_code 30 = .ok (.i2l, 1))
theorem d_M_count_31 : m_D k_M_count 31 (.iload_n 1) 1 := (by decide +kernel : decode prog_14_method_48_code 31 = .ok (.iload_n 1, 1))
theorem d_M_count_32 : m_D k_M_count 32 (.i2l) 1 := (by decide +kernel : decode prog_14_method_48_code 32 = .ok (.i2l, 1))
theorem d_M_count_33 : m_D k_M_count 33 (.iload_n 2) 1 := (by decide +kernel : decode prog_14_method_48_code 33 = .ok (.iload_n 2, 1))
theorem d_M_count_34 : m_D k_M_count 34 (.i2l) 1 := (by decide +kernel : decode prog_14_method_48_code 34 = .ok (.i2l, 1))
theorem d_M_count_35 : m_D k_M_count 35 (.invokestatic 116) 3 := (by decide +kernel : decode prog_14_method_48_code 35 = .ok (.invokestatic 116, 3))
theorem d_M_count_38 : m_D k_M_count 38 (.ifCond .ne 12) 3 := (by decide +kernel : decode prog_14_method_48_code 38 = .ok (.ifCond .ne 12, 3))
theorem d_M_count_41 : m_D k_M_count 41 (.aload_n 0) 1 := (by decide +kernel : decode prog_14_method_48_code 41 = .ok (.aload_n 0, 1))
theorem d_M_count_42 : m_D k_M_count 42 (.iconst 4) 1 := (by decide +kernel : decode prog_14_method_48_code 42 = .ok (.iconst 4, 1))
theorem d_M_count_43 : m_D k_M_count 43 (.aload_n 0) 1 := (by decide +kernel : decode prog_14_method_48_code 43 = .ok (.aload_n 0, 1))
theorem d_M_count_44 : m_D k_M_count 44 (.getfield 130) 3 := (by decide +kernel : decode prog_14_method_48_code 44 = .ok (.getfield 130, 3))
theorem d_M_count_47 : m_D k_M_count 47 (.invokevirtual 224) 3 := (by decide +kernel : decode prog_14_method_48_code 47 = .ok (.invokevirtual 224, 3))
theorem d_M_count_50 : m_D k_M_count 50 (.aload_n 0) 1 := (by decide +kernel : decode prog_14_method_48_code 50 = .ok (.aload_n 0, 1))
theorem d_M_count_51 : m_D k_M_count 51 (.getfield 218) 3 := (by decide +kernel : decode prog_14_method_48_code 51 = .ok (.getfield 218, 3))
theorem d_M_count_54 : m_D k_M_count 54 (.ifCond .le 5) 3 := (by decide +kernel : decode prog_14_method_48_code 54 = .ok (.ifCond .le 5, 3))
theorem d_M_count_57 : m_D k_M_count 57 (.iconst 0) 1 := (by decide +kernel : decode prog_14_method_48_code 57 = .ok (.iconst 0, 1))
theorem d_M_count_58 : m_D k_M_count 58 (.ireturn) 1 := (by decide +kernel : decode prog_14_method_48_code 58 = .ok (.ireturn, 1))
theorem d_M_count_59 : m_D k_M_count 59 (.aload_n 0) 1 := (by decide +kernel : decode prog_14_method_48_code 59 = .ok (.aload_n 0, 1))
theorem d_M_count_60 : m_D k_M_count 60 (.getfield 155) 3 := (by decide +kernel : decode prog_14_method_48_code 60 = .ok (.getfield 155, 3))
theorem d_M_count_63 : m_D k_M_count 63 (.istore_n 3) 1 := (by decide +kernel : decode prog_14_method_48_code 63 = .ok (.istore_n 3, 1))
theorem d_M_count_64 : m_D k_M_count 64 (.aload_n 0) 1 := (by decide +kernel : decode prog_14_method_48_code 64 = .ok (.aload_n 0, 1))
theorem d_M_count_65 : m_D k_M_count 65 (.invokevirtual 228) 3 := (by decide +kernel : decode prog_14_method_48_code 65 = .ok (.invokevirtual 228, 3))
theorem d_M_count_68 : m_D k_M_count 68 (.iload_n 3) 1 := (by decide +kernel : decode prog_14_method_48_code 68 = .ok (.iload_n 3, 1))
theorem d_M_count_69 : m_D k_M_count 69 (.ireturn) 1 := (by decide +kernel : decode prog_14_method_48_code 69 = .ok (.ireturn, 1))
def fn_M_count (x0 : Option mA) (x1 : Int32) (x2 : Int32) : mP Int32 :=
  m_th 11 x0 <|
  m_bd (m_gI 11 12 x0) fun v1 =>
  m_bd (α := Unit) (
    if v1 = 0 then
      m_bd (m_gI 11 14 x0) fun v2 =>
      if v2 = 2 then
        m_rt ()
      else
        m_bd (fn_M_amiss x0) fun _ =>
        m_rt ()
    else
      m_rt ()
    ) fun (t3 : Unit) =>
  m_bd (m_gI 11 12 x0) fun v4 =>
  m_bd (α := Unit) (
    if v4 = 0 then
      m_bd (m_gI 11 17 x0) fun v5 =>
      m_bd (fn_M_isIn (v5).toInt64 (x1).toInt64 (x2).toInt64) fun v6 =>
      if v6 = 0 then
        m_bd (m_gI 11 15 x0) fun v7 =>
        m_bd (fn_M_fail x0 4 v7) fun _ =>
        m_rt ()
      else
        m_rt ()
    else
      m_rt ()
    ) fun (t8 : Unit) =>
  m_bd (m_gI 11 12 x0) fun v9 =>
  if v9 ≤ 0 then
    m_bd (m_gI 11 17 x0) fun v10 =>
    m_bd (fn_M_advance x0) fun _ =>
    m_rt v10
  else
    m_rt 0
set_option maxHeartbeats 4000000 in
set_option maxRecDepth 100000 in
theorem sd_M_count (x0 : Option mA) (x1 : Int32) (x2 : Int32) : m_Sm k_M_count 3 0 0 [.inr (.inr x0), .inl x1, .inl x2] (fn_M_count x0 x1 x2) (fun b => some (.inl b)) := by
  refine ⟨Nat.le_of_ble_eq_true rfl, ?_⟩
  refine sm_th ?_
  refine sm_aload_n (i := 0) (j := 0) (pc' := 1) d_M_count_0 rfl rfl rfl ?_
  refine sm_getI (pc' := 4) d_M_count_1 rfl fl_M_218 rfl ⟨by decide, by decide⟩ (fun v1 => ?_)
  refine sm_bd (mid := fun (t3 : Unit) => .inl (19, [(0, .inr (.inr x0)), (1, .inl x1), (2, .inl x2)], [])) ?_ (fun t3 => ?_)
  · refine sm_if_ne (tgt := 19) (pc' := 7) d_M_count_4 rfl rfl ?_ ?_
    · refine sm_sub [0, 1, 2] rfl ?_
      exact sm_rt rfl
    · refine sm_aload_n (i := 0) (j := 0) (pc' := 8) d_M_count_7 rfl rfl rfl ?_
      refine sm_getI (pc' := 11) d_M_count_8 rfl fl_M_136 rfl ⟨by decide, by decide⟩ (fun v2 => ?_)
      refine sm_iconst (pc' := 12) d_M_count_11 rfl ic_2 ?_
      refine sm_icmp_eq (tgt := 19) (pc' := 15) d_M_count_12 rfl rfl ?_ ?_
      · refine sm_sub [0, 1, 2] rfl ?_
        exact sm_rt rfl
      · refine sm_aload_n (i := 0) (j := 0) (pc' := 16) d_M_count_15 rfl rfl rfl ?_
        refine sm_callVv (ci := 11) (x := x0) (av := []) (st := []) (mc := 0) (ms := 0) (pc' := 19) d_M_count_16 rfl (sd_M_amiss x0) m_lv rfl cv_M_amiss w_ml_M_231 rfl rfl (by decide) (Nat.le_of_ble_eq_true rfl) rfl rfl ?_
        refine sm_sub [0, 1, 2] rfl ?_
        exact sm_rt rfl
  · refine sm_aload_n (i := 0) (j := 0) (pc' := 20) d_M_count_19 rfl rfl rfl ?_
    refine sm_getI (pc' := 23) d_M_count_20 rfl fl_M_218 rfl ⟨by decide, by decide⟩ (fun v4 => ?_)
    refine sm_bd (mid := fun (t8 : Unit) => .inl (50, [(0, .inr (.inr x0))], [])) ?_ (fun t8 => ?_)
    · refine sm_if_ne (tgt := 50) (pc' := 26) d_M_count_23 rfl rfl ?_ ?_
      · refine sm_sub [0] rfl ?_
        exact sm_rt rfl
      · refine sm_aload_n (i := 0) (j := 0) (pc' := 27) d_M_count_26 rfl rfl rfl ?_
        refine sm_getI (pc' := 30) d_M_count_27 rfl fl_M_155 rfl ⟨by decide, by decide⟩ (fun v5 => ?_)
        refine sm_i2l (pc' := 31) d_M_count_30 rfl (sm_iload_n (i := 1) (j := 1) (pc' := 32) d_M_count_31 rfl rfl rfl (sm_i2l (pc' := 33) d_M_count_32 rfl (sm_iload_n (i := 2) (j := 2) (pc' := 34) d_M_count_33 rfl rfl rfl (sm_i2l (pc' := 35) d_M_count_34 rfl ?_))))
        refine sm_callSi (av := [.inr (.inl (v5).toInt64), .inr (.inl (x1).toInt64), .inr (.inl (x2).toInt64)]) (st := []) (mc := 0) (ms := 0) (pc' := 38) d_M_count_35 rfl (sd_M_isIn (v5).toInt64 (x1).toInt64 (x2).toInt64) cs_M_isIn w_ml_M_116 rfl rfl (by decide) (Nat.le_of_ble_eq_true rfl) rfl rfl (fun v6 => ?_)
        refine sm_if_ne (tgt := 50) (pc' := 41) d_M_count_38 rfl rfl ?_ ?_
        · refine sm_sub [0] rfl ?_
          exact sm_rt rfl
        · refine sm_aload_n (i := 0) (j := 0) (pc' := 42) d_M_count_41 rfl rfl rfl (sm_iconst (pc' := 43) d_M_count_42 rfl ic_4 (sm_aload_n (i := 0) (j := 0) (pc' := 44) d_M_count_43 rfl rfl rfl ?_))
          refine sm_getI (pc' := 47) d_M_count_44 rfl fl_M_130 rfl ⟨by decide, by decide⟩ (fun v7 => ?_)
          refine sm_callVv (ci := 11) (x := x0) (av := [.inl 4, .inl v7]) (st := []) (mc := 0) (ms := 0) (pc' := 50) d_M_count_47 rfl (sd_M_fail x0 4 v7) m_lv rfl cv_M_fail w_ml_M_224 rfl rfl (by decide) (Nat.le_of_ble_eq_true rfl) rfl rfl ?_
          refine sm_sub [0] rfl ?_
          exact sm_rt rfl
    · refine sm_aload_n (i := 0) (j := 0) (pc' := 51) d_M_count_50 rfl rfl rfl ?_
      refine sm_getI (pc' := 54) d_M_count_51 rfl fl_M_218 rfl ⟨by decide, by decide⟩ (fun v9 => ?_)
      refine sm_if_le (tgt := 59) (pc' := 57) d_M_count_54 rfl rfl ?_ ?_
      · refine sm_aload_n (i := 0) (j := 0) (pc' := 60) d_M_count_59 rfl rfl rfl ?_
        refine sm_getI (pc' := 63) d_M_count_60 rfl fl_M_155 rfl ⟨by decide, by decide⟩ (fun v10 => ?_)
        refine sm_istore_n (i := 3) (L' := [(3, .inl v10), (0, .inr (.inr x0))]) (pc' := 64) d_M_count_63 rfl rfl (Nat.le_of_ble_eq_true rfl) rfl (sm_aload_n (i := 0) (j := 1) (pc' := 65) d_M_count_64 rfl rfl rfl ?_)
        refine sm_callVv (ci := 11) (x := x0) (av := []) (st := []) (mc := 0) (ms := 0) (pc' := 68) d_M_count_65 rfl (sd_M_advance x0) m_lv rfl cv_M_advance w_ml_M_228 rfl rfl (by decide) (Nat.le_of_ble_eq_true rfl) rfl rfl ?_
        refine sm_iload_n (i := 3) (j := 0) (pc' := 69) d_M_count_68 rfl rfl rfl ?_
        exact sm_ireturn d_M_count_69 rfl rfl
      · refine sm_iconst (pc' := 58) d_M_count_57 rfl ic_0 ?_
        exact sm_ireturn d_M_count_58 rfl rfl
theorem d_M_isAge_0 : m_D k_M_isAge 0 (.aload_n 0) 1 := (by decide +kernel : decode prog_14_method_34_code 0 = .ok (.aload_n 0, 1))
theorem d_M_isAge_1 : m_D k_M_isAge 1 (.bipush 97) 2 := (by decide +kernel : decode prog_14_method_34_code 1 = .ok (.bipush 97, 2))
theorem d_M_isAge_3 : m_D k_M_isAge 3 (.bipush 103) 2 := (by decide +kernel : decode prog_14_method_34_code 3 = .ok (.bipush 103, 2))
theorem d_M_isAge_5 : m_D k_M_isAge 5 (.bipush 101) 2 := (by decide +kernel : decode prog_14_method_34_code 5 = .ok (.bipush 101, 2))
theorem d_M_isAge_7 : m_D k_M_isAge 7 (.iconst 0) 1 := (by decide +kernel : decode prog_14_method_34_code 7 = .ok (.iconst 0, 1))
theorem d_M_isAge_8 : m_D k_M_isAge 8 (.iconst 0) 1 := (by decide +kernel : decode prog_14_method_34_code 8 = .ok (.iconst 0, 1))
theorem d_M_isAge_9 : m_D k_M_isAge 9 (.iconst 0) 1 := (by decide +kernel : decode prog_14_method_34_code 9 = .ok (.iconst 0, 1))
theorem d_M_isAge_10 : m_D k_M_isAge 10 (.invokestatic 161) 3 := (by decide +kernel : decode prog_14_method_34_code 10 = .ok (.invokestatic 161, 3))
theorem d_M_isAge_13 : m_D k_M_isAge 13 (.invokevirtual 165) 3 := (by decide +kernel : decode prog_14_method_34_code 13 = .ok (.invokevirtual 165, 3))
theorem d_M_isAge_16 : m_D k_M_isAge 16 (.ireturn) 1 := (by decide +kernel : decode prog_14_method_34_code 16 = .ok (.ireturn, 1))
def fn_M_isAge (x0 : Option mA) : mP Int32 :=
  m_th 11 x0 <|
  m_bd (fn_M_spelled 97 103 101 0 0 0) fun v1 =>
  m_bd (fn_M_isWord x0 v1) fun v2 =>
  m_bd (m_cz v2) fun _ => m_rt v2
set_option maxHeartbeats 4000000 in
set_option maxRecDepth 100000 in
theorem sd_M_isAge (x0 : Option mA) : m_Sm k_M_isAge 2 0 0 [.inr (.inr x0)] (fn_M_isAge x0) (fun b => some (.inl b)) := by
  refine ⟨Nat.le_of_ble_eq_true rfl, ?_⟩
  refine sm_th ?_
  refine sm_aload_n (i := 0) (j := 0) (pc' := 1) d_M_isAge_0 rfl rfl rfl (sm_bipush (pc' := 3) d_M_isAge_1 rfl ib_97 (sm_bipush (pc' := 5) d_M_isAge_3 rfl ib_103 (sm_bipush (pc' := 7) d_M_isAge_5 rfl ib_101 (sm_iconst (pc' := 8) d_M_isAge_7 rfl ic_0 (sm_iconst (pc' := 9) d_M_isAge_8 rfl ic_0 (sm_iconst (pc' := 10) d_M_isAge_9 rfl ic_0 ?_))))))
  refine sm_callSj (av := [.inl 97, .inl 103, .inl 101, .inl 0, .inl 0, .inl 0]) (st := [.inr (.inr x0)]) (mc := 0) (ms := 0) (pc' := 13) d_M_isAge_10 rfl (sd_M_spelled 97 103 101 0 0 0) cs_M_spelled w_ml_M_161 rfl rfl (by decide) (Nat.le_of_ble_eq_true rfl) rfl rfl (fun v1 => ?_)
  refine sm_callVi (ci := 11) (x := x0) (av := [.inr (.inl v1)]) (st := []) (mc := 0) (ms := 0) (pc' := 16) d_M_isAge_13 rfl (sd_M_isWord x0 v1) m_lv rfl cv_M_isWord w_ml_M_165 rfl rfl (by decide) (Nat.le_of_ble_eq_true rfl) rfl rfl (fun v2 => ?_)
  exact sm_zretC d_M_isAge_16 rfl rfl
theorem d_M_isEnd_0 : m_D k_M_isEnd 0 (.aload_n 0) 1 := (by decide +kernel : decode prog_14_method_42_code 0 = .ok (.aload_n 0, 1))
theorem d_M_isEnd_1 : m_D k_M_isEnd 1 (.bipush 101) 2 := (by decide +kernel : decode prog_14_method_42_code 1 = .ok (.bipush 101, 2))
theorem d_M_isEnd_3 : m_D k_M_isEnd 3 (.bipush 110) 2 := (by decide +kernel : decode prog_14_method_42_code 3 = .ok (.bipush 110, 2))
theorem d_M_isEnd_5 : m_D k_M_isEnd 5 (.bipush 100) 2 := (by decide +kernel : decode prog_14_method_42_code 5 = .ok (.bipush 100, 2))
theorem d_M_isEnd_7 : m_D k_M_isEnd 7 (.iconst 0) 1 := (by decide +kernel : decode prog_14_method_42_code 7 = .ok (.iconst 0, 1))
theorem d_M_isEnd_8 : m_D k_M_isEnd 8 (.iconst 0) 1 := (by decide +kernel : decode prog_14_method_42_code 8 = .ok (.iconst 0, 1))
theorem d_M_isEnd_9 : m_D k_M_isEnd 9 (.iconst 0) 1 := (by decide +kernel : decode prog_14_method_42_code 9 = .ok (.iconst 0, 1))
theorem d_M_isEnd_10 : m_D k_M_isEnd 10 (.invokestatic 161) 3 := (by decide +kernel : decode prog_14_method_42_code 10 = .ok (.invokestatic 161, 3))
theorem d_M_isEnd_13 : m_D k_M_isEnd 13 (.invokevirtual 165) 3 := (by decide +kernel : decode prog_14_method_42_code 13 = .ok (.invokevirtual 165, 3))
theorem d_M_isEnd_16 : m_D k_M_isEnd 16 (.ireturn) 1 := (by decide +kernel : decode prog_14_method_42_code 16 = .ok (.ireturn, 1))
def fn_M_isEnd (x0 : Option mA) : mP Int32 :=
  m_th 11 x0 <|
  m_bd (fn_M_spelled 101 110 100 0 0 0) fun v1 =>
  m_bd (fn_M_isWord x0 v1) fun v2 =>
  m_bd (m_cz v2) fun _ => m_rt v2
set_option maxHeartbeats 4000000 in
set_option maxRecDepth 100000 in
theorem sd_M_isEnd (x0 : Option mA) : m_Sm k_M_isEnd 2 0 0 [.inr (.inr x0)] (fn_M_isEnd x0) (fun b => some (.inl b)) := by
  refine ⟨Nat.le_of_ble_eq_true rfl, ?_⟩
  refine sm_th ?_
  refine sm_aload_n (i := 0) (j := 0) (pc' := 1) d_M_isEnd_0 rfl rfl rfl (sm_bipush (pc' := 3) d_M_isEnd_1 rfl ib_101 (sm_bipush (pc' := 5) d_M_isEnd_3 rfl ib_110 (sm_bipush (pc' := 7) d_M_isEnd_5 rfl ib_100 (sm_iconst (pc' := 8) d_M_isEnd_7 rfl ic_0 (sm_iconst (pc' := 9) d_M_isEnd_8 rfl ic_0 (sm_iconst (pc' := 10) d_M_isEnd_9 rfl ic_0 ?_))))))
  refine sm_callSj (av := [.inl 101, .inl 110, .inl 100, .inl 0, .inl 0, .inl 0]) (st := [.inr (.inr x0)]) (mc := 0) (ms := 0) (pc' := 13) d_M_isEnd_10 rfl (sd_M_spelled 101 110 100 0 0 0) cs_M_spelled w_ml_M_161 rfl rfl (by decide) (Nat.le_of_ble_eq_true rfl) rfl rfl (fun v1 => ?_)
  refine sm_callVi (ci := 11) (x := x0) (av := [.inr (.inl v1)]) (st := []) (mc := 0) (ms := 0) (pc' := 16) d_M_isEnd_13 rfl (sd_M_isWord x0 v1) m_lv rfl cv_M_isWord w_ml_M_165 rfl rfl (by decide) (Nat.le_of_ble_eq_true rfl) rfl rfl (fun v2 => ?_)
  exact sm_zretC d_M_isEnd_16 rfl rfl
theorem d_M_isOf_0 : m_D k_M_isOf 0 (.aload_n 0) 1 := (by decide +kernel : decode prog_14_method_35_code 0 = .ok (.aload_n 0, 1))
theorem d_M_isOf_1 : m_D k_M_isOf 1 (.bipush 111) 2 := (by decide +kernel : decode prog_14_method_35_code 1 = .ok (.bipush 111, 2))
theorem d_M_isOf_3 : m_D k_M_isOf 3 (.bipush 102) 2 := (by decide +kernel : decode prog_14_method_35_code 3 = .ok (.bipush 102, 2))
theorem d_M_isOf_5 : m_D k_M_isOf 5 (.iconst 0) 1 := (by decide +kernel : decode prog_14_method_35_code 5 = .ok (.iconst 0, 1))
theorem d_M_isOf_6 : m_D k_M_isOf 6 (.iconst 0) 1 := (by decide +kernel : decode prog_14_method_35_code 6 = .ok (.iconst 0, 1))
theorem d_M_isOf_7 : m_D k_M_isOf 7 (.iconst 0) 1 := (by decide +kernel : decode prog_14_method_35_code 7 = .ok (.iconst 0, 1))
theorem d_M_isOf_8 : m_D k_M_isOf 8 (.iconst 0) 1 := (by decide +kernel : decode prog_14_method_35_code 8 = .ok (.iconst 0, 1))
theorem d_M_isOf_9 : m_D k_M_isOf 9 (.invokestatic 161) 3 := (by decide +kernel : decode prog_14_method_35_code 9 = .ok (.invokestatic 161, 3))
theorem d_M_isOf_12 : m_D k_M_isOf 12 (.invokevirtual 165) 3 := (by decide +kernel : decode prog_14_method_35_code 12 = .ok (.invokevirtual 165, 3))
theorem d_M_isOf_15 : m_D k_M_isOf 15 (.ireturn) 1 := (by decide +kernel : decode prog_14_method_35_code 15 = .ok (.ireturn, 1))
def fn_M_isOf (x0 : Option mA) : mP Int32 :=
  m_th 11 x0 <|
  m_bd (fn_M_spelled 111 102 0 0 0 0) fun v1 =>
  m_bd (fn_M_isWord x0 v1) fun v2 =>
  m_bd (m_cz v2) fun _ => m_rt v2
set_option maxHeartbeats 4000000 in
set_option maxRecDepth 100000 in
theorem sd_M_isOf (x0 : Option mA) : m_Sm k_M_isOf 2 0 0 [.inr (.inr x0)] (fn_M_isOf x0) (fun b => some (.inl b)) := by
  refine ⟨Nat.le_of_ble_eq_true rfl, ?_⟩
  refine sm_th ?_
  refine sm_aload_n (i := 0) (j := 0) (pc' := 1) d_M_isOf_0 rfl rfl rfl (sm_bipush (pc' := 3) d_M_isOf_1 rfl ib_111 (sm_bipush (pc' := 5) d_M_isOf_3 rfl ib_102 (sm_iconst (pc' := 6) d_M_isOf_5 rfl ic_0 (sm_iconst (pc' := 7) d_M_isOf_6 rfl ic_0 (sm_iconst (pc' := 8) d_M_isOf_7 rfl ic_0 (sm_iconst (pc' := 9) d_M_isOf_8 rfl ic_0 ?_))))))
  refine sm_callSj (av := [.inl 111, .inl 102, .inl 0, .inl 0, .inl 0, .inl 0]) (st := [.inr (.inr x0)]) (mc := 0) (ms := 0) (pc' := 12) d_M_isOf_9 rfl (sd_M_spelled 111 102 0 0 0 0) cs_M_spelled w_ml_M_161 rfl rfl (by decide) (Nat.le_of_ble_eq_true rfl) rfl rfl (fun v1 => ?_)
  refine sm_callVi (ci := 11) (x := x0) (av := [.inr (.inl v1)]) (st := []) (mc := 0) (ms := 0) (pc' := 15) d_M_isOf_12 rfl (sd_M_isWord x0 v1) m_lv rfl cv_M_isWord w_ml_M_165 rfl rfl (by decide) (Nat.le_of_ble_eq_true rfl) rfl rfl (fun v2 => ?_)
  exact sm_zretC d_M_isOf_15 rfl rfl
theorem d_M_isThick_0 : m_D k_M_isThick 0 (.aload_n 0) 1 := (by decide +kernel : decode prog_14_method_37_code 0 = .ok (.aload_n 0, 1))
theorem d_M_isThick_1 : m_D k_M_isThick 1 (.bipush 116) 2 := (by decide +kernel : decode prog_14_method_37_code 1 = .ok (.bipush 116, 2))
theorem d_M_isThick_3 : m_D k_M_isThick 3 (.bipush 104) 2 := (by decide +kernel : decode prog_14_method_37_code 3 = .ok (.bipush 104, 2))
theorem d_M_isThick_5 : m_D k_M_isThick 5 (.bipush 105) 2 := (by decide +kernel : decode prog_14_method_37_code 5 = .ok (.bipush 105, 2))
theorem d_M_isThick_7 : m_D k_M_isThick 7 (.bipush 99) 2 := (by decide +kernel : decode prog_14_method_37_code 7 = .ok (.bipush 99, 2))
theorem d_M_isThick_9 : m_D k_M_isThick 9 (.bipush 107) 2 := (by decide +kernel : decode prog_14_method_37_code 9 = .ok (.bipush 107, 2))
theorem d_M_isThick_11 : m_D k_M_isThick 11 (.iconst 0) 1 := (by decide +kernel : decode prog_14_method_37_code 11 = .ok (.iconst 0, 1))
theorem d_M_isThick_12 : m_D k_M_isThick 12 (.invokestatic 161) 3 := (by decide +kernel : decode prog_14_method_37_code 12 = .ok (.invokestatic 161, 3))
theorem d_M_isThick_15 : m_D k_M_isThick 15 (.invokevirtual 165) 3 := (by decide +kernel : decode prog_14_method_37_code 15 = .ok (.invokevirtual 165, 3))
theorem d_M_isThick_18 : m_D k_M_isThick 18 (.ireturn) 1 := (by decide +kernel : decode prog_14_method_37_code 18 = .ok (.ireturn, 1))
def fn_M_isThick (x0 : Option mA) : mP Int32 :=
  m_th 11 x0 <|
  m_bd (fn_M_spelled 116 104 105 99 107 0) fun v1 =>
  m_bd (fn_M_isWord x0 v1) fun v2 =>
  m_bd (m_cz v2) fun _ => m_rt v2
set_option maxHeartbeats 4000000 in
set_option maxRecDepth 100000 in
theorem sd_M_isThick (x0 : Option mA) : m_Sm k_M_isThick 2 0 0 [.inr (.inr x0)] (fn_M_isThick x0) (fun b => some (.inl b)) := by
  refine ⟨Nat.le_of_ble_eq_true rfl, ?_⟩
  refine sm_th ?_
  refine sm_aload_n (i := 0) (j := 0) (pc' := 1) d_M_isThick_0 rfl rfl rfl (sm_bipush (pc' := 3) d_M_isThick_1 rfl ib_116 (sm_bipush (pc' := 5) d_M_isThick_3 rfl ib_104 (sm_bipush (pc' := 7) d_M_isThick_5 rfl ib_105 (sm_bipush (pc' := 9) d_M_isThick_7 rfl ib_99 (sm_bipush (pc' := 11) d_M_isThick_9 rfl ib_107 (sm_iconst (pc' := 12) d_M_isThick_11 rfl ic_0 ?_))))))
  refine sm_callSj (av := [.inl 116, .inl 104, .inl 105, .inl 99, .inl 107, .inl 0]) (st := [.inr (.inr x0)]) (mc := 0) (ms := 0) (pc' := 15) d_M_isThick_12 rfl (sd_M_spelled 116 104 105 99 107 0) cs_M_spelled w_ml_M_161 rfl rfl (by decide) (Nat.le_of_ble_eq_true rfl) rfl rfl (fun v1 => ?_)
  refine sm_callVi (ci := 11) (x := x0) (av := [.inr (.inl v1)]) (st := []) (mc := 0) (ms := 0) (pc' := 18) d_M_isThick_15 rfl (sd_M_isWord x0 v1) m_lv rfl cv_M_isWord w_ml_M_165 rfl rfl (by decide) (Nat.le_of_ble_eq_true rfl) rfl rfl (fun v2 => ?_)
  exact sm_zretC d_M_isThick_18 rfl rfl
theorem d_M_isCoat_0 : m_D k_M_isCoat 0 (.aload_n 0) 1 := (by decide +kernel : decode prog_14_method_38_code 0 = .ok (.aload_n 0, 1))
theorem d_M_isCoat_1 : m_D k_M_isCoat 1 (.bipush 99) 2 := (by decide +kernel : decode prog_14_method_38_code 1 = .ok (.bipush 99, 2))
theorem d_M_isCoat_3 : m_D k_M_isCoat 3 (.bipush 111) 2 := (by decide +kernel : decode prog_14_method_38_code 3 = .ok (.bipush 111, 2))
theorem d_M_isCoat_5 : m_D k_M_isCoat 5 (.bipush 97) 2 := (by decide +kernel : decode prog_14_method_38_code 5 = .ok (.bipush 97, 2))
theorem d_M_isCoat_7 : m_D k_M_isCoat 7 (.bipush 116) 2 := (by decide +kernel : decode prog_14_method_38_code 7 = .ok (.bipush 116, 2))
theorem d_M_isCoat_9 : m_D k_M_isCoat 9 (.iconst 0) 1 := (by decide +kernel : decode prog_14_method_38_code 9 = .ok (.iconst 0, 1))
theorem d_M_isCoat_10 : m_D k_M_isCoat 10 (.iconst 0) 1 := (by decide +kernel : decode prog_14_method_38_code 10 = .ok (.iconst 0, 1))
theorem d_M_isCoat_11 : m_D k_M_isCoat 11 (.invokestatic 161) 3 := (by decide +kernel : decode prog_14_method_38_code 11 = .ok (.invokestatic 161, 3))
theorem d_M_isCoat_14 : m_D k_M_isCoat 14 (.invokevirtual 165) 3 := (by decide +kernel : decode prog_14_method_38_code 14 = .ok (.invokevirtual 165, 3))
theorem d_M_isCoat_17 : m_D k_M_isCoat 17 (.ireturn) 1 := (by decide +kernel : decode prog_14_method_38_code 17 = .ok (.ireturn, 1))
def fn_M_isCoat (x0 : Option mA) : mP Int32 :=
  m_th 11 x0 <|
  m_bd (fn_M_spelled 99 111 97 116 0 0) fun v1 =>
  m_bd (fn_M_isWord x0 v1) fun v2 =>
  m_bd (m_cz v2) fun _ => m_rt v2
set_option maxHeartbeats 4000000 in
set_option maxRecDepth 100000 in
theorem sd_M_isCoat (x0 : Option mA) : m_Sm k_M_isCoat 2 0 0 [.inr (.inr x0)] (fn_M_isCoat x0) (fun b => some (.inl b)) := by
  refine ⟨Nat.le_of_ble_eq_true rfl, ?_⟩
  refine sm_th ?_
  refine sm_aload_n (i := 0) (j := 0) (pc' := 1) d_M_isCoat_0 rfl rfl rfl (sm_bipush (pc' := 3) d_M_isCoat_1 rfl ib_99 (sm_bipush (pc' := 5) d_M_isCoat_3 rfl ib_111 (sm_bipush (pc' := 7) d_M_isCoat_5 rfl ib_97 (sm_bipush (pc' := 9) d_M_isCoat_7 rfl ib_116 (sm_iconst (pc' := 10) d_M_isCoat_9 rfl ic_0 (sm_iconst (pc' := 11) d_M_isCoat_10 rfl ic_0 ?_))))))
  refine sm_callSj (av := [.inl 99, .inl 111, .inl 97, .inl 116, .inl 0, .inl 0]) (st := [.inr (.inr x0)]) (mc := 0) (ms := 0) (pc' := 14) d_M_isCoat_11 rfl (sd_M_spelled 99 111 97 116 0 0) cs_M_spelled w_ml_M_161 rfl rfl (by decide) (Nat.le_of_ble_eq_true rfl) rfl rfl (fun v1 => ?_)
  refine sm_callVi (ci := 11) (x := x0) (av := [.inr (.inl v1)]) (st := []) (mc := 0) (ms := 0) (pc' := 17) d_M_isCoat_14 rfl (sd_M_isWord x0 v1) m_lv rfl cv_M_isWord w_ml_M_165 rfl rfl (by decide) (Nat.le_of_ble_eq_true rfl) rfl rfl (fun v2 => ?_)
  exact sm_zretC d_M_isCoat_17 rfl rfl
theorem d_M_stepWord_0 : m_D k_M_stepWord 0 (.aload_n 0) 1 := (by decide +kernel : decode prog_14_method_40_code 0 = .ok (.aload_n 0, 1))
theorem d_M_stepWord_1 : m_D k_M_stepWord 1 (.bipush 121) 2 := (by decide +kernel : decode prog_14_method_40_code 1 = .ok (.bipush 121, 2))
theorem d_M_stepWord_3 : m_D k_M_stepWord 3 (.bipush 101) 2 := (by decide +kernel : decode prog_14_method_40_code 3 = .ok (.bipush 101, 2))
theorem d_M_stepWord_5 : m_D k_M_stepWord 5 (.bipush 97) 2 := (by decide +kernel : decode prog_14_method_40_code 5 = .ok (.bipush 97, 2))
theorem d_M_stepWord_7 : m_D k_M_stepWord 7 (.bipush 114) 2 := (by decide +kernel : decode prog_14_method_40_code 7 = .ok (.bipush 114, 2))
theorem d_M_stepWord_9 : m_D k_M_stepWord 9 (.iconst 0) 1 := (by decide +kernel : decode prog_14_method_40_code 9 = .ok (.iconst 0, 1))
theorem d_M_stepWord_10 : m_D k_M_stepWord 10 (.iconst 0) 1 := (by decide +kernel : decode prog_14_method_40_code 10 = .ok (.iconst 0, 1))
theorem d_M_stepWord_11 : m_D k_M_stepWord 11 (.invokestatic 161) 3 := (by decide +kernel : decode prog_14_method_40_code 11 = .ok (.invokestatic 161, 3))
theorem d_M_stepWord_14 : m_D k_M_stepWord 14 (.invokevirtual 165) 3 := (by decide +kernel : decode prog_14_method_40_code 14 = .ok (.invokevirtual 165, 3))
theorem d_M_stepWord_17 : m_D k_M_stepWord 17 (.ifCond .eq 5) 3 := (by decide +kernel : decode prog_14_method_40_code 17 = .ok (.ifCond .eq 5, 3))
theorem d_M_stepWord_20 : m_D k_M_stepWord 20 (.iconst 0) 1 := (by decide +kernel : decode prog_14_method_40_code 20 = .ok (.iconst 0, 1))
theorem d_M_stepWord_21 : m_D k_M_stepWord 21 (.ireturn) 1 := (by decide +kernel : decode prog_14_method_40_code 21 = .ok (.ireturn, 1))
theorem d_M_stepWord_22 : m_D k_M_stepWord 22 (.aload_n 0) 1 := (by decide +kernel : decode prog_14_method_40_code 22 = .ok (.aload_n 0, 1))
theorem d_M_stepWord_23 : m_D k_M_stepWord 23 (.bipush 111) 2 := (by decide +kernel : decode prog_14_method_40_code 23 = .ok (.bipush 111, 2))
theorem d_M_stepWord_25 : m_D k_M_stepWord 25 (.bipush 105) 2 := (by decide +kernel : decode prog_14_method_40_code 25 = .ok (.bipush 105, 2))
theorem d_M_stepWord_27 : m_D k_M_stepWord 27 (.bipush 108) 2 := (by decide +kernel : decode prog_14_method_40_code 27 = .ok (.bipush 108, 2))
theorem d_M_stepWord_29 : m_D k_M_stepWord 29 (.iconst 0) 1 := (by decide +kernel : decode prog_14_method_40_code 29 = .ok (.iconst 0, 1))
theorem d_M_stepWord_30 : m_D k_M_stepWord 30 (.iconst 0) 1 := (by decide +kernel : decode prog_14_method_40_code 30 = .ok (.iconst 0, 1))
theorem d_M_stepWord_31 : m_D k_M_stepWord 31 (.iconst 0) 1 := (by decide +kernel : decode prog_14_method_40_code 31 = .ok (.iconst 0, 1))
theorem d_M_stepWord_32 : m_D k_M_stepWord 32 (.invokestatic 161) 3 := (by decide +kernel : decode prog_14_method_40_code 32 = .ok (.invokestatic 161, 3))
theorem d_M_stepWord_35 : m_D k_M_stepWord 35 (.invokevirtual 165) 3 := (by decide +kernel : decode prog_14_method_40_code 35 = .ok (.invokevirtual 165, 3))
theorem d_M_stepWord_38 : m_D k_M_stepWord 38 (.ifCond .eq 5) 3 := (by decide +kernel : decode prog_14_method_40_code 38 = .ok (.ifCond .eq 5, 3))
theorem d_M_stepWord_41 : m_D k_M_stepWord 41 (.iconst 1) 1 := (by decide +kernel : decode prog_14_method_40_code 41 = .ok (.iconst 1, 1))
theorem d_M_stepWord_42 : m_D k_M_stepWord 42 (.ireturn) 1 := (by decide +kernel : decode prog_14_method_40_code 42 = .ok (.ireturn, 1))
theorem d_M_stepWord_43 : m_D k_M_stepWord 43 (.aload_n 0) 1 := (by decide +kernel : decode prog_14_method_40_code 43 = .ok (.aload_n 0, 1))
theorem d_M_stepWord_44 : m_D k_M_stepWord 44 (.invokevirtual 169) 3 := (by decide +kernel : decode prog_14_method_40_code 44 = .ok (.invokevirtual 169, 3))
theorem d_M_stepWord_47 : m_D k_M_stepWord 47 (.ifCond .eq 5) 3 := (by decide +kernel : decode prog_14_method_40_code 47 = .ok (.ifCond .eq 5, 3))
theorem d_M_stepWord_50 : m_D k_M_stepWord 50 (.iconst 2) 1 := (by decide +kernel : decode prog_14_method_40_code 50 = .ok (.iconst 2, 1))
theorem d_M_stepWord_51 : m_D k_M_stepWord 51 (.ireturn) 1 := (by decide +kernel : decode prog_14_method_40_code 51 = .ok (.ireturn, 1))
theorem d_M_stepWord_52 : m_D k_M_stepWord 52 (.aload_n 0) 1 := (by decide +kernel : decode prog_14_method_40_code 52 = .ok (.aload_n 0, 1))
theorem d_M_stepWord_53 : m_D k_M_stepWord 53 (.invokevirtual 173) 3 := (by decide +kernel : decode prog_14_method_40_code 53 = .ok (.invokevirtual 173, 3))
theorem d_M_stepWord_56 : m_D k_M_stepWord 56 (.ifCond .eq 5) 3 := (by decide +kernel : decode prog_14_method_40_code 56 = .ok (.ifCond .eq 5, 3))
theorem d_M_stepWord_59 : m_D k_M_stepWord 59 (.iconst 3) 1 := (by decide +kernel : decode prog_14_method_40_code 59 = .ok (.iconst 3, 1))
theorem d_M_stepWord_60 : m_D k_M_stepWord 60 (.ireturn) 1 := (by decide +kernel : decode prog_14_method_40_code 60 = .ok (.ireturn, 1))
theorem d_M_stepWord_61 : m_D k_M_stepWord 61 (.aload_n 0) 1 := (by decide +kernel : decode prog_14_method_40_code 61 = .ok (.aload_n 0, 1))
theorem d_M_stepWord_62 : m_D k_M_stepWord 62 (.invokevirtual 176) 3 := (by decide +kernel : decode prog_14_method_40_code 62 = .ok (.invokevirtual 176, 3))
theorem d_M_stepWord_65 : m_D k_M_stepWord 65 (.ifCond .eq 5) 3 := (by decide +kernel : decode prog_14_method_40_code 65 = .ok (.ifCond .eq 5, 3))
theorem d_M_stepWord_68 : m_D k_M_stepWord 68 (.iconst 4) 1 := (by decide +kernel : decode prog_14_method_40_code 68 = .ok (.iconst 4, 1))
theorem d_M_stepWord_69 : m_D k_M_stepWord 69 (.ireturn) 1 := (by decide +kernel : decode prog_14_method_40_code 69 = .ok (.ireturn, 1))
theorem d_M_stepWord_70 : m_D k_M_stepWord 70 (.aload_n 0) 1 := (by decide +kernel : decode prog_14_method_40_code 70 = .ok (.aload_n 0, 1))
theorem d_M_stepWord_71 : m_D k_M_stepWord 71 (.bipush 109) 2 := (by decide +kernel : decode prog_14_method_40_code 71 = .ok (.bipush 109, 2))
theorem d_M_stepWord_73 : m_D k_M_stepWord 73 (.bipush 101) 2 := (by decide +kernel : decode prog_14_method_40_code 73 = .ok (.bipush 101, 2))
theorem d_M_stepWord_75 : m_D k_M_stepWord 75 (.bipush 110) 2 := (by decide +kernel : decode prog_14_method_40_code 75 = .ok (.bipush 110, 2))
theorem d_M_stepWord_77 : m_D k_M_stepWord 77 (.bipush 100) 2 := (by decide +kernel : decode prog_14_method_40_code 77 = .ok (.bipush 100, 2))
theorem d_M_stepWord_79 : m_D k_M_stepWord 79 (.iconst 0) 1 := (by decide +kernel : decode prog_14_method_40_code 79 = .ok (.iconst 0, 1))
theorem d_M_stepWord_80 : m_D k_M_stepWord 80 (.iconst 0) 1 := (by decide +kernel : decode prog_14_method_40_code 80 = .ok (.iconst 0, 1))
theorem d_M_stepWord_81 : m_D k_M_stepWord 81 (.invokestatic 161) 3 := (by decide +kernel : decode prog_14_method_40_code 81 = .ok (.invokestatic 161, 3))
theorem d_M_stepWord_84 : m_D k_M_stepWord 84 (.invokevirtual 165) 3 := (by decide +kernel : decode prog_14_method_40_code 84 = .ok (.invokevirtual 165, 3))
theorem d_M_stepWord_87 : m_D k_M_stepWord 87 (.ifCond .eq 5) 3 := (by decide +kernel : decode prog_14_method_40_code 87 = .ok (.ifCond .eq 5, 3))
theorem d_M_stepWord_90 : m_D k_M_stepWord 90 (.iconst 5) 1 := (by decide +kernel : decode prog_14_method_40_code 90 = .ok (.iconst 5, 1))
theorem d_M_stepWord_91 : m_D k_M_stepWord 91 (.ireturn) 1 := (by decide +kernel : decode prog_14_method_40_code 91 = .ok (.ireturn, 1))
theorem d_M_stepWord_92 : m_D k_M_stepWord 92 (.aload_n 0) 1 := (by decide +kernel : decode prog_14_method_40_code 92 = .ok (.aload_n 0, 1))
theorem d_M_stepWord_93 : m_D k_M_stepWord 93 (.bipush 97) 2 := (by decide +kernel : decode prog_14_method_40_code 93 = .ok (.bipush 97, 2))
theorem d_M_stepWord_95 : m_D k_M_stepWord 95 (.bipush 110) 2 := (by decide +kernel : decode prog_14_method_40_code 95 = .ok (.bipush 110, 2))
theorem d_M_stepWord_97 : m_D k_M_stepWord 97 (.bipush 121) 2 := (by decide +kernel : decode prog_14_method_40_code 97 = .ok (.bipush 121, 2))
theorem d_M_stepWord_99 : m_D k_M_stepWord 99 (.iconst 0) 1 := (by decide +kernel : decode prog_14_method_40_code 99 = .ok (.iconst 0, 1))
theorem d_M_stepWord_100 : m_D k_M_stepWord 100 (.iconst 0) 1 := (by decide +kernel : decode prog_14_method_40_code 100 = .ok (.iconst 0, 1))
theorem d_M_stepWord_101 : m_D k_M_stepWord 101 (.iconst 0) 1 := (by decide +kernel : decode prog_14_method_40_code 101 = .ok (.iconst 0, 1))
theorem d_M_stepWord_102 : m_D k_M_stepWord 102 (.invokestatic 161) 3 := (by decide +kernel : decode prog_14_method_40_code 102 = .ok (.invokestatic 161, 3))
theorem d_M_stepWord_105 : m_D k_M_stepWord 105 (.invokevirtual 165) 3 := (by decide +kernel : decode prog_14_method_40_code 105 = .ok (.invokevirtual 165, 3))
theorem d_M_stepWord_108 : m_D k_M_stepWord 108 (.ifCond .eq 6) 3 := (by decide +kernel : decode prog_14_method_40_code 108 = .ok (.ifCond .eq 6, 3))
theorem d_M_stepWord_111 : m_D k_M_stepWord 111 (.bipush 6) 2 := (by decide +kernel : decode prog_14_method_40_code 111 = .ok (.bipush 6, 2))
theorem d_M_stepWord_113 : m_D k_M_stepWord 113 (.ireturn) 1 := (by decide +kernel : decode prog_14_method_40_code 113 = .ok (.ireturn, 1))
theorem d_M_stepWord_114 : m_D k_M_stepWord 114 (.aload_n 0) 1 := (by decide +kernel : decode prog_14_method_40_code 114 = .ok (.aload_n 0, 1))
theorem d_M_stepWord_115 : m_D k_M_stepWord 115 (.bipush 119) 2 := (by decide +kernel : decode prog_14_method_40_code 115 = .ok (.bipush 119, 2))
theorem d_M_stepWord_117 : m_D k_M_stepWord 117 (.bipush 104) 2 := (by decide +kernel : decode prog_14_method_40_code 117 = .ok (.bipush 104, 2))
theorem d_M_stepWord_119 : m_D k_M_stepWord 119 (.bipush 101) 2 := (by decide +kernel : decode prog_14_method_40_code 119 = .ok (.bipush 101, 2))
theorem d_M_stepWord_121 : m_D k_M_stepWord 121 (.bipush 110) 2 := (by decide +kernel : decode prog_14_method_40_code 121 = .ok (.bipush 110, 2))
theorem d_M_stepWord_123 : m_D k_M_stepWord 123 (.iconst 0) 1 := (by decide +kernel : decode prog_14_method_40_code 123 = .ok (.iconst 0, 1))
theorem d_M_stepWord_124 : m_D k_M_stepWord 124 (.iconst 0) 1 := (by decide +kernel : decode prog_14_method_40_code 124 = .ok (.iconst 0, 1))
theorem d_M_stepWord_125 : m_D k_M_stepWord 125 (.invokestatic 161) 3 := (by decide +kernel : decode prog_14_method_40_code 125 = .ok (.invokestatic 161, 3))
theorem d_M_stepWord_128 : m_D k_M_stepWord 128 (.invokevirtual 165) 3 := (by decide +kernel : decode prog_14_method_40_code 128 = .ok (.invokevirtual 165, 3))
theorem d_M_stepWord_131 : m_D k_M_stepWord 131 (.ifCond .eq 6) 3 := (by decide +kernel : decode prog_14_method_40_code 131 = .ok (.ifCond .eq 6, 3))
theorem d_M_stepWord_134 : m_D k_M_stepWord 134 (.bipush 7) 2 := (by decide +kernel : decode prog_14_method_40_code 134 = .ok (.bipush 7, 2))
theorem d_M_stepWord_136 : m_D k_M_stepWord 136 (.ireturn) 1 := (by decide +kernel : decode prog_14_method_40_code 136 = .ok (.ireturn, 1))
theorem d_M_stepWord_137 : m_D k_M_stepWord 137 (.aload_n 0) 1 := (by decide +kernel : decode prog_14_method_40_code 137 = .ok (.aload_n 0, 1))
theorem d_M_stepWord_138 : m_D k_M_stepWord 138 (.bipush 108) 2 := (by decide +kernel : decode prog_14_method_40_code 138 = .ok (.bipush 108, 2))
theorem d_M_stepWord_140 : m_D k_M_stepWord 140 (.bipush 111) 2 := (by decide +kernel : decode prog_14_method_40_code 140 = .ok (.bipush 111, 2))
theorem d_M_stepWord_142 : m_D k_M_stepWord 142 (.bipush 111) 2 := (by decide +kernel : decode prog_14_method_40_code 142 = .ok (.bipush 111, 2))
theorem d_M_stepWord_144 : m_D k_M_stepWord 144 (.bipush 112) 2 := (by decide +kernel : decode prog_14_method_40_code 144 = .ok (.bipush 112, 2))
theorem d_M_stepWord_146 : m_D k_M_stepWord 146 (.iconst 0) 1 := (by decide +kernel : decode prog_14_method_40_code 146 = .ok (.iconst 0, 1))
theorem d_M_stepWord_147 : m_D k_M_stepWord 147 (.iconst 0) 1 := (by decide +kernel : decode prog_14_method_40_code 147 = .ok (.iconst 0, 1))
theorem d_M_stepWord_148 : m_D k_M_stepWord 148 (.invokestatic 161) 3 := (by decide +kernel : decode prog_14_method_40_code 148 = .ok (.invokestatic 161, 3))
theorem d_M_stepWord_151 : m_D k_M_stepWord 151 (.invokevirtual 165) 3 := (by decide +kernel : decode prog_14_method_40_code 151 = .ok (.invokevirtual 165, 3))
theorem d_M_stepWord_154 : m_D k_M_stepWord 154 (.ifCond .eq 6) 3 := (by decide +kernel : decode prog_14_method_40_code 154 = .ok (.ifCond .eq 6, 3))
theorem d_M_stepWord_157 : m_D k_M_stepWord 157 (.bipush 8) 2 := (by decide +kernel : decode prog_14_method_40_code 157 = .ok (.bipush 8, 2))
theorem d_M_stepWord_159 : m_D k_M_stepWord 159 (.ireturn) 1 := (by decide +kernel : decode prog_14_method_40_code 159 = .ok (.ireturn, 1))
theorem d_M_stepWord_160 : m_D k_M_stepWord 160 (.aload_n 0) 1 := (by decide +kernel : decode prog_14_method_40_code 160 = .ok (.aload_n 0, 1))
theorem d_M_stepWord_161 : m_D k_M_stepWord 161 (.bipush 115) 2 := (by decide +kernel : decode prog_14_method_40_code 161 = .ok (.bipush 115, 2))
theorem d_M_stepWord_163 : m_D k_M_stepWord 163 (.bipush 116) 2 := (by decide +kernel : decode prog_14_method_40_code 163 = .ok (.bipush 116, 2))
theorem d_M_stepWord_165 : m_D k_M_stepWord 165 (.bipush 111) 2 := (by decide +kernel : decode prog_14_method_40_code 165 = .ok (.bipush 111, 2))
theorem d_M_stepWord_167 : m_D k_M_stepWord 167 (.bipush 112) 2 := (by decide +kernel : decode prog_14_method_40_code 167 = .ok (.bipush 112, 2))
theorem d_M_stepWord_169 : m_D k_M_stepWord 169 (.iconst 0) 1 := (by decide +kernel : decode prog_14_method_40_code 169 = .ok (.iconst 0, 1))
theorem d_M_stepWord_170 : m_D k_M_stepWord 170 (.iconst 0) 1 := (by decide +kernel : decode prog_14_method_40_code 170 = .ok (.iconst 0, 1))
theorem d_M_stepWord_171 : m_D k_M_stepWord 171 (.invokestatic 161) 3 := (by decide +kernel : decode prog_14_method_40_code 171 = .ok (.invokestatic 161, 3))
theorem d_M_stepWord_174 : m_D k_M_stepWord 174 (.invokevirtual 165) 3 := (by decide +kernel : decode prog_14_method_40_code 174 = .ok (.invokevirtual 165, 3))
theorem d_M_stepWord_177 : m_D k_M_stepWord 177 (.ifCond .eq 8) 3 := (by decide +kernel : decode prog_14_method_40_code 177 = .ok (.ifCond .eq 8, 3))
theorem d_M_stepWord_180 : m_D k_M_stepWord 180 (.bipush 9) 2 := (by decide +kernel : decode prog_14_method_40_code 180 = .ok (.bipush 9, 2))
theorem d_M_stepWord_182 : m_D k_M_stepWord 182 (.goto 4) 3 := (by decide +kernel : decode prog_14_method_40_code 182 = .ok (.goto 4, 3))
theorem d_M_stepWord_185 : m_D k_M_stepWord 185 (.iconst (-1)) 1 := (by decide +kernel : decode prog_14_method_40_code 185 = .ok (.iconst (-1), 1))
theorem d_M_stepWord_186 : m_D k_M_stepWord 186 (.ireturn) 1 := (by decide +kernel : decode prog_14_method_40_code 186 = .ok (.ireturn, 1))
def fn_M_stepWord (x0 : Option mA) : mP Int32 :=
  m_th 11 x0 <|
  m_bd (fn_M_spelled 121 101 97 114 0 0) fun v1 =>
  m_bd (fn_M_isWord x0 v1) fun v2 =>
  if v2 = 0 then
    m_bd (fn_M_spelled 111 105 108 0 0 0) fun v3 =>
    m_bd (fn_M_isWord x0 v3) fun v4 =>
    if v4 = 0 then
      m_bd (fn_M_isLoves x0) fun v5 =>
      if v5 = 0 then
        m_bd (fn_M_isDamp x0) fun v6 =>
        if v6 = 0 then
          m_bd (fn_M_isCoat x0) fun v7 =>
          if v7 = 0 then
            m_bd (fn_M_spelled 109 101 110 100 0 0) fun v8 =>
            m_bd (fn_M_isWord x0 v8) fun v9 =>
            if v9 = 0 then
              m_bd (fn_M_spelled 97 110 121 0 0 0) fun v10 =>
              m_bd (fn_M_isWord x0 v10) fun v11 =>
              if v11 = 0 then
                m_bd (fn_M_spelled 119 104 101 110 0 0) fun v12 =>
                m_bd (fn_M_isWord x0 v12) fun v13 =>
                if v13 = 0 then
                  m_bd (fn_M_spelled 108 111 111 112 0 0) fun v14 =>
                  m_bd (fn_M_isWord x0 v14) fun v15 =>
                  if v15 = 0 then
                    m_bd (fn_M_spelled 115 116 111 112 0 0) fun v16 =>
                    m_bd (fn_M_isWord x0 v16) fun v17 =>
                    if v17 = 0 then
                      m_rt (-1)
                    else
                      m_rt 9
                  else
                    m_rt 8
                else
                  m_rt 7
              else
                m_rt 6
            else
              m_rt 5
          else
            m_rt 4
        else
          m_rt 3
      else
        m_rt 2
    else
      m_rt 1
  else
    m_rt 0
set_option maxHeartbeats 4000000 in
set_option maxRecDepth 100000 in
theorem sd_M_stepWord (x0 : Option mA) : m_Sm k_M_stepWord 3 0 0 [.inr (.inr x0)] (fn_M_stepWord x0) (fun b => some (.inl b)) := by
  refine ⟨Nat.le_of_ble_eq_true rfl, ?_⟩
  refine sm_th ?_
  refine sm_aload_n (i := 0) (j := 0) (pc' := 1) d_M_stepWord_0 rfl rfl rfl (sm_bipush (pc' := 3) d_M_stepWord_1 rfl ib_121 (sm_bipush (pc' := 5) d_M_stepWord_3 rfl ib_101 (sm_bipush (pc' := 7) d_M_stepWord_5 rfl ib_97 (sm_bipush (pc' := 9) d_M_stepWord_7 rfl ib_114 (sm_iconst (pc' := 10) d_M_stepWord_9 rfl ic_0 (sm_iconst (pc' := 11) d_M_stepWord_10 rfl ic_0 ?_))))))
  refine sm_callSj (av := [.inl 121, .inl 101, .inl 97, .inl 114, .inl 0, .inl 0]) (st := [.inr (.inr x0)]) (mc := 0) (ms := 0) (pc' := 14) d_M_stepWord_11 rfl (sd_M_spelled 121 101 97 114 0 0) cs_M_spelled w_ml_M_161 rfl rfl (by decide) (Nat.le_of_ble_eq_true rfl) rfl rfl (fun v1 => ?_)
  refine sm_callVi (ci := 11) (x := x0) (av := [.inr (.inl v1)]) (st := []) (mc := 0) (ms := 0) (pc' := 17) d_M_stepWord_14 rfl (sd_M_isWord x0 v1) m_lv rfl cv_M_isWord w_ml_M_165 rfl rfl (by decide) (Nat.le_of_ble_eq_true rfl) rfl rfl (fun v2 => ?_)
  refine sm_if_eq (tgt := 22) (pc' := 20) d_M_stepWord_17 rfl rfl ?_ ?_
  · refine sm_aload_n (i := 0) (j := 0) (pc' := 23) d_M_stepWord_22 rfl rfl rfl (sm_bipush (pc' := 25) d_M_stepWord_23 rfl ib_111 (sm_bipush (pc' := 27) d_M_stepWord_25 rfl ib_105 (sm_bipush (pc' := 29) d_M_stepWord_27 rfl ib_108 (sm_iconst (pc' := 30) d_M_stepWord_29 rfl ic_0 (sm_iconst (pc' := 31) d_M_stepWord_30 rfl ic_0 (sm_iconst (pc' := 32) d_M_stepWord_31 rfl ic_0 ?_))))))
    refine sm_callSj (av := [.inl 111, .inl 105, .inl 108, .inl 0, .inl 0, .inl 0]) (st := [.inr (.inr x0)]) (mc := 0) (ms := 0) (pc' := 35) d_M_stepWord_32 rfl (sd_M_spelled 111 105 108 0 0 0) cs_M_spelled w_ml_M_161 rfl rfl (by decide) (Nat.le_of_ble_eq_true rfl) rfl rfl (fun v3 => ?_)
    refine sm_callVi (ci := 11) (x := x0) (av := [.inr (.inl v3)]) (st := []) (mc := 0) (ms := 0) (pc' := 38) d_M_stepWord_35 rfl (sd_M_isWord x0 v3) m_lv rfl cv_M_isWord w_ml_M_165 rfl rfl (by decide) (Nat.le_of_ble_eq_true rfl) rfl rfl (fun v4 => ?_)
    refine sm_if_eq (tgt := 43) (pc' := 41) d_M_stepWord_38 rfl rfl ?_ ?_
    · refine sm_aload_n (i := 0) (j := 0) (pc' := 44) d_M_stepWord_43 rfl rfl rfl ?_
      refine sm_callVi (ci := 11) (x := x0) (av := []) (st := []) (mc := 0) (ms := 0) (pc' := 47) d_M_stepWord_44 rfl (sd_M_isLoves x0) m_lv rfl cv_M_isLoves w_ml_M_169 rfl rfl (by decide) (Nat.le_of_ble_eq_true rfl) rfl rfl (fun v5 => ?_)
      refine sm_if_eq (tgt := 52) (pc' := 50) d_M_stepWord_47 rfl rfl ?_ ?_
      · refine sm_aload_n (i := 0) (j := 0) (pc' := 53) d_M_stepWord_52 rfl rfl rfl ?_
        refine sm_callVi (ci := 11) (x := x0) (av := []) (st := []) (mc := 0) (ms := 0) (pc' := 56) d_M_stepWord_53 rfl (sd_M_isDamp x0) m_lv rfl cv_M_isDamp w_ml_M_173 rfl rfl (by decide) (Nat.le_of_ble_eq_true rfl) rfl rfl (fun v6 => ?_)
        refine sm_if_eq (tgt := 61) (pc' := 59) d_M_stepWord_56 rfl rfl ?_ ?_
        · refine sm_aload_n (i := 0) (j := 0) (pc' := 62) d_M_stepWord_61 rfl rfl rfl ?_
          refine sm_callVi (ci := 11) (x := x0) (av := []) (st := []) (mc := 0) (ms := 0) (pc' := 65) d_M_stepWord_62 rfl (sd_M_isCoat x0) m_lv rfl cv_M_isCoat w_ml_M_176 rfl rfl (by decide) (Nat.le_of_ble_eq_true rfl) rfl rfl (fun v7 => ?_)
          refine sm_if_eq (tgt := 70) (pc' := 68) d_M_stepWord_65 rfl rfl ?_ ?_
          · refine sm_aload_n (i := 0) (j := 0) (pc' := 71) d_M_stepWord_70 rfl rfl rfl (sm_bipush (pc' := 73) d_M_stepWord_71 rfl ib_109 (sm_bipush (pc' := 75) d_M_stepWord_73 rfl ib_101 (sm_bipush (pc' := 77) d_M_stepWord_75 rfl ib_110 (sm_bipush (pc' := 79) d_M_stepWord_77 rfl ib_100 (sm_iconst (pc' := 80) d_M_stepWord_79 rfl ic_0 (sm_iconst (pc' := 81) d_M_stepWord_80 rfl ic_0 ?_))))))
            refine sm_callSj (av := [.inl 109, .inl 101, .inl 110, .inl 100, .inl 0, .inl 0]) (st := [.inr (.inr x0)]) (mc := 0) (ms := 0) (pc' := 84) d_M_stepWord_81 rfl (sd_M_spelled 109 101 110 100 0 0) cs_M_spelled w_ml_M_161 rfl rfl (by decide) (Nat.le_of_ble_eq_true rfl) rfl rfl (fun v8 => ?_)
            refine sm_callVi (ci := 11) (x := x0) (av := [.inr (.inl v8)]) (st := []) (mc := 0) (ms := 0) (pc' := 87) d_M_stepWord_84 rfl (sd_M_isWord x0 v8) m_lv rfl cv_M_isWord w_ml_M_165 rfl rfl (by decide) (Nat.le_of_ble_eq_true rfl) rfl rfl (fun v9 => ?_)
            refine sm_if_eq (tgt := 92) (pc' := 90) d_M_stepWord_87 rfl rfl ?_ ?_
            · refine sm_aload_n (i := 0) (j := 0) (pc' := 93) d_M_stepWord_92 rfl rfl rfl (sm_bipush (pc' := 95) d_M_stepWord_93 rfl ib_97 (sm_bipush (pc' := 97) d_M_stepWord_95 rfl ib_110 (sm_bipush (pc' := 99) d_M_stepWord_97 rfl ib_121 (sm_iconst (pc' := 100) d_M_stepWord_99 rfl ic_0 (sm_iconst (pc' := 101) d_M_stepWord_100 rfl ic_0 (sm_iconst (pc' := 102) d_M_stepWord_101 rfl ic_0 ?_))))))
              refine sm_callSj (av := [.inl 97, .inl 110, .inl 121, .inl 0, .inl 0, .inl 0]) (st := [.inr (.inr x0)]) (mc := 0) (ms := 0) (pc' := 105) d_M_stepWord_102 rfl (sd_M_spelled 97 110 121 0 0 0) cs_M_spelled w_ml_M_161 rfl rfl (by decide) (Nat.le_of_ble_eq_true rfl) rfl rfl (fun v10 => ?_)
              refine sm_callVi (ci := 11) (x := x0) (av := [.inr (.inl v10)]) (st := []) (mc := 0) (ms := 0) (pc' := 108) d_M_stepWord_105 rfl (sd_M_isWord x0 v10) m_lv rfl cv_M_isWord w_ml_M_165 rfl rfl (by decide) (Nat.le_of_ble_eq_true rfl) rfl rfl (fun v11 => ?_)
              refine sm_if_eq (tgt := 114) (pc' := 111) d_M_stepWord_108 rfl rfl ?_ ?_
              · refine sm_aload_n (i := 0) (j := 0) (pc' := 115) d_M_stepWord_114 rfl rfl rfl (sm_bipush (pc' := 117) d_M_stepWord_115 rfl ib_119 (sm_bipush (pc' := 119) d_M_stepWord_117 rfl ib_104 (sm_bipush (pc' := 121) d_M_stepWord_119 rfl ib_101 (sm_bipush (pc' := 123) d_M_stepWord_121 rfl ib_110 (sm_iconst (pc' := 124) d_M_stepWord_123 rfl ic_0 (sm_iconst (pc' := 125) d_M_stepWord_124 rfl ic_0 ?_))))))
                refine sm_callSj (av := [.inl 119, .inl 104, .inl 101, .inl 110, .inl 0, .inl 0]) (st := [.inr (.inr x0)]) (mc := 0) (ms := 0) (pc' := 128) d_M_stepWord_125 rfl (sd_M_spelled 119 104 101 110 0 0) cs_M_spelled w_ml_M_161 rfl rfl (by decide) (Nat.le_of_ble_eq_true rfl) rfl rfl (fun v12 => ?_)
                refine sm_callVi (ci := 11) (x := x0) (av := [.inr (.inl v12)]) (st := []) (mc := 0) (ms := 0) (pc' := 131) d_M_stepWord_128 rfl (sd_M_isWord x0 v12) m_lv rfl cv_M_isWord w_ml_M_165 rfl rfl (by decide) (Nat.le_of_ble_eq_true rfl) rfl rfl (fun v13 => ?_)
                refine sm_if_eq (tgt := 137) (pc' := 134) d_M_stepWord_131 rfl rfl ?_ ?_
                · refine sm_aload_n (i := 0) (j := 0) (pc' := 138) d_M_stepWord_137 rfl rfl rfl (sm_bipush (pc' := 140) d_M_stepWord_138 rfl ib_108 (sm_bipush (pc' := 142) d_M_stepWord_140 rfl ib_111 (sm_bipush (pc' := 144) d_M_stepWord_142 rfl ib_111 (sm_bipush (pc' := 146) d_M_stepWord_144 rfl ib_112 (sm_iconst (pc' := 147) d_M_stepWord_146 rfl ic_0 (sm_iconst (pc' := 148) d_M_stepWord_147 rfl ic_0 ?_))))))
                  refine sm_callSj (av := [.inl 108, .inl 111, .inl 111, .inl 112, .inl 0, .inl 0]) (st := [.inr (.inr x0)]) (mc := 0) (ms := 0) (pc' := 151) d_M_stepWord_148 rfl (sd_M_spelled 108 111 111 112 0 0) cs_M_spelled w_ml_M_161 rfl rfl (by decide) (Nat.le_of_ble_eq_true rfl) rfl rfl (fun v14 => ?_)
                  refine sm_callVi (ci := 11) (x := x0) (av := [.inr (.inl v14)]) (st := []) (mc := 0) (ms := 0) (pc' := 154) d_M_stepWord_151 rfl (sd_M_isWord x0 v14) m_lv rfl cv_M_isWord w_ml_M_165 rfl rfl (by decide) (Nat.le_of_ble_eq_true rfl) rfl rfl (fun v15 => ?_)
                  refine sm_if_eq (tgt := 160) (pc' := 157) d_M_stepWord_154 rfl rfl ?_ ?_
                  · refine sm_aload_n (i := 0) (j := 0) (pc' := 161) d_M_stepWord_160 rfl rfl rfl (sm_bipush (pc' := 163) d_M_stepWord_161 rfl ib_115 (sm_bipush (pc' := 165) d_M_stepWord_163 rfl ib_116 (sm_bipush (pc' := 167) d_M_stepWord_165 rfl ib_111 (sm_bipush (pc' := 169) d_M_stepWord_167 rfl ib_112 (sm_iconst (pc' := 170) d_M_stepWord_169 rfl ic_0 (sm_iconst (pc' := 171) d_M_stepWord_170 rfl ic_0 ?_))))))
                    refine sm_callSj (av := [.inl 115, .inl 116, .inl 111, .inl 112, .inl 0, .inl 0]) (st := [.inr (.inr x0)]) (mc := 0) (ms := 0) (pc' := 174) d_M_stepWord_171 rfl (sd_M_spelled 115 116 111 112 0 0) cs_M_spelled w_ml_M_161 rfl rfl (by decide) (Nat.le_of_ble_eq_true rfl) rfl rfl (fun v16 => ?_)
                    refine sm_callVi (ci := 11) (x := x0) (av := [.inr (.inl v16)]) (st := []) (mc := 0) (ms := 0) (pc' := 177) d_M_stepWord_174 rfl (sd_M_isWord x0 v16) m_lv rfl cv_M_isWord w_ml_M_165 rfl rfl (by decide) (Nat.le_of_ble_eq_true rfl) rfl rfl (fun v17 => ?_)
                    refine sm_if_eq (tgt := 185) (pc' := 180) d_M_stepWord_177 rfl rfl ?_ ?_
                    · refine sm_iconst (pc' := 186) d_M_stepWord_185 rfl ic_m1 ?_
                      exact sm_ireturn d_M_stepWord_186 rfl rfl
                    · refine sm_bipush (pc' := 182) d_M_stepWord_180 rfl ib_9 (sm_goto (tgt := 186) d_M_stepWord_182 rfl ?_)
                      exact sm_ireturn d_M_stepWord_186 rfl rfl
                  · refine sm_bipush (pc' := 159) d_M_stepWord_157 rfl ib_8 ?_
                    exact sm_ireturn d_M_stepWord_159 rfl rfl
                · refine sm_bipush (pc' := 136) d_M_stepWord_134 rfl ib_7 ?_
                  exact sm_ireturn d_M_stepWord_136 rfl rfl
              · refine sm_bipush (pc' := 113) d_M_stepWord_111 rfl ib_6 ?_
                exact sm_ireturn d_M_stepWord_113 rfl rfl
            · refine sm_iconst (pc' := 91) d_M_stepWord_90 rfl ic_5 ?_
              exact sm_ireturn d_M_stepWord_91 rfl rfl
          · refine sm_iconst (pc' := 69) d_M_stepWord_68 rfl ic_4 ?_
            exact sm_ireturn d_M_stepWord_69 rfl rfl
        · refine sm_iconst (pc' := 60) d_M_stepWord_59 rfl ic_3 ?_
          exact sm_ireturn d_M_stepWord_60 rfl rfl
      · refine sm_iconst (pc' := 51) d_M_stepWord_50 rfl ic_2 ?_
        exact sm_ireturn d_M_stepWord_51 rfl rfl
    · refine sm_iconst (pc' := 42) d_M_stepWord_41 rfl ic_1 ?_
      exact sm_ireturn d_M_stepWord_42 rfl rfl
  · refine sm_iconst (pc' := 21) d_M_stepWord_20 rfl ic_0 ?_
    exact sm_ireturn d_M_stepWord_21 rfl rfl
theorem d_M_testWord_0 : m_D k_M_testWord 0 (.aload_n 0) 1 := (by decide +kernel : decode prog_14_method_41_code 0 = .ok (.aload_n 0, 1))
theorem d_M_testWord_1 : m_D k_M_testWord 1 (.bipush 116) 2 := (by decide +kernel : decode prog_14_method_41_code 1 = .ok (.bipush 116, 2))
theorem d_M_testWord_3 : m_D k_M_testWord 3 (.bipush 104) 2 := (by decide +kernel : decode prog_14_method_41_code 3 = .ok (.bipush 104, 2))
theorem d_M_testWord_5 : m_D k_M_testWord 5 (.bipush 114) 2 := (by decide +kernel : decode prog_14_method_41_code 5 = .ok (.bipush 114, 2))
theorem d_M_testWord_7 : m_D k_M_testWord 7 (.bipush 111) 2 := (by decide +kernel : decode prog_14_method_41_code 7 = .ok (.bipush 111, 2))
theorem d_M_testWord_9 : m_D k_M_testWord 9 (.bipush 117) 2 := (by decide +kernel : decode prog_14_method_41_code 9 = .ok (.bipush 117, 2))
theorem d_M_testWord_11 : m_D k_M_testWord 11 (.bipush 103) 2 := (by decide +kernel : decode prog_14_method_41_code 11 = .ok (.bipush 103, 2))
theorem d_M_testWord_13 : m_D k_M_testWord 13 (.invokestatic 161) 3 := (by decide +kernel : decode prog_14_method_41_code 13 = .ok (.invokestatic 161, 3))
theorem d_M_testWord_16 : m_D k_M_testWord 16 (.ldc2_w 145) 3 := (by decide +kernel : decode prog_14_method_41_code 16 = .ok (.ldc2_w 145, 3))
theorem d_M_testWord_19 : m_D k_M_testWord 19 (.lmul) 1 := (by decide +kernel : decode prog_14_method_41_code 19 = .ok (.lmul, 1))
theorem d_M_testWord_20 : m_D k_M_testWord 20 (.ldc2_w 179) 3 := (by decide +kernel : decode prog_14_method_41_code 20 = .ok (.ldc2_w 179, 3))
theorem d_M_testWord_23 : m_D k_M_testWord 23 (.ladd) 1 := (by decide +kernel : decode prog_14_method_41_code 23 = .ok (.ladd, 1))
theorem d_M_testWord_24 : m_D k_M_testWord 24 (.invokevirtual 165) 3 := (by decide +kernel : decode prog_14_method_41_code 24 = .ok (.invokevirtual 165, 3))
theorem d_M_testWord_27 : m_D k_M_testWord 27 (.ifCond .eq 5) 3 := (by decide +kernel : decode prog_14_method_41_code 27 = .ok (.ifCond .eq 5, 3))
theorem d_M_testWord_30 : m_D k_M_testWord 30 (.iconst 0) 1 := (by decide +kernel : decode prog_14_method_41_code 30 = .ok (.iconst 0, 1))
theorem d_M_testWord_31 : m_D k_M_testWord 31 (.ireturn) 1 := (by decide +kernel : decode prog_14_method_41_code 31 = .ok (.ireturn, 1))
theorem d_M_testWord_32 : m_D k_M_testWord 32 (.aload_n 0) 1 := (by decide +kernel : decode prog_14_method_41_code 32 = .ok (.aload_n 0, 1))
theorem d_M_testWord_33 : m_D k_M_testWord 33 (.bipush 114) 2 := (by decide +kernel : decode prog_14_method_41_code 33 = .ok (.bipush 114, 2))
theorem d_M_testWord_35 : m_D k_M_testWord 35 (.bipush 117) 2 := (by decide +kernel : decode prog_14_method_41_code 35 = .ok (.bipush 117, 2))
theorem d_M_testWord_37 : m_D k_M_testWord 37 (.bipush 115) 2 := (by decide +kernel : decode prog_14_method_41_code 37 = .ok (.bipush 115, 2))
theorem d_M_testWord_39 : m_D k_M_testWord 39 (.bipush 116) 2 := (by decide +kernel : decode prog_14_method_41_code 39 = .ok (.bipush 116, 2))
theorem d_M_testWord_41 : m_D k_M_testWord 41 (.iconst 0) 1 := (by decide +kernel : decode prog_14_method_41_code 41 = .ok (.iconst 0, 1))
theorem d_M_testWord_42 : m_D k_M_testWord 42 (.iconst 0) 1 := (by decide +kernel : decode prog_14_method_41_code 42 = .ok (.iconst 0, 1))
theorem d_M_testWord_43 : m_D k_M_testWord 43 (.invokestatic 161) 3 := (by decide +kernel : decode prog_14_method_41_code 43 = .ok (.invokestatic 161, 3))
theorem d_M_testWord_46 : m_D k_M_testWord 46 (.invokevirtual 165) 3 := (by decide +kernel : decode prog_14_method_41_code 46 = .ok (.invokevirtual 165, 3))
theorem d_M_testWord_49 : m_D k_M_testWord 49 (.ifCond .eq 5) 3 := (by decide +kernel : decode prog_14_method_41_code 49 = .ok (.ifCond .eq 5, 3))
theorem d_M_testWord_52 : m_D k_M_testWord 52 (.iconst 1) 1 := (by decide +kernel : decode prog_14_method_41_code 52 = .ok (.iconst 1, 1))
theorem d_M_testWord_53 : m_D k_M_testWord 53 (.ireturn) 1 := (by decide +kernel : decode prog_14_method_41_code 53 = .ok (.ireturn, 1))
theorem d_M_testWord_54 : m_D k_M_testWord 54 (.aload_n 0) 1 := (by decide +kernel : decode prog_14_method_41_code 54 = .ok (.aload_n 0, 1))
theorem d_M_testWord_55 : m_D k_M_testWord 55 (.invokevirtual 181) 3 := (by decide +kernel : decode prog_14_method_41_code 55 = .ok (.invokevirtual 181, 3))
theorem d_M_testWord_58 : m_D k_M_testWord 58 (.ifCond .eq 7) 3 := (by decide +kernel : decode prog_14_method_41_code 58 = .ok (.ifCond .eq 7, 3))
theorem d_M_testWord_61 : m_D k_M_testWord 61 (.iconst 2) 1 := (by decide +kernel : decode prog_14_method_41_code 61 = .ok (.iconst 2, 1))
theorem d_M_testWord_62 : m_D k_M_testWord 62 (.goto 4) 3 := (by decide +kernel : decode prog_14_method_41_code 62 = .ok (.goto 4, 3))
theorem d_M_testWord_65 : m_D k_M_testWord 65 (.iconst (-1)) 1 := (by decide +kernel : decode prog_14_method_41_code 65 = .ok (.iconst (-1), 1))
theorem d_M_testWord_66 : m_D k_M_testWord 66 (.ireturn) 1 := (by decide +kernel : decode prog_14_method_41_code 66 = .ok (.ireturn, 1))
def fn_M_testWord (x0 : Option mA) : mP Int32 :=
  m_th 11 x0 <|
  m_bd (fn_M_spelled 116 104 114 111 117 103) fun v1 =>
  m_bd (fn_M_isWord x0 ((v1 * 32) + 8)) fun v2 =>
  if v2 = 0 then
    m_bd (fn_M_spelled 114 117 115 116 0 0) fun v3 =>
    m_bd (fn_M_isWord x0 v3) fun v4 =>
    if v4 = 0 then
      m_bd (fn_M_isShows x0) fun v5 =>
      if v5 = 0 then
        m_rt (-1)
      else
        m_rt 2
    else
      m_rt 1
  else
    m_rt 0
set_option maxHeartbeats 4000000 in
set_option maxRecDepth 100000 in
theorem sd_M_testWord (x0 : Option mA) : m_Sm k_M_testWord 3 0 0 [.inr (.inr x0)] (fn_M_testWord x0) (fun b => some (.inl b)) := by
  refine ⟨Nat.le_of_ble_eq_true rfl, ?_⟩
  refine sm_th ?_
  refine sm_aload_n (i := 0) (j := 0) (pc' := 1) d_M_testWord_0 rfl rfl rfl (sm_bipush (pc' := 3) d_M_testWord_1 rfl ib_116 (sm_bipush (pc' := 5) d_M_testWord_3 rfl ib_104 (sm_bipush (pc' := 7) d_M_testWord_5 rfl ib_114 (sm_bipush (pc' := 9) d_M_testWord_7 rfl ib_111 (sm_bipush (pc' := 11) d_M_testWord_9 rfl ib_117 (sm_bipush (pc' := 13) d_M_testWord_11 rfl ib_103 ?_))))))
  refine sm_callSj (av := [.inl 116, .inl 104, .inl 114, .inl 111, .inl 117, .inl 103]) (st := [.inr (.inr x0)]) (mc := 0) (ms := 0) (pc' := 16) d_M_testWord_13 rfl (sd_M_spelled 116 104 114 111 117 103) cs_M_spelled w_ml_M_161 rfl rfl (by decide) (Nat.le_of_ble_eq_true rfl) rfl rfl (fun v1 => ?_)
  refine sm_ldc2 (v := 32) (pc' := 19) d_M_testWord_16 rfl w_cl_M_145 (sm_lmul (pc' := 20) d_M_testWord_19 rfl (sm_ldc2 (v := 8) (pc' := 23) d_M_testWord_20 rfl w_cl_M_179 (sm_ladd (pc' := 24) d_M_testWord_23 rfl ?_)))
  refine sm_callVi (ci := 11) (x := x0) (av := [.inr (.inl ((v1 * 32) + 8))]) (st := []) (mc := 0) (ms := 0) (pc' := 27) d_M_testWord_24 rfl (sd_M_isWord x0 ((v1 * 32) + 8)) m_lv rfl cv_M_isWord w_ml_M_165 rfl rfl (by decide) (Nat.le_of_ble_eq_true rfl) rfl rfl (fun v2 => ?_)
  refine sm_if_eq (tgt := 32) (pc' := 30) d_M_testWord_27 rfl rfl ?_ ?_
  · refine sm_aload_n (i := 0) (j := 0) (pc' := 33) d_M_testWord_32 rfl rfl rfl (sm_bipush (pc' := 35) d_M_testWord_33 rfl ib_114 (sm_bipush (pc' := 37) d_M_testWord_35 rfl ib_117 (sm_bipush (pc' := 39) d_M_testWord_37 rfl ib_115 (sm_bipush (pc' := 41) d_M_testWord_39 rfl ib_116 (sm_iconst (pc' := 42) d_M_testWord_41 rfl ic_0 (sm_iconst (pc' := 43) d_M_testWord_42 rfl ic_0 ?_))))))
    refine sm_callSj (av := [.inl 114, .inl 117, .inl 115, .inl 116, .inl 0, .inl 0]) (st := [.inr (.inr x0)]) (mc := 0) (ms := 0) (pc' := 46) d_M_testWord_43 rfl (sd_M_spelled 114 117 115 116 0 0) cs_M_spelled w_ml_M_161 rfl rfl (by decide) (Nat.le_of_ble_eq_true rfl) rfl rfl (fun v3 => ?_)
    refine sm_callVi (ci := 11) (x := x0) (av := [.inr (.inl v3)]) (st := []) (mc := 0) (ms := 0) (pc' := 49) d_M_testWord_46 rfl (sd_M_isWord x0 v3) m_lv rfl cv_M_isWord w_ml_M_165 rfl rfl (by decide) (Nat.le_of_ble_eq_true rfl) rfl rfl (fun v4 => ?_)
    refine sm_if_eq (tgt := 54) (pc' := 52) d_M_testWord_49 rfl rfl ?_ ?_
    · refine sm_aload_n (i := 0) (j := 0) (pc' := 55) d_M_testWord_54 rfl rfl rfl ?_
      refine sm_callVi (ci := 11) (x := x0) (av := []) (st := []) (mc := 0) (ms := 0) (pc' := 58) d_M_testWord_55 rfl (sd_M_isShows x0) m_lv rfl cv_M_isShows w_ml_M_181 rfl rfl (by decide) (Nat.le_of_ble_eq_true rfl) rfl rfl (fun v5 => ?_)
      refine sm_if_eq (tgt := 65) (pc' := 61) d_M_testWord_58 rfl rfl ?_ ?_
      · refine sm_iconst (pc' := 66) d_M_testWord_65 rfl ic_m1 ?_
        exact sm_ireturn d_M_testWord_66 rfl rfl
      · refine sm_iconst (pc' := 62) d_M_testWord_61 rfl ic_2 (sm_goto (tgt := 66) d_M_testWord_62 rfl ?_)
        exact sm_ireturn d_M_testWord_66 rfl rfl
    · refine sm_iconst (pc' := 53) d_M_testWord_52 rfl ic_1 ?_
      exact sm_ireturn d_M_testWord_53 rfl rfl
  · refine sm_iconst (pc' := 31) d_M_testWord_30 rfl ic_0 ?_
    exact sm_ireturn d_M_testWord_31 rfl rfl
theorem d_M_isKept_0 : m_D k_M_isKept 0 (.aload_n 0) 1 := (by decide +kernel : decode prog_14_method_43_code 0 = .ok (.aload_n 0, 1))
theorem d_M_isKept_1 : m_D k_M_isKept 1 (.invokevirtual 184) 3 := (by decide +kernel : decode prog_14_method_43_code 1 = .ok (.invokevirtual 184, 3))
theorem d_M_isKept_4 : m_D k_M_isKept 4 (.ifCond .ne 45) 3 := (by decide +kernel : decode prog_14_method_43_code 4 = .ok (.ifCond .ne 45, 3))
theorem d_M_isKept_7 : m_D k_M_isKept 7 (.aload_n 0) 1 := (by decide +kernel : decode prog_14_method_43_code 7 = .ok (.aload_n 0, 1))
theorem d_M_isKept_8 : m_D k_M_isKept 8 (.invokevirtual 187) 3 := (by decide +kernel : decode prog_14_method_43_code 8 = .ok (.invokevirtual 187, 3))
theorem d_M_isKept_11 : m_D k_M_isKept 11 (.ifCond .ne 38) 3 := (by decide +kernel : decode prog_14_method_43_code 11 = .ok (.ifCond .ne 38, 3))
theorem d_M_isKept_14 : m_D k_M_isKept 14 (.aload_n 0) 1 := (by decide +kernel : decode prog_14_method_43_code 14 = .ok (.aload_n 0, 1))
theorem d_M_isKept_15 : m_D k_M_isKept 15 (.invokevirtual 190) 3 := (by decide +kernel : decode prog_14_method_43_code 15 = .ok (.invokevirtual 190, 3))
theorem d_M_isKept_18 : m_D k_M_isKept 18 (.ifCond .ne 31) 3 := (by decide +kernel : decode prog_14_method_43_code 18 = .ok (.ifCond .ne 31, 3))
theorem d_M_isKept_21 : m_D k_M_isKept 21 (.aload_n 0) 1 := (by decide +kernel : decode prog_14_method_43_code 21 = .ok (.aload_n 0, 1))
theorem d_M_isKept_22 : m_D k_M_isKept 22 (.invokevirtual 193) 3 := (by decide +kernel : decode prog_14_method_43_code 22 = .ok (.invokevirtual 193, 3))
theorem d_M_isKept_25 : m_D k_M_isKept 25 (.ifCond .ne 24) 3 := (by decide +kernel : decode prog_14_method_43_code 25 = .ok (.ifCond .ne 24, 3))
theorem d_M_isKept_28 : m_D k_M_isKept 28 (.aload_n 0) 1 := (by decide +kernel : decode prog_14_method_43_code 28 = .ok (.aload_n 0, 1))
theorem d_M_isKept_29 : m_D k_M_isKept 29 (.invokevirtual 196) 3 := (by decide +kernel : decode prog_14_method_43_code 29 = .ok (.invokevirtual 196, 3))
theorem d_M_isKept_32 : m_D k_M_isKept 32 (.ifCond .ne 17) 3 := (by decide +kernel : decode prog_14_method_43_code 32 = .ok (.ifCond .ne 17, 3))
theorem d_M_isKept_35 : m_D k_M_isKept 35 (.aload_n 0) 1 := (by decide +kernel : decode prog_14_method_43_code 35 = .ok (.aload_n 0, 1))
theorem d_M_isKept_36 : m_D k_M_isKept 36 (.invokevirtual 199) 3 := (by decide +kernel : decode prog_14_method_43_code 36 = .ok (.invokevirtual 199, 3))
theorem d_M_isKept_39 : m_D k_M_isKept 39 (.ifCond .ne 10) 3 := (by decide +kernel : decode prog_14_method_43_code 39 = .ok (.ifCond .ne 10, 3))
theorem d_M_isKept_42 : m_D k_M_isKept 42 (.aload_n 0) 1 := (by decide +kernel : decode prog_14_method_43_code 42 = .ok (.aload_n 0, 1))
theorem d_M_isKept_43 : m_D k_M_isKept 43 (.invokevirtual 202) 3 := (by decide +kernel : decode prog_14_method_43_code 43 = .ok (.invokevirtual 202, 3))
theorem d_M_isKept_46 : m_D k_M_isKept 46 (.ifCond .eq 5) 3 := (by decide +kernel : decode prog_14_method_43_code 46 = .ok (.ifCond .eq 5, 3))
theorem d_M_isKept_49 : m_D k_M_isKept 49 (.iconst 1) 1 := (by decide +kernel : decode prog_14_method_43_code 49 = .ok (.iconst 1, 1))
theorem d_M_isKept_50 : m_D k_M_isKept 50 (.ireturn) 1 := (by decide +kernel : decode prog_14_method_43_code 50 = .ok (.ireturn, 1))
theorem d_M_isKept_51 : m_D k_M_isKept 51 (.aload_n 0) 1 := (by decide +kernel : decode prog_14_method_43_code 51 = .ok (.aload_n 0, 1))
theorem d_M_isKept_52 : m_D k_M_isKept 52 (.invokevirtual 205) 3 := (by decide +kernel : decode prog_14_method_43_code 52 = .ok (.invokevirtual 205, 3))
theorem d_M_isKept_55 : m_D k_M_isKept 55 (.ifCond .ge 17) 3 := (by decide +kernel : decode prog_14_method_43_code 55 = .ok (.ifCond .ge 17, 3))
theorem d_M_isKept_58 : m_D k_M_isKept 58 (.aload_n 0) 1 := (by decide +kernel : decode prog_14_method_43_code 58 = .ok (.aload_n 0, 1))
theorem d_M_isKept_59 : m_D k_M_isKept 59 (.invokevirtual 209) 3 := (by decide +kernel : decode prog_14_method_43_code 59 = .ok (.invokevirtual 209, 3))
theorem d_M_isKept_62 : m_D k_M_isKept 62 (.ifCond .ge 10) 3 := (by decide +kernel : decode prog_14_method_43_code 62 = .ok (.ifCond .ge 10, 3))
theorem d_M_isKept_65 : m_D k_M_isKept 65 (.aload_n 0) 1 := (by decide +kernel : decode prog_14_method_43_code 65 = .ok (.aload_n 0, 1))
theorem d_M_isKept_66 : m_D k_M_isKept 66 (.invokevirtual 212) 3 := (by decide +kernel : decode prog_14_method_43_code 66 = .ok (.invokevirtual 212, 3))
theorem d_M_isKept_69 : m_D k_M_isKept 69 (.ifCond .eq 7) 3 := (by decide +kernel : decode prog_14_method_43_code 69 = .ok (.ifCond .eq 7, 3))
theorem d_M_isKept_72 : m_D k_M_isKept 72 (.iconst 1) 1 := (by decide +kernel : decode prog_14_method_43_code 72 = .ok (.iconst 1, 1))
theorem d_M_isKept_73 : m_D k_M_isKept 73 (.goto 4) 3 := (by decide +kernel : decode prog_14_method_43_code 73 = .ok (.goto 4, 3))
theorem d_M_isKept_76 : m_D k_M_isKept 76 (.iconst 0) 1 := (by decide +kernel : decode prog_14_method_43_code 76 = .ok (.iconst 0, 1))
theorem d_M_isKept_77 : m_D k_M_isKept 77 (.ireturn) 1 := (by decide +kernel : decode prog_14_method_43_code 77 = .ok (.ireturn, 1))
def fn_M_isKept (x0 : Option mA) : mP Int32 :=
  m_th 11 x0 <|
  m_bd (fn_M_isLife x0) fun v1 =>
  if v1 = 0 then
    m_bd (fn_M_isBreath x0) fun v2 =>
    if v2 = 0 then
      m_bd (fn_M_isPerson x0) fun v3 =>
      if v3 = 0 then
        m_bd (fn_M_isAge x0) fun v4 =>
        if v4 = 0 then
          m_bd (fn_M_isOf x0) fun v5 =>
          if v5 = 0 then
            m_bd (fn_M_isThing x0) fun v6 =>
            if v6 = 0 then
              m_bd (fn_M_isThick x0) fun v7 =>
              if v7 = 0 then
                m_bd (fn_M_stepWord x0) fun v8 =>
                if 0 ≤ v8 then
                  m_rt 1
                else
                  m_bd (fn_M_testWord x0) fun v9 =>
                  if 0 ≤ v9 then
                    m_rt 1
                  else
                    m_bd (fn_M_isEnd x0) fun v10 =>
                    if v10 = 0 then
                      m_rt 0
                    else
                      m_rt 1
              else
                m_rt 1
            else
              m_rt 1
          else
            m_rt 1
        else
          m_rt 1
      else
        m_rt 1
    else
      m_rt 1
  else
    m_rt 1
set_option maxHeartbeats 4000000 in
set_option maxRecDepth 100000 in
theorem sd_M_isKept (x0 : Option mA) : m_Sm k_M_isKept 4 0 0 [.inr (.inr x0)] (fn_M_isKept x0) (fun b => some (.inl b)) := by
  refine ⟨Nat.le_of_ble_eq_true rfl, ?_⟩
  refine sm_th ?_
  refine sm_aload_n (i := 0) (j := 0) (pc' := 1) d_M_isKept_0 rfl rfl rfl ?_
  refine sm_callVi (ci := 11) (x := x0) (av := []) (st := []) (mc := 0) (ms := 0) (pc' := 4) d_M_isKept_1 rfl (sd_M_isLife x0) m_lv rfl cv_M_isLife w_ml_M_184 rfl rfl (by decide) (Nat.le_of_ble_eq_true rfl) rfl rfl (fun v1 => ?_)
  refine sm_if_ne (tgt := 49) (pc' := 7) d_M_isKept_4 rfl rfl ?_ ?_
  · refine sm_iconst (pc' := 50) d_M_isKept_49 rfl ic_1 ?_
    exact sm_zreturn d_M_isKept_50 rfl (by decide) rfl
  · refine sm_aload_n (i := 0) (j := 0) (pc' := 8) d_M_isKept_7 rfl rfl rfl ?_
    refine sm_callVi (ci := 11) (x := x0) (av := []) (st := []) (mc := 0) (ms := 0) (pc' := 11) d_M_isKept_8 rfl (sd_M_isBreath x0) m_lv rfl cv_M_isBreath w_ml_M_187 rfl rfl (by decide) (Nat.le_of_ble_eq_true rfl) rfl rfl (fun v2 => ?_)
    refine sm_if_ne (tgt := 49) (pc' := 14) d_M_isKept_11 rfl rfl ?_ ?_
    · refine sm_iconst (pc' := 50) d_M_isKept_49 rfl ic_1 ?_
      exact sm_zreturn d_M_isKept_50 rfl (by decide) rfl
    · refine sm_aload_n (i := 0) (j := 0) (pc' := 15) d_M_isKept_14 rfl rfl rfl ?_
      refine sm_callVi (ci := 11) (x := x0) (av := []) (st := []) (mc := 0) (ms := 0) (pc' := 18) d_M_isKept_15 rfl (sd_M_isPerson x0) m_lv rfl cv_M_isPerson w_ml_M_190 rfl rfl (by decide) (Nat.le_of_ble_eq_true rfl) rfl rfl (fun v3 => ?_)
      refine sm_if_ne (tgt := 49) (pc' := 21) d_M_isKept_18 rfl rfl ?_ ?_
      · refine sm_iconst (pc' := 50) d_M_isKept_49 rfl ic_1 ?_
        exact sm_zreturn d_M_isKept_50 rfl (by decide) rfl
      · refine sm_aload_n (i := 0) (j := 0) (pc' := 22) d_M_isKept_21 rfl rfl rfl ?_
        refine sm_callVi (ci := 11) (x := x0) (av := []) (st := []) (mc := 0) (ms := 0) (pc' := 25) d_M_isKept_22 rfl (sd_M_isAge x0) m_lv rfl cv_M_isAge w_ml_M_193 rfl rfl (by decide) (Nat.le_of_ble_eq_true rfl) rfl rfl (fun v4 => ?_)
        refine sm_if_ne (tgt := 49) (pc' := 28) d_M_isKept_25 rfl rfl ?_ ?_
        · refine sm_iconst (pc' := 50) d_M_isKept_49 rfl ic_1 ?_
          exact sm_zreturn d_M_isKept_50 rfl (by decide) rfl
        · refine sm_aload_n (i := 0) (j := 0) (pc' := 29) d_M_isKept_28 rfl rfl rfl ?_
          refine sm_callVi (ci := 11) (x := x0) (av := []) (st := []) (mc := 0) (ms := 0) (pc' := 32) d_M_isKept_29 rfl (sd_M_isOf x0) m_lv rfl cv_M_isOf w_ml_M_196 rfl rfl (by decide) (Nat.le_of_ble_eq_true rfl) rfl rfl (fun v5 => ?_)
          refine sm_if_ne (tgt := 49) (pc' := 35) d_M_isKept_32 rfl rfl ?_ ?_
          · refine sm_iconst (pc' := 50) d_M_isKept_49 rfl ic_1 ?_
            exact sm_zreturn d_M_isKept_50 rfl (by decide) rfl
          · refine sm_aload_n (i := 0) (j := 0) (pc' := 36) d_M_isKept_35 rfl rfl rfl ?_
            refine sm_callVi (ci := 11) (x := x0) (av := []) (st := []) (mc := 0) (ms := 0) (pc' := 39) d_M_isKept_36 rfl (sd_M_isThing x0) m_lv rfl cv_M_isThing w_ml_M_199 rfl rfl (by decide) (Nat.le_of_ble_eq_true rfl) rfl rfl (fun v6 => ?_)
            refine sm_if_ne (tgt := 49) (pc' := 42) d_M_isKept_39 rfl rfl ?_ ?_
            · refine sm_iconst (pc' := 50) d_M_isKept_49 rfl ic_1 ?_
              exact sm_zreturn d_M_isKept_50 rfl (by decide) rfl
            · refine sm_aload_n (i := 0) (j := 0) (pc' := 43) d_M_isKept_42 rfl rfl rfl ?_
              refine sm_callVi (ci := 11) (x := x0) (av := []) (st := []) (mc := 0) (ms := 0) (pc' := 46) d_M_isKept_43 rfl (sd_M_isThick x0) m_lv rfl cv_M_isThick w_ml_M_202 rfl rfl (by decide) (Nat.le_of_ble_eq_true rfl) rfl rfl (fun v7 => ?_)
              refine sm_if_eq (tgt := 51) (pc' := 49) d_M_isKept_46 rfl rfl ?_ ?_
              · refine sm_aload_n (i := 0) (j := 0) (pc' := 52) d_M_isKept_51 rfl rfl rfl ?_
                refine sm_callVi (ci := 11) (x := x0) (av := []) (st := []) (mc := 0) (ms := 0) (pc' := 55) d_M_isKept_52 rfl (sd_M_stepWord x0) m_lv rfl cv_M_stepWord w_ml_M_205 rfl rfl (by decide) (Nat.le_of_ble_eq_true rfl) rfl rfl (fun v8 => ?_)
                refine sm_if_ge (tgt := 72) (pc' := 58) d_M_isKept_55 rfl rfl ?_ ?_
                · refine sm_iconst (pc' := 73) d_M_isKept_72 rfl ic_1 (sm_goto (tgt := 77) d_M_isKept_73 rfl ?_)
                  exact sm_zreturn d_M_isKept_77 rfl (by decide) rfl
                · refine sm_aload_n (i := 0) (j := 0) (pc' := 59) d_M_isKept_58 rfl rfl rfl ?_
                  refine sm_callVi (ci := 11) (x := x0) (av := []) (st := []) (mc := 0) (ms := 0) (pc' := 62) d_M_isKept_59 rfl (sd_M_testWord x0) m_lv rfl cv_M_testWord w_ml_M_209 rfl rfl (by decide) (Nat.le_of_ble_eq_true rfl) rfl rfl (fun v9 => ?_)
                  refine sm_if_ge (tgt := 72) (pc' := 65) d_M_isKept_62 rfl rfl ?_ ?_
                  · refine sm_iconst (pc' := 73) d_M_isKept_72 rfl ic_1 (sm_goto (tgt := 77) d_M_isKept_73 rfl ?_)
                    exact sm_zreturn d_M_isKept_77 rfl (by decide) rfl
                  · refine sm_aload_n (i := 0) (j := 0) (pc' := 66) d_M_isKept_65 rfl rfl rfl ?_
                    refine sm_callVi (ci := 11) (x := x0) (av := []) (st := []) (mc := 0) (ms := 0) (pc' := 69) d_M_isKept_66 rfl (sd_M_isEnd x0) m_lv rfl cv_M_isEnd w_ml_M_212 rfl rfl (by decide) (Nat.le_of_ble_eq_true rfl) rfl rfl (fun v10 => ?_)
                    refine sm_if_eq (tgt := 76) (pc' := 72) d_M_isKept_69 rfl rfl ?_ ?_
                    · refine sm_iconst (pc' := 77) d_M_isKept_76 rfl ic_0 ?_
                      exact sm_zreturn d_M_isKept_77 rfl (by decide) rfl
                    · refine sm_iconst (pc' := 73) d_M_isKept_72 rfl ic_1 (sm_goto (tgt := 77) d_M_isKept_73 rfl ?_)
                      exact sm_zreturn d_M_isKept_77 rfl (by decide) rfl
              · refine sm_iconst (pc' := 50) d_M_isKept_49 rfl ic_1 ?_
                exact sm_zreturn d_M_isKept_50 rfl (by decide) rfl
theorem d_M_isName_0 : m_D k_M_isName 0 (.aload_n 0) 1 := (by decide +kernel : decode prog_14_method_44_code 0 = .ok (.aload_n 0, 1))
theorem d_M_isName_1 : m_D k_M_isName 1 (.getfield 136) 3 := (by decide +kernel : decode prog_14_method_44_code 1 = .ok (.getfield 136, 3))
theorem d_M_isName_4 : m_D k_M_isName 4 (.iconst 1) 1 := (by decide +kernel : decode prog_14_method_44_code 4 = .ok (.iconst 1, 1))
theorem d_M_isName_5 : m_D k_M_isName 5 (.if_icmp .ne 23) 3 := (by decide +kernel : decode prog_14_method_44_code 5 = .ok (.if_icmp .ne 23, 3))
theorem d_M_isName_8 : m_D k_M_isName 8 (.aload_n 0) 1 := (by decide +kernel : decode prog_14_method_44_code 8 = .ok (.aload_n 0, 1))
theorem d_M_isName_9 : m_D k_M_isName 9 (.getfield 149) 3 := (by decide +kernel : decode prog_14_method_44_code 9 = .ok (.getfield 149, 3))
theorem d_M_isName_12 : m_D k_M_isName 12 (.bipush 8) 2 := (by decide +kernel : decode prog_14_method_44_code 12 = .ok (.bipush 8, 2))
theorem d_M_isName_14 : m_D k_M_isName 14 (.if_icmp .gt 14) 3 := (by decide +kernel : decode prog_14_method_44_code 14 = .ok (.if_icmp .gt 14, 3))
theorem d_M_isName_17 : m_D k_M_isName 17 (.aload_n 0) 1 := (by decide +kernel : decode prog_14_method_44_code 17 = .ok (.aload_n 0, 1))
theorem d_M_isName_18 : m_D k_M_isName 18 (.invokevirtual 215) 3 := (by decide +kernel : decode prog_14_method_44_code 18 = .ok (.invokevirtual 215, 3))
theorem d_M_isName_21 : m_D k_M_isName 21 (.ifCond .ne 7) 3 := (by decide +kernel : decode prog_14_method_44_code 21 = .ok (.ifCond .ne 7, 3))
theorem d_M_isName_24 : m_D k_M_isName 24 (.iconst 1) 1 := (by decide +kernel : decode prog_14_method_44_code 24 = .ok (.iconst 1, 1))
theorem d_M_isName_25 : m_D k_M_isName 25 (.goto 4) 3 := (by decide +kernel : decode prog_14_method_44_code 25 = .ok (.goto 4, 3))
theorem d_M_isName_28 : m_D k_M_isName 28 (.iconst 0) 1 := (by decide +kernel : decode prog_14_method_44_code 28 = .ok (.iconst 0, 1))
theorem d_M_isName_29 : m_D k_M_isName 29 (.ireturn) 1 := (by decide +kernel : decode prog_14_method_44_code 29 = .ok (.ireturn, 1))
def fn_M_isName (x0 : Option mA) : mP Int32 :=
  m_th 11 x0 <|
  m_bd (m_gI 11 14 x0) fun v1 =>
  if v1 = 1 then
    m_bd (m_gI 11 18 x0) fun v2 =>
    if 8 < v2 then
      m_rt 0
    else
      m_bd (fn_M_isKept x0) fun v3 =>
      if v3 = 0 then
        m_rt 1
      else
        m_rt 0
  else
    m_rt 0
set_option maxHeartbeats 4000000 in
set_option maxRecDepth 100000 in
theorem sd_M_isName (x0 : Option mA) : m_Sm k_M_isName 5 0 0 [.inr (.inr x0)] (fn_M_isName x0) (fun b => some (.inl b)) := by
  refine ⟨Nat.le_of_ble_eq_true rfl, ?_⟩
  refine sm_th ?_
  refine sm_aload_n (i := 0) (j := 0) (pc' := 1) d_M_isName_0 rfl rfl rfl ?_
  refine sm_getI (pc' := 4) d_M_isName_1 rfl fl_M_136 rfl ⟨by decide, by decide⟩ (fun v1 => ?_)
  refine sm_iconst (pc' := 5) d_M_isName_4 rfl ic_1 ?_
  refine sm_icmp_ne (tgt := 28) (pc' := 8) d_M_isName_5 rfl rfl ?_ ?_
  · refine sm_iconst (pc' := 29) d_M_isName_28 rfl ic_0 ?_
    exact sm_zreturn d_M_isName_29 rfl (by decide) rfl
  · refine sm_aload_n (i := 0) (j := 0) (pc' := 9) d_M_isName_8 rfl rfl rfl ?_
    refine sm_getI (pc' := 12) d_M_isName_9 rfl fl_M_149 rfl ⟨by decide, by decide⟩ (fun v2 => ?_)
    refine sm_bipush (pc' := 14) d_M_isName_12 rfl ib_8 ?_
    refine sm_icmp_gt (tgt := 28) (pc' := 17) d_M_isName_14 rfl rfl ?_ ?_
    · refine sm_iconst (pc' := 29) d_M_isName_28 rfl ic_0 ?_
      exact sm_zreturn d_M_isName_29 rfl (by decide) rfl
    · refine sm_aload_n (i := 0) (j := 0) (pc' := 18) d_M_isName_17 rfl rfl rfl ?_
      refine sm_callVi (ci := 11) (x := x0) (av := []) (st := []) (mc := 0) (ms := 0) (pc' := 21) d_M_isName_18 rfl (sd_M_isKept x0) m_lv rfl cv_M_isKept w_ml_M_215 rfl rfl (by decide) (Nat.le_of_ble_eq_true rfl) rfl rfl (fun v3 => ?_)
      refine sm_if_ne (tgt := 28) (pc' := 24) d_M_isName_21 rfl rfl ?_ ?_
      · refine sm_iconst (pc' := 29) d_M_isName_28 rfl ic_0 ?_
        exact sm_zreturn d_M_isName_29 rfl (by decide) rfl
      · refine sm_iconst (pc' := 25) d_M_isName_24 rfl ic_1 (sm_goto (tgt := 29) d_M_isName_25 rfl ?_)
        exact sm_zreturn d_M_isName_29 rfl (by decide) rfl
theorem d_M_named_0 : m_D k_M_named 0 (.iconst 0) 1 := (by decide +kernel : decode prog_14_method_57_code 0 = .ok (.iconst 0, 1))
theorem d_M_named_1 : m_D k_M_named 1 (.istore_n 3) 1 := (by decide +kernel : decode prog_14_method_57_code 1 = .ok (.istore_n 3, 1))
theorem d_M_named_2 : m_D k_M_named 2 (.iload_n 3) 1 := (by decide +kernel : decode prog_14_method_57_code 2 = .ok (.iload_n 3, 1))
theorem d_M_named_3 : m_D k_M_named 3 (.aload_n 0) 1 := (by decide +kernel : decode prog_14_method_57_code 3 = .ok (.aload_n 0, 1))
theorem d_M_named_4 : m_D k_M_named 4 (.getfield 35) 3 := (by decide +kernel : decode prog_14_method_57_code 4 = .ok (.getfield 35, 3))
theorem d_M_named_7 : m_D k_M_named 7 (.sipush 377) 3 := (by decide +kernel : decode prog_14_method_57_code 7 = .ok (.sipush 377, 3))
theorem d_M_named_10 : m_D k_M_named 10 (.iload_n 1) 1 := (by decide +kernel : decode prog_14_method_57_code 10 = .ok (.iload_n 1, 1))
theorem d_M_named_11 : m_D k_M_named 11 (.imul) 1 := (by decide +kernel : decode prog_14_method_57_code 11 = .ok (.imul, 1))
theorem d_M_named_12 : m_D k_M_named 12 (.iload_n 2) 1 := (by decide +kernel : decode prog_14_method_57_code 12 = .ok (.iload_n 2, 1))
theorem d_M_named_13 : m_D k_M_named 13 (.iadd) 1 := (by decide +kernel : decode prog_14_method_57_code 13 = .ok (.iadd, 1))
theorem d_M_named_14 : m_D k_M_named 14 (.iaload) 1 := (by decide +kernel : decode prog_14_method_57_code 14 = .ok (.iaload, 1))
theorem d_M_named_15 : m_D k_M_named 15 (.if_icmp .ge 35) 3 := (by decide +kernel : decode prog_14_method_57_code 15 = .ok (.if_icmp .ge 35, 3))
theorem d_M_named_18 : m_D k_M_named 18 (.aload_n 0) 1 := (by decide +kernel : decode prog_14_method_57_code 18 = .ok (.aload_n 0, 1))
theorem d_M_named_19 : m_D k_M_named 19 (.getfield 44) 3 := (by decide +kernel : decode prog_14_method_57_code 19 = .ok (.getfield 44, 3))
theorem d_M_named_22 : m_D k_M_named 22 (.bipush 14) 2 := (by decide +kernel : decode prog_14_method_57_code 22 = .ok (.bipush 14, 2))
theorem d_M_named_24 : m_D k_M_named 24 (.iload_n 1) 1 := (by decide +kernel : decode prog_14_method_57_code 24 = .ok (.iload_n 1, 1))
theorem d_M_named_25 : m_D k_M_named 25 (.imul) 1 := (by decide +kernel : decode prog_14_method_57_code 25 = .ok (.imul, 1))
theorem d_M_named_26 : m_D k_M_named 26 (.bipush 6) 2 := (by decide +kernel : decode prog_14_method_57_code 26 = .ok (.bipush 6, 2))
theorem d_M_named_28 : m_D k_M_named 28 (.iload_n 2) 1 := (by decide +kernel : decode prog_14_method_57_code 28 = .ok (.iload_n 2, 1))
theorem d_M_named_29 : m_D k_M_named 29 (.imul) 1 := (by decide +kernel : decode prog_14_method_57_code 29 = .ok (.imul, 1))
theorem d_M_named_30 : m_D k_M_named 30 (.iadd) 1 := (by decide +kernel : decode prog_14_method_57_code 30 = .ok (.iadd, 1))
theorem d_M_named_31 : m_D k_M_named 31 (.iload_n 3) 1 := (by decide +kernel : decode prog_14_method_57_code 31 = .ok (.iload_n 3, 1))
theorem d_M_named_32 : m_D k_M_named 32 (.iadd) 1 := (by decide +kernel : decode prog_14_method_57_code 32 = .ok (.iadd, 1))
theorem d_M_named_33 : m_D k_M_named 33 (.laload) 1 := (by decide +kernel : decode prog_14_method_57_code 33 = .ok (.laload, 1))
theorem d_M_named_34 : m_D k_M_named 34 (.aload_n 0) 1 := (by decide +kernel : decode prog_14_method_57_code 34 = .ok (.aload_n 0, 1))
theorem d_M_named_35 : m_D k_M_named 35 (.getfield 142) 3 := (by decide +kernel : decode prog_14_method_57_code 35 = .ok (.getfield 142, 3))
theorem d_M_named_38 : m_D k_M_named 38 (.lcmp) 1 := (by decide +kernel : decode prog_14_method_57_code 38 = .ok (.lcmp, 1))
theorem d_M_named_39 : m_D k_M_named 39 (.ifCond .ne 5) 3 := (by decide +kernel : decode prog_14_method_57_code 39 = .ok (.ifCond .ne 5, 3))
theorem d_M_named_42 : m_D k_M_named 42 (.iload_n 3) 1 := (by decide +kernel : decode prog_14_method_57_code 42 = .ok (.iload_n 3, 1))
theorem d_M_named_43 : m_D k_M_named 43 (.ireturn) 1 := (by decide +kernel : decode prog_14_method_57_code 43 = .ok (.ireturn, 1))
theorem d_M_named_44 : m_D k_M_named 44 (.iinc 3 1) 3 := (by decide +kernel : decode prog_14_method_57_code 44 = .ok (.iinc 3 1, 3))
theorem d_M_named_47 : m_D k_M_named 47 (.goto (-45)) 3 := (by decide +kernel : decode prog_14_method_57_code 47 = .ok (.goto (-45), 3))
theorem d_M_named_50 : m_D k_M_named 50 (.iconst (-1)) 1 := (by decide +kernel : decode prog_14_method_57_code 50 = .ok (.iconst (-1), 1))
theorem d_M_named_51 : m_D k_M_named 51 (.ireturn) 1 := (by decide +kernel : decode prog_14_method_57_code 51 = .ok (.ireturn, 1))
def fn_M_named_l2 (x0 : Option mA) (x1 : Int32) (x2 : Int32) (t1 : Int32) : mP ((Int32) ⊕ (Int32)) :=
  m_bd (m_gR 11 20 x0) fun v2 =>
  m_bd (m_aI 0 v2 ((377 * x1) + x2)) fun v3 =>
  if v3 ≤ t1 then
    m_rt (.inr (-1))
  else
    m_bd (m_gR 11 23 x0) fun v4 =>
    m_bd (m_aJ v4 (((14 * x1) + (6 * x2)) + t1)) fun v5 =>
    m_bd (m_gJ 11 19 x0) fun v6 =>
    if (lg_cmp v5 v6) = 0 then
      m_rt (.inr t1)
    else
      m_rt (.inl (t1 + 1))
def fn_M_named (x0 : Option mA) (x1 : Int32) (x2 : Int32) : mP Int32 :=
  m_th 11 x0 <|
  m_lp (fn_M_named_l2 x0 x1 x2) m_F 0
set_option maxHeartbeats 4000000 in
set_option maxRecDepth 100000 in
theorem sd_M_named (x0 : Option mA) (x1 : Int32) (x2 : Int32) : m_Sm k_M_named 1 0 0 [.inr (.inr x0), .inl x1, .inl x2] (fn_M_named x0 x1 x2) (fun b => some (.inl b)) := by
  refine ⟨Nat.le_of_ble_eq_true rfl, ?_⟩
  refine sm_th ?_
  refine sm_iconst (pc' := 1) d_M_named_0 rfl ic_0 (sm_istore_n (i := 3) (L' := [(3, .inl 0), (0, .inr (.inr x0)), (1, .inl x1), (2, .inl x2)]) (pc' := 2) d_M_named_1 rfl rfl (Nat.le_of_ble_eq_true rfl) rfl ?_)
  refine sm_sub [0, 1, 2, 3] rfl ?_
  refine sm_lp (hd := fun (t1 : Int32) => (.inl (2, [(3, .inl t1), (0, .inr (.inr x0)), (1, .inl x1), (2, .inl x2)], []) : mC)) (fun t1 => ?_) m_F 0
  refine sm_iload_n (i := 3) (j := 0) (pc' := 3) d_M_named_2 rfl rfl rfl (sm_aload_n (i := 0) (j := 1) (pc' := 4) d_M_named_3 rfl rfl rfl ?_)
  refine sm_getR (pc' := 7) d_M_named_4 rfl fl_M_35 rfl rfl (fun v2 => ?_)
  refine sm_sipush (pc' := 10) d_M_named_7 rfl is_377 (sm_iload_n (i := 1) (j := 2) (pc' := 11) d_M_named_10 rfl rfl rfl (sm_imul (pc' := 12) d_M_named_11 rfl (sm_iload_n (i := 2) (j := 3) (pc' := 13) d_M_named_12 rfl rfl rfl (sm_iadd (pc' := 14) d_M_named_13 rfl ?_))))
  refine sm_iald (pc' := 15) d_M_named_14 rfl (fun v3 => ?_)
  refine sm_icmp_ge (tgt := 50) (pc' := 18) d_M_named_15 rfl rfl ?_ ?_
  · refine sm_iconst (pc' := 51) d_M_named_50 rfl ic_m1 ?_
    exact sm_ireturn d_M_named_51 rfl rfl
  · refine sm_aload_n (i := 0) (j := 1) (pc' := 19) d_M_named_18 rfl rfl rfl ?_
    refine sm_getR (pc' := 22) d_M_named_19 rfl fl_M_44 rfl rfl (fun v4 => ?_)
    refine sm_bipush (pc' := 24) d_M_named_22 rfl ib_14 (sm_iload_n (i := 1) (j := 2) (pc' := 25) d_M_named_24 rfl rfl rfl (sm_imul (pc' := 26) d_M_named_25 rfl (sm_bipush (pc' := 28) d_M_named_26 rfl ib_6 (sm_iload_n (i := 2) (j := 3) (pc' := 29) d_M_named_28 rfl rfl rfl (sm_imul (pc' := 30) d_M_named_29 rfl (sm_iadd (pc' := 31) d_M_named_30 rfl (sm_iload_n (i := 3) (j := 0) (pc' := 32) d_M_named_31 rfl rfl rfl (sm_iadd (pc' := 33) d_M_named_32 rfl ?_))))))))
    refine sm_lald (pc' := 34) d_M_named_33 rfl (fun v5 => ?_)
    refine sm_aload_n (i := 0) (j := 1) (pc' := 35) d_M_named_34 rfl rfl rfl ?_
    refine sm_getJ (pc' := 38) d_M_named_35 rfl fl_M_142 rfl rfl (fun v6 => ?_)
    refine sm_lcmp (pc' := 39) d_M_named_38 rfl ?_
    refine sm_if_ne (tgt := 44) (pc' := 42) d_M_named_39 rfl rfl ?_ ?_
    · refine sm_iinc (j := 0) (L' := [(3, .inl (t1 + 1)), (0, .inr (.inr x0)), (1, .inl x1), (2, .inl x2)]) (pc' := 47) d_M_named_44 rfl (v := (t1 + 1)) rfl (ix_1 _) (Nat.le_of_ble_eq_true rfl) rfl (sm_goto (tgt := 2) d_M_named_47 rfl (sm_sub [0, 1, 2, 3] rfl ?_))
      exact sm_rt rfl
    · refine sm_iload_n (i := 3) (j := 0) (pc' := 43) d_M_named_42 rfl rfl rfl ?_
      exact sm_ireturn d_M_named_43 rfl rfl
theorem d_M_readTold_0 : m_D k_M_readTold 0 (.aload_n 0) 1 := (by decide +kernel : decode prog_14_method_59_code 0 = .ok (.aload_n 0, 1))
theorem d_M_readTold_1 : m_D k_M_readTold 1 (.getfield 218) 3 := (by decide +kernel : decode prog_14_method_59_code 1 = .ok (.getfield 218, 3))
theorem d_M_readTold_4 : m_D k_M_readTold 4 (.ifCond .ne 14) 3 := (by decide +kernel : decode prog_14_method_59_code 4 = .ok (.ifCond .ne 14, 3))
theorem d_M_readTold_7 : m_D k_M_readTold 7 (.aload_n 0) 1 := (by decide +kernel : decode prog_14_method_59_code 7 = .ok (.aload_n 0, 1))
theorem d_M_readTold_8 : m_D k_M_readTold 8 (.invokevirtual 247) 3 := (by decide +kernel : decode prog_14_method_59_code 8 = .ok (.invokevirtual 247, 3))
theorem d_M_readTold_11 : m_D k_M_readTold 11 (.ifCond .ne 7) 3 := (by decide +kernel : decode prog_14_method_59_code 11 = .ok (.ifCond .ne 7, 3))
theorem d_M_readTold_14 : m_D k_M_readTold 14 (.aload_n 0) 1 := (by decide +kernel : decode prog_14_method_59_code 14 = .ok (.aload_n 0, 1))
theorem d_M_readTold_15 : m_D k_M_readTold 15 (.invokevirtual 231) 3 := (by decide +kernel : decode prog_14_method_59_code 15 = .ok (.invokevirtual 231, 3))
theorem d_M_readTold_18 : m_D k_M_readTold 18 (.aload_n 0) 1 := (by decide +kernel : decode prog_14_method_59_code 18 = .ok (.aload_n 0, 1))
theorem d_M_readTold_19 : m_D k_M_readTold 19 (.getfield 218) 3 := (by decide +kernel : decode prog_14_method_59_code 19 = .ok (.getfield 218, 3))
theorem d_M_readTold_22 : m_D k_M_readTold 22 (.ifCond .le 5) 3 := (by decide +kernel : decode prog_14_method_59_code 22 = .ok (.ifCond .le 5, 3))
theorem d_M_readTold_25 : m_D k_M_readTold 25 (.iconst 0) 1 := (by decide +kernel : decode prog_14_method_59_code 25 = .ok (.iconst 0, 1))
theorem d_M_readTold_26 : m_D k_M_readTold 26 (.ireturn) 1 := (by decide +kernel : decode prog_14_method_59_code 26 = .ok (.ireturn, 1))
theorem d_M_readTold_27 : m_D k_M_readTold 27 (.aload_n 0) 1 := (by decide +kernel : decode prog_14_method_59_code 27 = .ok (.aload_n 0, 1))
theorem d_M_readTold_28 : m_D k_M_readTold 28 (.iload_n 1) 1 := (by decide +kernel : decode prog_14_method_59_code 28 = .ok (.iload_n 1, 1))
theorem d_M_readTold_29 : m_D k_M_readTold 29 (.iload_n 2) 1 := (by decide +kernel : decode prog_14_method_59_code 29 = .ok (.iload_n 2, 1))
theorem d_M_readTold_30 : m_D k_M_readTold 30 (.invokevirtual 250) 3 := (by decide +kernel : decode prog_14_method_59_code 30 = .ok (.invokevirtual 250, 3))
theorem d_M_readTold_33 : m_D k_M_readTold 33 (.istore_n 3) 1 := (by decide +kernel : decode prog_14_method_59_code 33 = .ok (.istore_n 3, 1))
theorem d_M_readTold_34 : m_D k_M_readTold 34 (.iload_n 3) 1 := (by decide +kernel : decode prog_14_method_59_code 34 = .ok (.iload_n 3, 1))
theorem d_M_readTold_35 : m_D k_M_readTold 35 (.ifCond .ge 12) 3 := (by decide +kernel : decode prog_14_method_59_code 35 = .ok (.ifCond .ge 12, 3))
theorem d_M_readTold_38 : m_D k_M_readTold 38 (.aload_n 0) 1 := (by decide +kernel : decode prog_14_method_59_code 38 = .ok (.aload_n 0, 1))
theorem d_M_readTold_39 : m_D k_M_readTold 39 (.iconst 3) 1 := (by decide +kernel : decode prog_14_method_59_code 39 = .ok (.iconst 3, 1))
theorem d_M_readTold_40 : m_D k_M_readTold 40 (.aload_n 0) 1 := (by decide +kernel : decode prog_14_method_59_code 40 = .ok (.aload_n 0, 1))
theorem d_M_readTold_41 : m_D k_M_readTold 41 (.getfield 130) 3 := (by decide +kernel : decode prog_14_method_59_code 41 = .ok (.getfield 130, 3))
theorem d_M_readTold_44 : m_D k_M_readTold 44 (.invokevirtual 224) 3 := (by decide +kernel : decode prog_14_method_59_code 44 = .ok (.invokevirtual 224, 3))
theorem d_M_readTold_47 : m_D k_M_readTold 47 (.aload_n 0) 1 := (by decide +kernel : decode prog_14_method_59_code 47 = .ok (.aload_n 0, 1))
theorem d_M_readTold_48 : m_D k_M_readTold 48 (.iconst 1) 1 := (by decide +kernel : decode prog_14_method_59_code 48 = .ok (.iconst 1, 1))
theorem d_M_readTold_49 : m_D k_M_readTold 49 (.invokevirtual 234) 3 := (by decide +kernel : decode prog_14_method_59_code 49 = .ok (.invokevirtual 234, 3))
theorem d_M_readTold_52 : m_D k_M_readTold 52 (.iconst 0) 1 := (by decide +kernel : decode prog_14_method_59_code 52 = .ok (.iconst 0, 1))
theorem d_M_readTold_53 : m_D k_M_readTold 53 (.iload_n 3) 1 := (by decide +kernel : decode prog_14_method_59_code 53 = .ok (.iload_n 3, 1))
theorem d_M_readTold_54 : m_D k_M_readTold 54 (.invokestatic 253) 3 := (by decide +kernel : decode prog_14_method_59_code 54 = .ok (.invokestatic 253, 3))
theorem d_M_readTold_57 : m_D k_M_readTold 57 (.ireturn) 1 := (by decide +kernel : decode prog_14_method_59_code 57 = .ok (.ireturn, 1))
def fn_M_readTold (x0 : Option mA) (x1 : Int32) (x2 : Int32) : mP Int32 :=
  m_th 11 x0 <|
  m_bd (m_gI 11 12 x0) fun v1 =>
  m_bd (α := Unit) (
    if v1 = 0 then
      m_bd (fn_M_isName x0) fun v2 =>
      if v2 = 0 then
        m_bd (fn_M_amiss x0) fun _ =>
        m_rt ()
      else
        m_rt ()
    else
      m_rt ()
    ) fun (t3 : Unit) =>
  m_bd (m_gI 11 12 x0) fun v4 =>
  if v4 ≤ 0 then
    m_bd (fn_M_named x0 x1 x2) fun v5 =>
    m_bd (α := Unit) (
      if 0 ≤ v5 then
        m_rt ()
      else
        m_bd (m_gI 11 15 x0) fun v6 =>
        m_bd (fn_M_fail x0 3 v6) fun _ =>
        m_rt ()
      ) fun (t7 : Unit) =>
    m_bd (fn_M_must x0 1) fun _ =>
    m_rt (iMax 0 v5)
  else
    m_rt 0
set_option maxHeartbeats 4000000 in
set_option maxRecDepth 100000 in
theorem sd_M_readTold (x0 : Option mA) (x1 : Int32) (x2 : Int32) : m_Sm k_M_readTold 6 0 0 [.inr (.inr x0), .inl x1, .inl x2] (fn_M_readTold x0 x1 x2) (fun b => some (.inl b)) := by
  refine ⟨Nat.le_of_ble_eq_true rfl, ?_⟩
  refine sm_th ?_
  refine sm_aload_n (i := 0) (j := 0) (pc' := 1) d_M_readTold_0 rfl rfl rfl ?_
  refine sm_getI (pc' := 4) d_M_readTold_1 rfl fl_M_218 rfl ⟨by decide, by decide⟩ (fun v1 => ?_)
  refine sm_bd (mid := fun (t3 : Unit) => .inl (18, [(0, .inr (.inr x0)), (1, .inl x1), (2, .inl x2)], [])) ?_ (fun t3 => ?_)
  · refine sm_if_ne (tgt := 18) (pc' := 7) d_M_readTold_4 rfl rfl ?_ ?_
    · refine sm_sub [0, 1, 2] rfl ?_
      exact sm_rt rfl
    · refine sm_aload_n (i := 0) (j := 0) (pc' := 8) d_M_readTold_7 rfl rfl rfl ?_
      refine sm_callVi (ci := 11) (x := x0) (av := []) (st := []) (mc := 0) (ms := 0) (pc' := 11) d_M_readTold_8 rfl (sd_M_isName x0) m_lv rfl cv_M_isName w_ml_M_247 rfl rfl (by decide) (Nat.le_of_ble_eq_true rfl) rfl rfl (fun v2 => ?_)
      refine sm_if_ne (tgt := 18) (pc' := 14) d_M_readTold_11 rfl rfl ?_ ?_
      · refine sm_sub [0, 1, 2] rfl ?_
        exact sm_rt rfl
      · refine sm_aload_n (i := 0) (j := 0) (pc' := 15) d_M_readTold_14 rfl rfl rfl ?_
        refine sm_callVv (ci := 11) (x := x0) (av := []) (st := []) (mc := 0) (ms := 0) (pc' := 18) d_M_readTold_15 rfl (sd_M_amiss x0) m_lv rfl cv_M_amiss w_ml_M_231 rfl rfl (by decide) (Nat.le_of_ble_eq_true rfl) rfl rfl ?_
        refine sm_sub [0, 1, 2] rfl ?_
        exact sm_rt rfl
  · refine sm_aload_n (i := 0) (j := 0) (pc' := 19) d_M_readTold_18 rfl rfl rfl ?_
    refine sm_getI (pc' := 22) d_M_readTold_19 rfl fl_M_218 rfl ⟨by decide, by decide⟩ (fun v4 => ?_)
    refine sm_if_le (tgt := 27) (pc' := 25) d_M_readTold_22 rfl rfl ?_ ?_
    · refine sm_aload_n (i := 0) (j := 0) (pc' := 28) d_M_readTold_27 rfl rfl rfl (sm_iload_n (i := 1) (j := 1) (pc' := 29) d_M_readTold_28 rfl rfl rfl (sm_iload_n (i := 2) (j := 2) (pc' := 30) d_M_readTold_29 rfl rfl rfl ?_))
      refine sm_callVi (ci := 11) (x := x0) (av := [.inl x1, .inl x2]) (st := []) (mc := 0) (ms := 0) (pc' := 33) d_M_readTold_30 rfl (sd_M_named x0 x1 x2) m_lv rfl cv_M_named w_ml_M_250 rfl rfl (by decide) (Nat.le_of_ble_eq_true rfl) rfl rfl (fun v5 => ?_)
      refine sm_istore_n (i := 3) (L' := [(3, .inl v5), (0, .inr (.inr x0)), (1, .inl x1), (2, .inl x2)]) (pc' := 34) d_M_readTold_33 rfl rfl (Nat.le_of_ble_eq_true rfl) rfl (sm_iload_n (i := 3) (j := 0) (pc' := 35) d_M_readTold_34 rfl rfl rfl ?_)
      refine sm_bd (mid := fun (t7 : Unit) => .inl (47, [(0, .inr (.inr x0)), (3, .inl v5)], [])) ?_ (fun t7 => ?_)
      · refine sm_if_ge (tgt := 47) (pc' := 38) d_M_readTold_35 rfl rfl ?_ ?_
        · refine sm_sub [1, 0] rfl ?_
          exact sm_rt rfl
        · refine sm_aload_n (i := 0) (j := 1) (pc' := 39) d_M_readTold_38 rfl rfl rfl (sm_iconst (pc' := 40) d_M_readTold_39 rfl ic_3 (sm_aload_n (i := 0) (j := 1) (pc' := 41) d_M_readTold_40 rfl rfl rfl ?_))
          refine sm_getI (pc' := 44) d_M_readTold_41 rfl fl_M_130 rfl ⟨by decide, by decide⟩ (fun v6 => ?_)
          refine sm_callVv (ci := 11) (x := x0) (av := [.inl 3, .inl v6]) (st := []) (mc := 0) (ms := 0) (pc' := 47) d_M_readTold_44 rfl (sd_M_fail x0 3 v6) m_lv rfl cv_M_fail w_ml_M_224 rfl rfl (by decide) (Nat.le_of_ble_eq_true rfl) rfl rfl ?_
          refine sm_sub [1, 0] rfl ?_
          exact sm_rt rfl
      · refine sm_aload_n (i := 0) (j := 0) (pc' := 48) d_M_readTold_47 rfl rfl rfl (sm_iconst (pc' := 49) d_M_readTold_48 rfl ic_1 ?_)
        refine sm_callVv (ci := 11) (x := x0) (av := [.inl 1]) (st := []) (mc := 0) (ms := 0) (pc' := 52) d_M_readTold_49 rfl (sd_M_must x0 1) m_lv rfl cv_M_must w_ml_M_234 rfl rfl (by decide) (Nat.le_of_ble_eq_true rfl) rfl rfl ?_
        refine sm_iconst (pc' := 53) d_M_readTold_52 rfl ic_0 (sm_iload_n (i := 3) (j := 1) (pc' := 54) d_M_readTold_53 rfl rfl rfl (sm_mmax (pc' := 57) d_M_readTold_54 rfl w_ml_M_253 (by decide) (Nat.le_of_ble_eq_true rfl) ?_))
        exact sm_ireturn d_M_readTold_57 rfl rfl
    · refine sm_iconst (pc' := 26) d_M_readTold_25 rfl ic_0 ?_
      exact sm_ireturn d_M_readTold_26 rfl rfl
theorem d_M_readLoves_0 : m_D k_M_readLoves 0 (.aload_n 0) 1 := (by decide +kernel : decode prog_14_method_63_code 0 = .ok (.aload_n 0, 1))
theorem d_M_readLoves_1 : m_D k_M_readLoves 1 (.invokevirtual 228) 3 := (by decide +kernel : decode prog_14_method_63_code 1 = .ok (.invokevirtual 228, 3))
theorem d_M_readLoves_4 : m_D k_M_readLoves 4 (.aload_n 0) 1 := (by decide +kernel : decode prog_14_method_63_code 4 = .ok (.aload_n 0, 1))
theorem d_M_readLoves_5 : m_D k_M_readLoves 5 (.iconst 4) 1 := (by decide +kernel : decode prog_14_method_63_code 5 = .ok (.iconst 4, 1))
theorem d_M_readLoves_6 : m_D k_M_readLoves 6 (.iconst 0) 1 := (by decide +kernel : decode prog_14_method_63_code 6 = .ok (.iconst 0, 1))
theorem d_M_readLoves_7 : m_D k_M_readLoves 7 (.invokevirtual 270) 3 := (by decide +kernel : decode prog_14_method_63_code 7 = .ok (.invokevirtual 270, 3))
theorem d_M_readLoves_10 : m_D k_M_readLoves 10 (.istore_n 1) 1 := (by decide +kernel : decode prog_14_method_63_code 10 = .ok (.istore_n 1, 1))
theorem d_M_readLoves_11 : m_D k_M_readLoves 11 (.aload_n 0) 1 := (by decide +kernel : decode prog_14_method_63_code 11 = .ok (.aload_n 0, 1))
theorem d_M_readLoves_12 : m_D k_M_readLoves 12 (.iconst 4) 1 := (by decide +kernel : decode prog_14_method_63_code 12 = .ok (.iconst 4, 1))
theorem d_M_readLoves_13 : m_D k_M_readLoves 13 (.iconst 1) 1 := (by decide +kernel : decode prog_14_method_63_code 13 = .ok (.iconst 1, 1))
theorem d_M_readLoves_14 : m_D k_M_readLoves 14 (.invokevirtual 270) 3 := (by decide +kernel : decode prog_14_method_63_code 14 = .ok (.invokevirtual 270, 3))
theorem d_M_readLoves_17 : m_D k_M_readLoves 17 (.istore_n 2) 1 := (by decide +kernel : decode prog_14_method_63_code 17 = .ok (.istore_n 2, 1))
theorem d_M_readLoves_18 : m_D k_M_readLoves 18 (.aload_n 0) 1 := (by decide +kernel : decode prog_14_method_63_code 18 = .ok (.aload_n 0, 1))
theorem d_M_readLoves_19 : m_D k_M_readLoves 19 (.iconst 0) 1 := (by decide +kernel : decode prog_14_method_63_code 19 = .ok (.iconst 0, 1))
theorem d_M_readLoves_20 : m_D k_M_readLoves 20 (.bipush 9) 2 := (by decide +kernel : decode prog_14_method_63_code 20 = .ok (.bipush 9, 2))
theorem d_M_readLoves_22 : m_D k_M_readLoves 22 (.invokevirtual 238) 3 := (by decide +kernel : decode prog_14_method_63_code 22 = .ok (.invokevirtual 238, 3))
theorem d_M_readLoves_25 : m_D k_M_readLoves 25 (.istore_n 3) 1 := (by decide +kernel : decode prog_14_method_63_code 25 = .ok (.istore_n 3, 1))
theorem d_M_readLoves_26 : m_D k_M_readLoves 26 (.aload_n 0) 1 := (by decide +kernel : decode prog_14_method_63_code 26 = .ok (.aload_n 0, 1))
theorem d_M_readLoves_27 : m_D k_M_readLoves 27 (.getfield 218) 3 := (by decide +kernel : decode prog_14_method_63_code 27 = .ok (.getfield 218, 3))
theorem d_M_readLoves_30 : m_D k_M_readLoves 30 (.ifCond .ne 19) 3 := (by decide +kernel : decode prog_14_method_63_code 30 = .ok (.ifCond .ne 19, 3))
theorem d_M_readLoves_33 : m_D k_M_readLoves 33 (.aload_n 0) 1 := (by decide +kernel : decode prog_14_method_63_code 33 = .ok (.aload_n 0, 1))
theorem d_M_readLoves_34 : m_D k_M_readLoves 34 (.getfield 35) 3 := (by decide +kernel : decode prog_14_method_63_code 34 = .ok (.getfield 35, 3))
theorem d_M_readLoves_37 : m_D k_M_readLoves 37 (.sipush 1565) 3 := (by decide +kernel : decode prog_14_method_63_code 37 = .ok (.sipush 1565, 3))
theorem d_M_readLoves_40 : m_D k_M_readLoves 40 (.bipush 8) 2 := (by decide +kernel : decode prog_14_method_63_code 40 = .ok (.bipush 8, 2))
theorem d_M_readLoves_42 : m_D k_M_readLoves 42 (.iload_n 1) 1 := (by decide +kernel : decode prog_14_method_63_code 42 = .ok (.iload_n 1, 1))
theorem d_M_readLoves_43 : m_D k_M_readLoves 43 (.imul) 1 := (by decide +kernel : decode prog_14_method_63_code 43 = .ok (.imul, 1))
theorem d_M_readLoves_44 : m_D k_M_readLoves 44 (.iadd) 1 := (by decide +kernel : decode prog_14_method_63_code 44 = .ok (.iadd, 1))
theorem d_M_readLoves_45 : m_D k_M_readLoves 45 (.iload_n 2) 1 := (by decide +kernel : decode prog_14_method_63_code 45 = .ok (.iload_n 2, 1))
theorem d_M_readLoves_46 : m_D k_M_readLoves 46 (.iadd) 1 := (by decide +kernel : decode prog_14_method_63_code 46 = .ok (.iadd, 1))
theorem d_M_readLoves_47 : m_D k_M_readLoves 47 (.iload_n 3) 1 := (by decide +kernel : decode prog_14_method_63_code 47 = .ok (.iload_n 3, 1))
theorem d_M_readLoves_48 : m_D k_M_readLoves 48 (.iastore) 1 := (by decide +kernel : decode prog_14_method_63_code 48 = .ok (.iastore, 1))
theorem d_M_readLoves_49 : m_D k_M_readLoves 49 (.return_) 1 := (by decide +kernel : decode prog_14_method_63_code 49 = .ok (.return_, 1))
def fn_M_readLoves (x0 : Option mA) : mP Unit :=
  m_th 11 x0 <|
  m_bd (fn_M_advance x0) fun _ =>
  m_bd (fn_M_readTold x0 4 0) fun v1 =>
  m_bd (fn_M_readTold x0 4 1) fun v2 =>
  m_bd (fn_M_count x0 0 9) fun v3 =>
  m_bd (m_gI 11 12 x0) fun v4 =>
  if v4 = 0 then
    m_bd (m_gR 11 20 x0) fun v5 =>
    m_bd (m_tI 0 v5 ((1565 + (8 * v1)) + v2) v3) fun _ =>
    m_rt ()
  else
    m_rt ()
set_option maxHeartbeats 4000000 in
set_option maxRecDepth 100000 in
theorem sd_M_readLoves (x0 : Option mA) : m_Sm k_M_readLoves 7 0 0 [.inr (.inr x0)] (fn_M_readLoves x0) (fun _ => none) := by
  refine ⟨Nat.le_of_ble_eq_true rfl, ?_⟩
  refine sm_th ?_
  refine sm_aload_n (i := 0) (j := 0) (pc' := 1) d_M_readLoves_0 rfl rfl rfl ?_
  refine sm_callVv (ci := 11) (x := x0) (av := []) (st := []) (mc := 0) (ms := 0) (pc' := 4) d_M_readLoves_1 rfl (sd_M_advance x0) m_lv rfl cv_M_advance w_ml_M_228 rfl rfl (by decide) (Nat.le_of_ble_eq_true rfl) rfl rfl ?_
  refine sm_aload_n (i := 0) (j := 0) (pc' := 5) d_M_readLoves_4 rfl rfl rfl (sm_iconst (pc' := 6) d_M_readLoves_5 rfl ic_4 (sm_iconst (pc' := 7) d_M_readLoves_6 rfl ic_0 ?_))
  refine sm_callVi (ci := 11) (x := x0) (av := [.inl 4, .inl 0]) (st := []) (mc := 0) (ms := 0) (pc' := 10) d_M_readLoves_7 rfl (sd_M_readTold x0 4 0) m_lv rfl cv_M_readTold w_ml_M_270 rfl rfl (by decide) (Nat.le_of_ble_eq_true rfl) rfl rfl (fun v1 => ?_)
  refine sm_istore_n (i := 1) (L' := [(1, .inl v1), (0, .inr (.inr x0))]) (pc' := 11) d_M_readLoves_10 rfl rfl (Nat.le_of_ble_eq_true rfl) rfl (sm_aload_n (i := 0) (j := 1) (pc' := 12) d_M_readLoves_11 rfl rfl rfl (sm_iconst (pc' := 13) d_M_readLoves_12 rfl ic_4 (sm_iconst (pc' := 14) d_M_readLoves_13 rfl ic_1 ?_)))
  refine sm_callVi (ci := 11) (x := x0) (av := [.inl 4, .inl 1]) (st := []) (mc := 0) (ms := 0) (pc' := 17) d_M_readLoves_14 rfl (sd_M_readTold x0 4 1) m_lv rfl cv_M_readTold w_ml_M_270 rfl rfl (by decide) (Nat.le_of_ble_eq_true rfl) rfl rfl (fun v2 => ?_)
  refine sm_istore_n (i := 2) (L' := [(2, .inl v2), (1, .inl v1), (0, .inr (.inr x0))]) (pc' := 18) d_M_readLoves_17 rfl rfl (Nat.le_of_ble_eq_true rfl) rfl (sm_aload_n (i := 0) (j := 2) (pc' := 19) d_M_readLoves_18 rfl rfl rfl (sm_iconst (pc' := 20) d_M_readLoves_19 rfl ic_0 (sm_bipush (pc' := 22) d_M_readLoves_20 rfl ib_9 ?_)))
  refine sm_callVi (ci := 11) (x := x0) (av := [.inl 0, .inl 9]) (st := []) (mc := 0) (ms := 0) (pc' := 25) d_M_readLoves_22 rfl (sd_M_count x0 0 9) m_lv rfl cv_M_count w_ml_M_238 rfl rfl (by decide) (Nat.le_of_ble_eq_true rfl) rfl rfl (fun v3 => ?_)
  refine sm_istore_n (i := 3) (L' := [(3, .inl v3), (2, .inl v2), (1, .inl v1), (0, .inr (.inr x0))]) (pc' := 26) d_M_readLoves_25 rfl rfl (Nat.le_of_ble_eq_true rfl) rfl (sm_aload_n (i := 0) (j := 3) (pc' := 27) d_M_readLoves_26 rfl rfl rfl ?_)
  refine sm_getI (pc' := 30) d_M_readLoves_27 rfl fl_M_218 rfl ⟨by decide, by decide⟩ (fun v4 => ?_)
  refine sm_if_ne (tgt := 49) (pc' := 33) d_M_readLoves_30 rfl rfl ?_ ?_
  · exact sm_return d_M_readLoves_49 rfl rfl
  · refine sm_aload_n (i := 0) (j := 3) (pc' := 34) d_M_readLoves_33 rfl rfl rfl ?_
    refine sm_getR (pc' := 37) d_M_readLoves_34 rfl fl_M_35 rfl rfl (fun v5 => ?_)
    refine sm_sipush (pc' := 40) d_M_readLoves_37 rfl is_1565 (sm_bipush (pc' := 42) d_M_readLoves_40 rfl ib_8 (sm_iload_n (i := 1) (j := 2) (pc' := 43) d_M_readLoves_42 rfl rfl rfl (sm_imul (pc' := 44) d_M_readLoves_43 rfl (sm_iadd (pc' := 45) d_M_readLoves_44 rfl (sm_iload_n (i := 2) (j := 1) (pc' := 46) d_M_readLoves_45 rfl rfl rfl (sm_iadd (pc' := 47) d_M_readLoves_46 rfl (sm_iload_n (i := 3) (j := 0) (pc' := 48) d_M_readLoves_47 rfl rfl rfl (sm_iast (pc' := 49) d_M_readLoves_48 rfl ?_))))))))
    exact sm_return d_M_readLoves_49 rfl rfl
theorem d_M_has_0 : m_D k_M_has 0 (.iload_n 0) 1 := (by decide +kernel : decode prog_14_method_19_code 0 = .ok (.iload_n 0, 1))
theorem d_M_has_1 : m_D k_M_has 1 (.iload_n 1) 1 := (by decide +kernel : decode prog_14_method_19_code 1 = .ok (.iload_n 1, 1))
theorem d_M_has_2 : m_D k_M_has 2 (.ishr) 1 := (by decide +kernel : decode prog_14_method_19_code 2 = .ok (.ishr, 1))
theorem d_M_has_3 : m_D k_M_has 3 (.iconst 1) 1 := (by decide +kernel : decode prog_14_method_19_code 3 = .ok (.iconst 1, 1))
theorem d_M_has_4 : m_D k_M_has 4 (.iand) 1 := (by decide +kernel : decode prog_14_method_19_code 4 = .ok (.iand, 1))
theorem d_M_has_5 : m_D k_M_has 5 (.iconst 1) 1 := (by decide +kernel : decode prog_14_method_19_code 5 = .ok (.iconst 1, 1))
theorem d_M_has_6 : m_D k_M_has 6 (.if_icmp .ne 7) 3 := (by decide +kernel : decode prog_14_method_19_code 6 = .ok (.if_icmp .ne 7, 3))
theorem d_M_has_9 : m_D k_M_has 9 (.iconst 1) 1 := (by decide +kernel : decode prog_14_method_19_code 9 = .ok (.iconst 1, 1))
theorem d_M_has_10 : m_D k_M_has 10 (.goto 4) 3 := (by decide +kernel : decode prog_14_method_19_code 10 = .ok (.goto 4, 3))
theorem d_M_has_13 : m_D k_M_has 13 (.iconst 0) 1 := (by decide +kernel : decode prog_14_method_19_code 13 = .ok (.iconst 0, 1))
theorem d_M_has_14 : m_D k_M_has 14 (.ireturn) 1 := (by decide +kernel : decode prog_14_method_19_code 14 = .ok (.ireturn, 1))
def fn_M_has (x0 : Int32) (x1 : Int32) : mP Int32 :=
  if ((x0 >>> (x1 &&& 31)) &&& 1) = 1 then
    m_rt 1
  else
    m_rt 0
set_option maxHeartbeats 4000000 in
set_option maxRecDepth 100000 in
theorem sd_M_has (x0 : Int32) (x1 : Int32) : m_Sm k_M_has 1 0 0 [.inl x0, .inl x1] (fn_M_has x0 x1) (fun b => some (.inl b)) := by
  refine ⟨Nat.le_of_ble_eq_true rfl, ?_⟩
  refine sm_iload_n (i := 0) (j := 0) (pc' := 1) d_M_has_0 rfl rfl rfl (sm_iload_n (i := 1) (j := 1) (pc' := 2) d_M_has_1 rfl rfl rfl (sm_ishr (pc' := 3) d_M_has_2 rfl (sm_iconst (pc' := 4) d_M_has_3 rfl ic_1 (sm_iand (pc' := 5) d_M_has_4 rfl (sm_iconst (pc' := 6) d_M_has_5 rfl ic_1 ?_)))))
  refine sm_icmp_ne (tgt := 13) (pc' := 9) d_M_has_6 rfl rfl ?_ ?_
  · refine sm_iconst (pc' := 14) d_M_has_13 rfl ic_0 ?_
    exact sm_zreturn d_M_has_14 rfl (by decide) rfl
  · refine sm_iconst (pc' := 10) d_M_has_9 rfl ic_1 (sm_goto (tgt := 14) d_M_has_10 rfl ?_)
    exact sm_zreturn d_M_has_14 rfl (by decide) rfl
theorem d_M_readOnce_0 : m_D k_M_readOnce 0 (.aload_n 0) 1 := (by decide +kernel : decode prog_14_method_60_code 0 = .ok (.aload_n 0, 1))
theorem d_M_readOnce_1 : m_D k_M_readOnce 1 (.getfield 256) 3 := (by decide +kernel : decode prog_14_method_60_code 1 = .ok (.getfield 256, 3))
theorem d_M_readOnce_4 : m_D k_M_readOnce 4 (.iload_n 1) 1 := (by decide +kernel : decode prog_14_method_60_code 4 = .ok (.iload_n 1, 1))
theorem d_M_readOnce_5 : m_D k_M_readOnce 5 (.invokestatic 120) 3 := (by decide +kernel : decode prog_14_method_60_code 5 = .ok (.invokestatic 120, 3))
theorem d_M_readOnce_8 : m_D k_M_readOnce 8 (.ifCond .eq 12) 3 := (by decide +kernel : decode prog_14_method_60_code 8 = .ok (.ifCond .eq 12, 3))
theorem d_M_readOnce_11 : m_D k_M_readOnce 11 (.aload_n 0) 1 := (by decide +kernel : decode prog_14_method_60_code 11 = .ok (.aload_n 0, 1))
theorem d_M_readOnce_12 : m_D k_M_readOnce 12 (.iconst 5) 1 := (by decide +kernel : decode prog_14_method_60_code 12 = .ok (.iconst 5, 1))
theorem d_M_readOnce_13 : m_D k_M_readOnce 13 (.aload_n 0) 1 := (by decide +kernel : decode prog_14_method_60_code 13 = .ok (.aload_n 0, 1))
theorem d_M_readOnce_14 : m_D k_M_readOnce 14 (.getfield 130) 3 := (by decide +kernel : decode prog_14_method_60_code 14 = .ok (.getfield 130, 3))
theorem d_M_readOnce_17 : m_D k_M_readOnce 17 (.invokevirtual 224) 3 := (by decide +kernel : decode prog_14_method_60_code 17 = .ok (.invokevirtual 224, 3))
theorem d_M_readOnce_20 : m_D k_M_readOnce 20 (.aload_n 0) 1 := (by decide +kernel : decode prog_14_method_60_code 20 = .ok (.aload_n 0, 1))
theorem d_M_readOnce_21 : m_D k_M_readOnce 21 (.getfield 218) 3 := (by decide +kernel : decode prog_14_method_60_code 21 = .ok (.getfield 218, 3))
theorem d_M_readOnce_24 : m_D k_M_readOnce 24 (.ifCond .le 4) 3 := (by decide +kernel : decode prog_14_method_60_code 24 = .ok (.ifCond .le 4, 3))
theorem d_M_readOnce_27 : m_D k_M_readOnce 27 (.return_) 1 := (by decide +kernel : decode prog_14_method_60_code 27 = .ok (.return_, 1))
theorem d_M_readOnce_28 : m_D k_M_readOnce 28 (.aload_n 0) 1 := (by decide +kernel : decode prog_14_method_60_code 28 = .ok (.aload_n 0, 1))
theorem d_M_readOnce_29 : m_D k_M_readOnce 29 (.dup) 1 := (by decide +kernel : decode prog_14_method_60_code 29 = .ok (.dup, 1))
theorem d_M_readOnce_30 : m_D k_M_readOnce 30 (.getfield 256) 3 := (by decide +kernel : decode prog_14_method_60_code 30 = .ok (.getfield 256, 3))
theorem d_M_readOnce_33 : m_D k_M_readOnce 33 (.iconst 1) 1 := (by decide +kernel : decode prog_14_method_60_code 33 = .ok (.iconst 1, 1))
theorem d_M_readOnce_34 : m_D k_M_readOnce 34 (.iload_n 1) 1 := (by decide +kernel : decode prog_14_method_60_code 34 = .ok (.iload_n 1, 1))
theorem d_M_readOnce_35 : m_D k_M_readOnce 35 (.ishl) 1 := (by decide +kernel : decode prog_14_method_60_code 35 = .ok (.ishl, 1))
theorem d_M_readOnce_36 : m_D k_M_readOnce 36 (.ior) 1 := (by decide +kernel : decode prog_14_method_60_code 36 = .ok (.ior, 1))
theorem d_M_readOnce_37 : m_D k_M_readOnce 37 (.putfield 256) 3 := (by decide +kernel : decode prog_14_method_60_code 37 = .ok (.putfield 256, 3))
theorem d_M_readOnce_40 : m_D k_M_readOnce 40 (.aload_n 0) 1 := (by decide +kernel : decode prog_14_method_60_code 40 = .ok (.aload_n 0, 1))
theorem d_M_readOnce_41 : m_D k_M_readOnce 41 (.invokevirtual 228) 3 := (by decide +kernel : decode prog_14_method_60_code 41 = .ok (.invokevirtual 228, 3))
theorem d_M_readOnce_44 : m_D k_M_readOnce 44 (.aload_n 0) 1 := (by decide +kernel : decode prog_14_method_60_code 44 = .ok (.aload_n 0, 1))
theorem d_M_readOnce_45 : m_D k_M_readOnce 45 (.getfield 35) 3 := (by decide +kernel : decode prog_14_method_60_code 45 = .ok (.getfield 35, 3))
theorem d_M_readOnce_48 : m_D k_M_readOnce 48 (.sipush 1508) 3 := (by decide +kernel : decode prog_14_method_60_code 48 = .ok (.sipush 1508, 3))
theorem d_M_readOnce_51 : m_D k_M_readOnce 51 (.iload_n 1) 1 := (by decide +kernel : decode prog_14_method_60_code 51 = .ok (.iload_n 1, 1))
theorem d_M_readOnce_52 : m_D k_M_readOnce 52 (.iadd) 1 := (by decide +kernel : decode prog_14_method_60_code 52 = .ok (.iadd, 1))
theorem d_M_readOnce_53 : m_D k_M_readOnce 53 (.aload_n 0) 1 := (by decide +kernel : decode prog_14_method_60_code 53 = .ok (.aload_n 0, 1))
theorem d_M_readOnce_54 : m_D k_M_readOnce 54 (.iload_n 2) 1 := (by decide +kernel : decode prog_14_method_60_code 54 = .ok (.iload_n 2, 1))
theorem d_M_readOnce_55 : m_D k_M_readOnce 55 (.iload_n 3) 1 := (by decide +kernel : decode prog_14_method_60_code 55 = .ok (.iload_n 3, 1))
theorem d_M_readOnce_56 : m_D k_M_readOnce 56 (.invokevirtual 238) 3 := (by decide +kernel : decode prog_14_method_60_code 56 = .ok (.invokevirtual 238, 3))
theorem d_M_readOnce_59 : m_D k_M_readOnce 59 (.iastore) 1 := (by decide +kernel : decode prog_14_method_60_code 59 = .ok (.iastore, 1))
theorem d_M_readOnce_60 : m_D k_M_readOnce 60 (.return_) 1 := (by decide +kernel : decode prog_14_method_60_code 60 = .ok (.return_, 1))
def fn_M_readOnce (x0 : Option mA) (x1 : Int32) (x2 : Int32) (x3 : Int32) : mP Unit :=
  m_th 11 x0 <|
  m_bd (m_gI 11 25 x0) fun v1 =>
  m_bd (fn_M_has v1 x1) fun v2 =>
  m_bd (α := Unit) (
    if v2 = 0 then
      m_rt ()
    else
      m_bd (m_gI 11 15 x0) fun v3 =>
      m_bd (fn_M_fail x0 5 v3) fun _ =>
      m_rt ()
    ) fun (t4 : Unit) =>
  m_bd (m_gI 11 12 x0) fun v5 =>
  if v5 ≤ 0 then
    m_bd (m_gI 11 25 x0) fun v6 =>
    m_bd (m_pI 11 25 x0 (v6 ||| (1 <<< (x1 &&& 31)))) fun _ =>
    m_bd (fn_M_advance x0) fun _ =>
    m_bd (m_gR 11 20 x0) fun v7 =>
    m_bd (fn_M_count x0 x2 x3) fun v8 =>
    m_bd (m_tI 0 v7 (1508 + x1) v8) fun _ =>
    m_rt ()
  else
    m_rt ()
set_option maxHeartbeats 4000000 in
set_option maxRecDepth 100000 in
theorem sd_M_readOnce (x0 : Option mA) (x1 : Int32) (x2 : Int32) (x3 : Int32) : m_Sm k_M_readOnce 4 0 0 [.inr (.inr x0), .inl x1, .inl x2, .inl x3] (fn_M_readOnce x0 x1 x2 x3) (fun _ => none) := by
  refine ⟨Nat.le_of_ble_eq_true rfl, ?_⟩
  refine sm_th ?_
  refine sm_aload_n (i := 0) (j := 0) (pc' := 1) d_M_readOnce_0 rfl rfl rfl ?_
  refine sm_getI (pc' := 4) d_M_readOnce_1 rfl fl_M_256 rfl ⟨by decide, by decide⟩ (fun v1 => ?_)
  refine sm_iload_n (i := 1) (j := 1) (pc' := 5) d_M_readOnce_4 rfl rfl rfl ?_
  refine sm_callSi (av := [.inl v1, .inl x1]) (st := []) (mc := 0) (ms := 0) (pc' := 8) d_M_readOnce_5 rfl (sd_M_has v1 x1) cs_M_has w_ml_M_120 rfl rfl (by decide) (Nat.le_of_ble_eq_true rfl) rfl rfl (fun v2 => ?_)
  refine sm_bd (mid := fun (t4 : Unit) => .inl (20, [(0, .inr (.inr x0)), (1, .inl x1), (2, .inl x2), (3, .inl x3)], [])) ?_ (fun t4 => ?_)
  · refine sm_if_eq (tgt := 20) (pc' := 11) d_M_readOnce_8 rfl rfl ?_ ?_
    · refine sm_sub [0, 1, 2, 3] rfl ?_
      exact sm_rt rfl
    · refine sm_aload_n (i := 0) (j := 0) (pc' := 12) d_M_readOnce_11 rfl rfl rfl (sm_iconst (pc' := 13) d_M_readOnce_12 rfl ic_5 (sm_aload_n (i := 0) (j := 0) (pc' := 14) d_M_readOnce_13 rfl rfl rfl ?_))
      refine sm_getI (pc' := 17) d_M_readOnce_14 rfl fl_M_130 rfl ⟨by decide, by decide⟩ (fun v3 => ?_)
      refine sm_callVv (ci := 11) (x := x0) (av := [.inl 5, .inl v3]) (st := []) (mc := 0) (ms := 0) (pc' := 20) d_M_readOnce_17 rfl (sd_M_fail x0 5 v3) m_lv rfl cv_M_fail w_ml_M_224 rfl rfl (by decide) (Nat.le_of_ble_eq_true rfl) rfl rfl ?_
      refine sm_sub [0, 1, 2, 3] rfl ?_
      exact sm_rt rfl
  · refine sm_aload_n (i := 0) (j := 0) (pc' := 21) d_M_readOnce_20 rfl rfl rfl ?_
    refine sm_getI (pc' := 24) d_M_readOnce_21 rfl fl_M_218 rfl ⟨by decide, by decide⟩ (fun v5 => ?_)
    refine sm_if_le (tgt := 28) (pc' := 27) d_M_readOnce_24 rfl rfl ?_ ?_
    · refine sm_aload_n (i := 0) (j := 0) (pc' := 29) d_M_readOnce_28 rfl rfl rfl (sm_dup (pc' := 30) d_M_readOnce_29 rfl rfl ?_)
      refine sm_getI (pc' := 33) d_M_readOnce_30 rfl fl_M_256 rfl ⟨by decide, by decide⟩ (fun v6 => ?_)
      refine sm_iconst (pc' := 34) d_M_readOnce_33 rfl ic_1 (sm_iload_n (i := 1) (j := 1) (pc' := 35) d_M_readOnce_34 rfl rfl rfl (sm_ishl (pc' := 36) d_M_readOnce_35 rfl (sm_ior (pc' := 37) d_M_readOnce_36 rfl (sm_putI (pc' := 40) d_M_readOnce_37 rfl fl_M_256 (Or.inl rfl) rfl (sm_aload_n (i := 0) (j := 0) (pc' := 41) d_M_readOnce_40 rfl rfl rfl ?_)))))
      refine sm_callVv (ci := 11) (x := x0) (av := []) (st := []) (mc := 0) (ms := 0) (pc' := 44) d_M_readOnce_41 rfl (sd_M_advance x0) m_lv rfl cv_M_advance w_ml_M_228 rfl rfl (by decide) (Nat.le_of_ble_eq_true rfl) rfl rfl ?_
      refine sm_aload_n (i := 0) (j := 0) (pc' := 45) d_M_readOnce_44 rfl rfl rfl ?_
      refine sm_getR (pc' := 48) d_M_readOnce_45 rfl fl_M_35 rfl rfl (fun v7 => ?_)
      refine sm_sipush (pc' := 51) d_M_readOnce_48 rfl is_1508 (sm_iload_n (i := 1) (j := 1) (pc' := 52) d_M_readOnce_51 rfl rfl rfl (sm_iadd (pc' := 53) d_M_readOnce_52 rfl (sm_aload_n (i := 0) (j := 0) (pc' := 54) d_M_readOnce_53 rfl rfl rfl (sm_iload_n (i := 2) (j := 2) (pc' := 55) d_M_readOnce_54 rfl rfl rfl (sm_iload_n (i := 3) (j := 3) (pc' := 56) d_M_readOnce_55 rfl rfl rfl ?_)))))
      refine sm_callVi (ci := 11) (x := x0) (av := [.inl x2, .inl x3]) (st := [.inl (1508 + x1), .inr (.inr v7)]) (mc := 0) (ms := 0) (pc' := 59) d_M_readOnce_56 rfl (sd_M_count x0 x2 x3) m_lv rfl cv_M_count w_ml_M_238 rfl rfl (by decide) (Nat.le_of_ble_eq_true rfl) rfl rfl (fun v8 => ?_)
      refine sm_iast (pc' := 60) d_M_readOnce_59 rfl ?_
      exact sm_return d_M_readOnce_60 rfl rfl
    · exact sm_return d_M_readOnce_27 rfl rfl
theorem d_M_behindWord_0 : m_D k_M_behindWord 0 (.aload_n 0) 1 := (by decide +kernel : decode prog_14_method_49_code 0 = .ok (.aload_n 0, 1))
theorem d_M_behindWord_1 : m_D k_M_behindWord 1 (.iload_n 1) 1 := (by decide +kernel : decode prog_14_method_49_code 1 = .ok (.iload_n 1, 1))
theorem d_M_behindWord_2 : m_D k_M_behindWord 2 (.invokevirtual 234) 3 := (by decide +kernel : decode prog_14_method_49_code 2 = .ok (.invokevirtual 234, 3))
theorem d_M_behindWord_5 : m_D k_M_behindWord 5 (.aload_n 0) 1 := (by decide +kernel : decode prog_14_method_49_code 5 = .ok (.aload_n 0, 1))
theorem d_M_behindWord_6 : m_D k_M_behindWord 6 (.iload_n 2) 1 := (by decide +kernel : decode prog_14_method_49_code 6 = .ok (.iload_n 2, 1))
theorem d_M_behindWord_7 : m_D k_M_behindWord 7 (.iload_n 3) 1 := (by decide +kernel : decode prog_14_method_49_code 7 = .ok (.iload_n 3, 1))
theorem d_M_behindWord_8 : m_D k_M_behindWord 8 (.invokevirtual 238) 3 := (by decide +kernel : decode prog_14_method_49_code 8 = .ok (.invokevirtual 238, 3))
theorem d_M_behindWord_11 : m_D k_M_behindWord 11 (.ireturn) 1 := (by decide +kernel : decode prog_14_method_49_code 11 = .ok (.ireturn, 1))
def fn_M_behindWord (x0 : Option mA) (x1 : Int32) (x2 : Int32) (x3 : Int32) : mP Int32 :=
  m_th 11 x0 <|
  m_bd (fn_M_must x0 x1) fun _ =>
  m_bd (fn_M_count x0 x2 x3) fun v1 =>
  m_rt v1
set_option maxHeartbeats 4000000 in
set_option maxRecDepth 100000 in
theorem sd_M_behindWord (x0 : Option mA) (x1 : Int32) (x2 : Int32) (x3 : Int32) : m_Sm k_M_behindWord 4 0 0 [.inr (.inr x0), .inl x1, .inl x2, .inl x3] (fn_M_behindWord x0 x1 x2 x3) (fun b => some (.inl b)) := by
  refine ⟨Nat.le_of_ble_eq_true rfl, ?_⟩
  refine sm_th ?_
  refine sm_aload_n (i := 0) (j := 0) (pc' := 1) d_M_behindWord_0 rfl rfl rfl (sm_iload_n (i := 1) (j := 1) (pc' := 2) d_M_behindWord_1 rfl rfl rfl ?_)
  refine sm_callVv (ci := 11) (x := x0) (av := [.inl x1]) (st := []) (mc := 0) (ms := 0) (pc' := 5) d_M_behindWord_2 rfl (sd_M_must x0 x1) m_lv rfl cv_M_must w_ml_M_234 rfl rfl (by decide) (Nat.le_of_ble_eq_true rfl) rfl rfl ?_
  refine sm_aload_n (i := 0) (j := 0) (pc' := 6) d_M_behindWord_5 rfl rfl rfl (sm_iload_n (i := 2) (j := 2) (pc' := 7) d_M_behindWord_6 rfl rfl rfl (sm_iload_n (i := 3) (j := 3) (pc' := 8) d_M_behindWord_7 rfl rfl rfl ?_))
  refine sm_callVi (ci := 11) (x := x0) (av := [.inl x2, .inl x3]) (st := []) (mc := 0) (ms := 0) (pc' := 11) d_M_behindWord_8 rfl (sd_M_count x0 x2 x3) m_lv rfl cv_M_count w_ml_M_238 rfl rfl (by decide) (Nat.le_of_ble_eq_true rfl) rfl rfl (fun v1 => ?_)
  exact sm_ireturn d_M_behindWord_11 rfl rfl
theorem d_M_perhaps_0 : m_D k_M_perhaps 0 (.aload_n 0) 1 := (by decide +kernel : decode prog_14_method_50_code 0 = .ok (.aload_n 0, 1))
theorem d_M_perhaps_1 : m_D k_M_perhaps 1 (.getfield 218) 3 := (by decide +kernel : decode prog_14_method_50_code 1 = .ok (.getfield 218, 3))
theorem d_M_perhaps_4 : m_D k_M_perhaps 4 (.ifCond .gt 7) 3 := (by decide +kernel : decode prog_14_method_50_code 4 = .ok (.ifCond .gt 7, 3))
theorem d_M_perhaps_7 : m_D k_M_perhaps 7 (.iload_n 1) 1 := (by decide +kernel : decode prog_14_method_50_code 7 = .ok (.iload_n 1, 1))
theorem d_M_perhaps_8 : m_D k_M_perhaps 8 (.ifCond .ne 5) 3 := (by decide +kernel : decode prog_14_method_50_code 8 = .ok (.ifCond .ne 5, 3))
theorem d_M_perhaps_11 : m_D k_M_perhaps 11 (.iconst 0) 1 := (by decide +kernel : decode prog_14_method_50_code 11 = .ok (.iconst 0, 1))
theorem d_M_perhaps_12 : m_D k_M_perhaps 12 (.ireturn) 1 := (by decide +kernel : decode prog_14_method_50_code 12 = .ok (.ireturn, 1))
theorem d_M_perhaps_13 : m_D k_M_perhaps 13 (.aload_n 0) 1 := (by decide +kernel : decode prog_14_method_50_code 13 = .ok (.aload_n 0, 1))
theorem d_M_perhaps_14 : m_D k_M_perhaps 14 (.invokevirtual 228) 3 := (by decide +kernel : decode prog_14_method_50_code 14 = .ok (.invokevirtual 228, 3))
theorem d_M_perhaps_17 : m_D k_M_perhaps 17 (.iconst 1) 1 := (by decide +kernel : decode prog_14_method_50_code 17 = .ok (.iconst 1, 1))
theorem d_M_perhaps_18 : m_D k_M_perhaps 18 (.ireturn) 1 := (by decide +kernel : decode prog_14_method_50_code 18 = .ok (.ireturn, 1))
def fn_M_perhaps (x0 : Option mA) (x1 : Int32) : mP Int32 :=
  m_th 11 x0 <|
  m_bd (m_gI 11 12 x0) fun v1 =>
  if 0 < v1 then
    m_rt 0
  else
    if x1 = 0 then
      m_rt 0
    else
      m_bd (fn_M_advance x0) fun _ =>
      m_rt 1
set_option maxHeartbeats 4000000 in
set_option maxRecDepth 100000 in
theorem sd_M_perhaps (x0 : Option mA) (x1 : Int32) : m_Sm k_M_perhaps 3 0 0 [.inr (.inr x0), .inl x1] (fn_M_perhaps x0 x1) (fun b => some (.inl b)) := by
  refine ⟨Nat.le_of_ble_eq_true rfl, ?_⟩
  refine sm_th ?_
  refine sm_aload_n (i := 0) (j := 0) (pc' := 1) d_M_perhaps_0 rfl rfl rfl ?_
  refine sm_getI (pc' := 4) d_M_perhaps_1 rfl fl_M_218 rfl ⟨by decide, by decide⟩ (fun v1 => ?_)
  refine sm_if_gt (tgt := 11) (pc' := 7) d_M_perhaps_4 rfl rfl ?_ ?_
  · refine sm_iconst (pc' := 12) d_M_perhaps_11 rfl ic_0 ?_
    exact sm_zreturn d_M_perhaps_12 rfl (by decide) rfl
  · refine sm_iload_n (i := 1) (j := 1) (pc' := 8) d_M_perhaps_7 rfl rfl rfl ?_
    refine sm_if_ne (tgt := 13) (pc' := 11) d_M_perhaps_8 rfl rfl ?_ ?_
    · refine sm_aload_n (i := 0) (j := 0) (pc' := 14) d_M_perhaps_13 rfl rfl rfl ?_
      refine sm_callVv (ci := 11) (x := x0) (av := []) (st := []) (mc := 0) (ms := 0) (pc' := 17) d_M_perhaps_14 rfl (sd_M_advance x0) m_lv rfl cv_M_advance w_ml_M_228 rfl rfl (by decide) (Nat.le_of_ble_eq_true rfl) rfl rfl ?_
      refine sm_iconst (pc' := 18) d_M_perhaps_17 rfl ic_1 ?_
      exact sm_zreturn d_M_perhaps_18 rfl (by decide) rfl
    · refine sm_iconst (pc' := 12) d_M_perhaps_11 rfl ic_0 ?_
      exact sm_zreturn d_M_perhaps_12 rfl (by decide) rfl
theorem d_M_readNew_0 : m_D k_M_readNew 0 (.aload_n 0) 1 := (by decide +kernel : decode prog_14_method_58_code 0 = .ok (.aload_n 0, 1))
theorem d_M_readNew_1 : m_D k_M_readNew 1 (.getfield 35) 3 := (by decide +kernel : decode prog_14_method_58_code 1 = .ok (.getfield 35, 3))
theorem d_M_readNew_4 : m_D k_M_readNew 4 (.sipush 1508) 3 := (by decide +kernel : decode prog_14_method_58_code 4 = .ok (.sipush 1508, 3))
theorem d_M_readNew_7 : m_D k_M_readNew 7 (.iload_n 1) 1 := (by decide +kernel : decode prog_14_method_58_code 7 = .ok (.iload_n 1, 1))
theorem d_M_readNew_8 : m_D k_M_readNew 8 (.iadd) 1 := (by decide +kernel : decode prog_14_method_58_code 8 = .ok (.iadd, 1))
theorem d_M_readNew_9 : m_D k_M_readNew 9 (.iaload) 1 := (by decide +kernel : decode prog_14_method_58_code 9 = .ok (.iaload, 1))
theorem d_M_readNew_10 : m_D k_M_readNew 10 (.istore_n 3) 1 := (by decide +kernel : decode prog_14_method_58_code 10 = .ok (.istore_n 3, 1))
theorem d_M_readNew_11 : m_D k_M_readNew 11 (.iload_n 3) 1 := (by decide +kernel : decode prog_14_method_58_code 11 = .ok (.iload_n 3, 1))
theorem d_M_readNew_12 : m_D k_M_readNew 12 (.iload_n 2) 1 := (by decide +kernel : decode prog_14_method_58_code 12 = .ok (.iload_n 2, 1))
theorem d_M_readNew_13 : m_D k_M_readNew 13 (.if_icmp .ne 13) 3 := (by decide +kernel : decode prog_14_method_58_code 13 = .ok (.if_icmp .ne 13, 3))
theorem d_M_readNew_16 : m_D k_M_readNew 16 (.aload_n 0) 1 := (by decide +kernel : decode prog_14_method_58_code 16 = .ok (.aload_n 0, 1))
theorem d_M_readNew_17 : m_D k_M_readNew 17 (.bipush 6) 2 := (by decide +kernel : decode prog_14_method_58_code 17 = .ok (.bipush 6, 2))
theorem d_M_readNew_19 : m_D k_M_readNew 19 (.aload_n 0) 1 := (by decide +kernel : decode prog_14_method_58_code 19 = .ok (.aload_n 0, 1))
theorem d_M_readNew_20 : m_D k_M_readNew 20 (.getfield 130) 3 := (by decide +kernel : decode prog_14_method_58_code 20 = .ok (.getfield 130, 3))
theorem d_M_readNew_23 : m_D k_M_readNew 23 (.invokevirtual 224) 3 := (by decide +kernel : decode prog_14_method_58_code 23 = .ok (.invokevirtual 224, 3))
theorem d_M_readNew_26 : m_D k_M_readNew 26 (.aload_n 0) 1 := (by decide +kernel : decode prog_14_method_58_code 26 = .ok (.aload_n 0, 1))
theorem d_M_readNew_27 : m_D k_M_readNew 27 (.getfield 218) 3 := (by decide +kernel : decode prog_14_method_58_code 27 = .ok (.getfield 218, 3))
theorem d_M_readNew_30 : m_D k_M_readNew 30 (.ifCond .le 5) 3 := (by decide +kernel : decode prog_14_method_58_code 30 = .ok (.ifCond .le 5, 3))
theorem d_M_readNew_33 : m_D k_M_readNew 33 (.iconst 0) 1 := (by decide +kernel : decode prog_14_method_58_code 33 = .ok (.iconst 0, 1))
theorem d_M_readNew_34 : m_D k_M_readNew 34 (.ireturn) 1 := (by decide +kernel : decode prog_14_method_58_code 34 = .ok (.ireturn, 1))
theorem d_M_readNew_35 : m_D k_M_readNew 35 (.aload_n 0) 1 := (by decide +kernel : decode prog_14_method_58_code 35 = .ok (.aload_n 0, 1))
theorem d_M_readNew_36 : m_D k_M_readNew 36 (.invokevirtual 228) 3 := (by decide +kernel : decode prog_14_method_58_code 36 = .ok (.invokevirtual 228, 3))
theorem d_M_readNew_39 : m_D k_M_readNew 39 (.aload_n 0) 1 := (by decide +kernel : decode prog_14_method_58_code 39 = .ok (.aload_n 0, 1))
theorem d_M_readNew_40 : m_D k_M_readNew 40 (.invokevirtual 247) 3 := (by decide +kernel : decode prog_14_method_58_code 40 = .ok (.invokevirtual 247, 3))
theorem d_M_readNew_43 : m_D k_M_readNew 43 (.ifCond .ne 7) 3 := (by decide +kernel : decode prog_14_method_58_code 43 = .ok (.ifCond .ne 7, 3))
theorem d_M_readNew_46 : m_D k_M_readNew 46 (.aload_n 0) 1 := (by decide +kernel : decode prog_14_method_58_code 46 = .ok (.aload_n 0, 1))
theorem d_M_readNew_47 : m_D k_M_readNew 47 (.invokevirtual 231) 3 := (by decide +kernel : decode prog_14_method_58_code 47 = .ok (.invokevirtual 231, 3))
theorem d_M_readNew_50 : m_D k_M_readNew 50 (.aload_n 0) 1 := (by decide +kernel : decode prog_14_method_58_code 50 = .ok (.aload_n 0, 1))
theorem d_M_readNew_51 : m_D k_M_readNew 51 (.getfield 218) 3 := (by decide +kernel : decode prog_14_method_58_code 51 = .ok (.getfield 218, 3))
theorem d_M_readNew_54 : m_D k_M_readNew 54 (.ifCond .ne 30) 3 := (by decide +kernel : decode prog_14_method_58_code 54 = .ok (.ifCond .ne 30, 3))
theorem d_M_readNew_57 : m_D k_M_readNew 57 (.aload_n 0) 1 := (by decide +kernel : decode prog_14_method_58_code 57 = .ok (.aload_n 0, 1))
theorem d_M_readNew_58 : m_D k_M_readNew 58 (.iconst 4) 1 := (by decide +kernel : decode prog_14_method_58_code 58 = .ok (.iconst 4, 1))
theorem d_M_readNew_59 : m_D k_M_readNew 59 (.iconst 0) 1 := (by decide +kernel : decode prog_14_method_58_code 59 = .ok (.iconst 0, 1))
theorem d_M_readNew_60 : m_D k_M_readNew 60 (.invokevirtual 250) 3 := (by decide +kernel : decode prog_14_method_58_code 60 = .ok (.invokevirtual 250, 3))
theorem d_M_readNew_63 : m_D k_M_readNew 63 (.ifCond .ge 12) 3 := (by decide +kernel : decode prog_14_method_58_code 63 = .ok (.ifCond .ge 12, 3))
theorem d_M_readNew_66 : m_D k_M_readNew 66 (.aload_n 0) 1 := (by decide +kernel : decode prog_14_method_58_code 66 = .ok (.aload_n 0, 1))
theorem d_M_readNew_67 : m_D k_M_readNew 67 (.iconst 4) 1 := (by decide +kernel : decode prog_14_method_58_code 67 = .ok (.iconst 4, 1))
theorem d_M_readNew_68 : m_D k_M_readNew 68 (.iconst 1) 1 := (by decide +kernel : decode prog_14_method_58_code 68 = .ok (.iconst 1, 1))
theorem d_M_readNew_69 : m_D k_M_readNew 69 (.invokevirtual 250) 3 := (by decide +kernel : decode prog_14_method_58_code 69 = .ok (.invokevirtual 250, 3))
theorem d_M_readNew_72 : m_D k_M_readNew 72 (.ifCond .lt 12) 3 := (by decide +kernel : decode prog_14_method_58_code 72 = .ok (.ifCond .lt 12, 3))
theorem d_M_readNew_75 : m_D k_M_readNew 75 (.aload_n 0) 1 := (by decide +kernel : decode prog_14_method_58_code 75 = .ok (.aload_n 0, 1))
theorem d_M_readNew_76 : m_D k_M_readNew 76 (.iconst 3) 1 := (by decide +kernel : decode prog_14_method_58_code 76 = .ok (.iconst 3, 1))
theorem d_M_readNew_77 : m_D k_M_readNew 77 (.aload_n 0) 1 := (by decide +kernel : decode prog_14_method_58_code 77 = .ok (.aload_n 0, 1))
theorem d_M_readNew_78 : m_D k_M_readNew 78 (.getfield 130) 3 := (by decide +kernel : decode prog_14_method_58_code 78 = .ok (.getfield 130, 3))
theorem d_M_readNew_81 : m_D k_M_readNew 81 (.invokevirtual 224) 3 := (by decide +kernel : decode prog_14_method_58_code 81 = .ok (.invokevirtual 224, 3))
theorem d_M_readNew_84 : m_D k_M_readNew 84 (.aload_n 0) 1 := (by decide +kernel : decode prog_14_method_58_code 84 = .ok (.aload_n 0, 1))
theorem d_M_readNew_85 : m_D k_M_readNew 85 (.getfield 218) 3 := (by decide +kernel : decode prog_14_method_58_code 85 = .ok (.getfield 218, 3))
theorem d_M_readNew_88 : m_D k_M_readNew 88 (.ifCond .le 5) 3 := (by decide +kernel : decode prog_14_method_58_code 88 = .ok (.ifCond .le 5, 3))
theorem d_M_readNew_91 : m_D k_M_readNew 91 (.iconst 0) 1 := (by decide +kernel : decode prog_14_method_58_code 91 = .ok (.iconst 0, 1))
theorem d_M_readNew_92 : m_D k_M_readNew 92 (.ireturn) 1 := (by decide +kernel : decode prog_14_method_58_code 92 = .ok (.ireturn, 1))
theorem d_M_readNew_93 : m_D k_M_readNew 93 (.aload_n 0) 1 := (by decide +kernel : decode prog_14_method_58_code 93 = .ok (.aload_n 0, 1))
theorem d_M_readNew_94 : m_D k_M_readNew 94 (.getfield 44) 3 := (by decide +kernel : decode prog_14_method_58_code 94 = .ok (.getfield 44, 3))
theorem d_M_readNew_97 : m_D k_M_readNew 97 (.bipush 56) 2 := (by decide +kernel : decode prog_14_method_58_code 97 = .ok (.bipush 56, 2))
theorem d_M_readNew_99 : m_D k_M_readNew 99 (.bipush 6) 2 := (by decide +kernel : decode prog_14_method_58_code 99 = .ok (.bipush 6, 2))
theorem d_M_readNew_101 : m_D k_M_readNew 101 (.iload_n 1) 1 := (by decide +kernel : decode prog_14_method_58_code 101 = .ok (.iload_n 1, 1))
theorem d_M_readNew_102 : m_D k_M_readNew 102 (.imul) 1 := (by decide +kernel : decode prog_14_method_58_code 102 = .ok (.imul, 1))
theorem d_M_readNew_103 : m_D k_M_readNew 103 (.iadd) 1 := (by decide +kernel : decode prog_14_method_58_code 103 = .ok (.iadd, 1))
theorem d_M_readNew_104 : m_D k_M_readNew 104 (.iload_n 3) 1 := (by decide +kernel : decode prog_14_method_58_code 104 = .ok (.iload_n 3, 1))
theorem d_M_readNew_105 : m_D k_M_readNew 105 (.iadd) 1 := (by decide +kernel : decode prog_14_method_58_code 105 = .ok (.iadd, 1))
theorem d_M_readNew_106 : m_D k_M_readNew 106 (.aload_n 0) 1 := (by decide +kernel : decode prog_14_method_58_code 106 = .ok (.aload_n 0, 1))
theorem d_M_readNew_107 : m_D k_M_readNew 107 (.getfield 142) 3 := (by decide +kernel : decode prog_14_method_58_code 107 = .ok (.getfield 142, 3))
theorem d_M_readNew_110 : m_D k_M_readNew 110 (.lastore) 1 := (by decide +kernel : decode prog_14_method_58_code 110 = .ok (.lastore, 1))
theorem d_M_readNew_111 : m_D k_M_readNew 111 (.aload_n 0) 1 := (by decide +kernel : decode prog_14_method_58_code 111 = .ok (.aload_n 0, 1))
theorem d_M_readNew_112 : m_D k_M_readNew 112 (.invokevirtual 228) 3 := (by decide +kernel : decode prog_14_method_58_code 112 = .ok (.invokevirtual 228, 3))
theorem d_M_readNew_115 : m_D k_M_readNew 115 (.iload_n 3) 1 := (by decide +kernel : decode prog_14_method_58_code 115 = .ok (.iload_n 3, 1))
theorem d_M_readNew_116 : m_D k_M_readNew 116 (.ireturn) 1 := (by decide +kernel : decode prog_14_method_58_code 116 = .ok (.ireturn, 1))
def fn_M_readNew (x0 : Option mA) (x1 : Int32) (x2 : Int32) : mP Int32 :=
  m_th 11 x0 <|
  m_bd (m_gR 11 20 x0) fun v1 =>
  m_bd (m_aI 0 v1 (1508 + x1)) fun v2 =>
  m_bd (α := Unit) (
    if v2 = x2 then
      m_bd (m_gI 11 15 x0) fun v3 =>
      m_bd (fn_M_fail x0 6 v3) fun _ =>
      m_rt ()
    else
      m_rt ()
    ) fun (t4 : Unit) =>
  m_bd (m_gI 11 12 x0) fun v5 =>
  if v5 ≤ 0 then
    m_bd (fn_M_advance x0) fun _ =>
    m_bd (fn_M_isName x0) fun v6 =>
    m_bd (α := Unit) (
      if v6 = 0 then
        m_bd (fn_M_amiss x0) fun _ =>
        m_rt ()
      else
        m_rt ()
      ) fun (t7 : Unit) =>
    m_bd (m_gI 11 12 x0) fun v8 =>
    m_bd (α := Unit) (
      if v8 = 0 then
        m_bd (fn_M_named x0 4 0) fun v9 =>
        if 0 ≤ v9 then
          m_bd (m_gI 11 15 x0) fun v10 =>
          m_bd (fn_M_fail x0 3 v10) fun _ =>
          m_rt ()
        else
          m_bd (fn_M_named x0 4 1) fun v11 =>
          if v11 < 0 then
            m_rt ()
          else
            m_bd (m_gI 11 15 x0) fun v12 =>
            m_bd (fn_M_fail x0 3 v12) fun _ =>
            m_rt ()
      else
        m_rt ()
      ) fun (t13 : Unit) =>
    m_bd (m_gI 11 12 x0) fun v14 =>
    if v14 ≤ 0 then
      m_bd (m_gR 11 23 x0) fun v15 =>
      m_bd (m_gJ 11 19 x0) fun v16 =>
      m_bd (m_tJ v15 ((56 + (6 * x1)) + v2) v16) fun _ =>
      m_bd (fn_M_advance x0) fun _ =>
      m_rt v2
    else
      m_rt 0
  else
    m_rt 0
set_option maxHeartbeats 4000000 in
set_option maxRecDepth 100000 in
theorem sd_M_readNew (x0 : Option mA) (x1 : Int32) (x2 : Int32) : m_Sm k_M_readNew 6 0 0 [.inr (.inr x0), .inl x1, .inl x2] (fn_M_readNew x0 x1 x2) (fun b => some (.inl b)) := by
  refine ⟨Nat.le_of_ble_eq_true rfl, ?_⟩
  refine sm_th ?_
  refine sm_aload_n (i := 0) (j := 0) (pc' := 1) d_M_readNew_0 rfl rfl rfl ?_
  refine sm_getR (pc' := 4) d_M_readNew_1 rfl fl_M_35 rfl rfl (fun v1 => ?_)
  refine sm_sipush (pc' := 7) d_M_readNew_4 rfl is_1508 (sm_iload_n (i := 1) (j := 1) (pc' := 8) d_M_readNew_7 rfl rfl rfl (sm_iadd (pc' := 9) d_M_readNew_8 rfl ?_))
  refine sm_iald (pc' := 10) d_M_readNew_9 rfl (fun v2 => ?_)
  refine sm_istore_n (i := 3) (L' := [(3, .inl v2), (0, .inr (.inr x0)), (1, .inl x1), (2, .inl x2)]) (pc' := 11) d_M_readNew_10 rfl rfl (Nat.le_of_ble_eq_true rfl) rfl (sm_iload_n (i := 3) (j := 0) (pc' := 12) d_M_readNew_11 rfl rfl rfl (sm_iload_n (i := 2) (j := 3) (pc' := 13) d_M_readNew_12 rfl rfl rfl ?_))
  refine sm_bd (mid := fun (t4 : Unit) => .inl (26, [(0, .inr (.inr x0)), (1, .inl x1), (3, .inl v2)], [])) ?_ (fun t4 => ?_)
  · refine sm_icmp_ne (tgt := 26) (pc' := 16) d_M_readNew_13 rfl rfl ?_ ?_
    · refine sm_sub [1, 2, 0] rfl ?_
      exact sm_rt rfl
    · refine sm_aload_n (i := 0) (j := 1) (pc' := 17) d_M_readNew_16 rfl rfl rfl (sm_bipush (pc' := 19) d_M_readNew_17 rfl ib_6 (sm_aload_n (i := 0) (j := 1) (pc' := 20) d_M_readNew_19 rfl rfl rfl ?_))
      refine sm_getI (pc' := 23) d_M_readNew_20 rfl fl_M_130 rfl ⟨by decide, by decide⟩ (fun v3 => ?_)
      refine sm_callVv (ci := 11) (x := x0) (av := [.inl 6, .inl v3]) (st := []) (mc := 0) (ms := 0) (pc' := 26) d_M_readNew_23 rfl (sd_M_fail x0 6 v3) m_lv rfl cv_M_fail w_ml_M_224 rfl rfl (by decide) (Nat.le_of_ble_eq_true rfl) rfl rfl ?_
      refine sm_sub [1, 2, 0] rfl ?_
      exact sm_rt rfl
  · refine sm_aload_n (i := 0) (j := 0) (pc' := 27) d_M_readNew_26 rfl rfl rfl ?_
    refine sm_getI (pc' := 30) d_M_readNew_27 rfl fl_M_218 rfl ⟨by decide, by decide⟩ (fun v5 => ?_)
    refine sm_if_le (tgt := 35) (pc' := 33) d_M_readNew_30 rfl rfl ?_ ?_
    · refine sm_aload_n (i := 0) (j := 0) (pc' := 36) d_M_readNew_35 rfl rfl rfl ?_
      refine sm_callVv (ci := 11) (x := x0) (av := []) (st := []) (mc := 0) (ms := 0) (pc' := 39) d_M_readNew_36 rfl (sd_M_advance x0) m_lv rfl cv_M_advance w_ml_M_228 rfl rfl (by decide) (Nat.le_of_ble_eq_true rfl) rfl rfl ?_
      refine sm_aload_n (i := 0) (j := 0) (pc' := 40) d_M_readNew_39 rfl rfl rfl ?_
      refine sm_callVi (ci := 11) (x := x0) (av := []) (st := []) (mc := 0) (ms := 0) (pc' := 43) d_M_readNew_40 rfl (sd_M_isName x0) m_lv rfl cv_M_isName w_ml_M_247 rfl rfl (by decide) (Nat.le_of_ble_eq_true rfl) rfl rfl (fun v6 => ?_)
      refine sm_bd (mid := fun (t7 : Unit) => .inl (50, [(0, .inr (.inr x0)), (1, .inl x1), (3, .inl v2)], [])) ?_ (fun t7 => ?_)
      · refine sm_if_ne (tgt := 50) (pc' := 46) d_M_readNew_43 rfl rfl ?_ ?_
        · refine sm_sub [0, 1, 2] rfl ?_
          exact sm_rt rfl
        · refine sm_aload_n (i := 0) (j := 0) (pc' := 47) d_M_readNew_46 rfl rfl rfl ?_
          refine sm_callVv (ci := 11) (x := x0) (av := []) (st := []) (mc := 0) (ms := 0) (pc' := 50) d_M_readNew_47 rfl (sd_M_amiss x0) m_lv rfl cv_M_amiss w_ml_M_231 rfl rfl (by decide) (Nat.le_of_ble_eq_true rfl) rfl rfl ?_
          refine sm_sub [0, 1, 2] rfl ?_
          exact sm_rt rfl
      · refine sm_aload_n (i := 0) (j := 0) (pc' := 51) d_M_readNew_50 rfl rfl rfl ?_
        refine sm_getI (pc' := 54) d_M_readNew_51 rfl fl_M_218 rfl ⟨by decide, by decide⟩ (fun v8 => ?_)
        refine sm_bd (mid := fun (t13 : Unit) => .inl (84, [(0, .inr (.inr x0)), (1, .inl x1), (3, .inl v2)], [])) ?_ (fun t13 => ?_)
        · refine sm_if_ne (tgt := 84) (pc' := 57) d_M_readNew_54 rfl rfl ?_ ?_
          · refine sm_sub [0, 1, 2] rfl ?_
            exact sm_rt rfl
          · refine sm_aload_n (i := 0) (j := 0) (pc' := 58) d_M_readNew_57 rfl rfl rfl (sm_iconst (pc' := 59) d_M_readNew_58 rfl ic_4 (sm_iconst (pc' := 60) d_M_readNew_59 rfl ic_0 ?_))
            refine sm_callVi (ci := 11) (x := x0) (av := [.inl 4, .inl 0]) (st := []) (mc := 0) (ms := 0) (pc' := 63) d_M_readNew_60 rfl (sd_M_named x0 4 0) m_lv rfl cv_M_named w_ml_M_250 rfl rfl (by decide) (Nat.le_of_ble_eq_true rfl) rfl rfl (fun v9 => ?_)
            refine sm_if_ge (tgt := 75) (pc' := 66) d_M_readNew_63 rfl rfl ?_ ?_
            · refine sm_aload_n (i := 0) (j := 0) (pc' := 76) d_M_readNew_75 rfl rfl rfl (sm_iconst (pc' := 77) d_M_readNew_76 rfl ic_3 (sm_aload_n (i := 0) (j := 0) (pc' := 78) d_M_readNew_77 rfl rfl rfl ?_))
              refine sm_getI (pc' := 81) d_M_readNew_78 rfl fl_M_130 rfl ⟨by decide, by decide⟩ (fun v10 => ?_)
              refine sm_callVv (ci := 11) (x := x0) (av := [.inl 3, .inl v10]) (st := []) (mc := 0) (ms := 0) (pc' := 84) d_M_readNew_81 rfl (sd_M_fail x0 3 v10) m_lv rfl cv_M_fail w_ml_M_224 rfl rfl (by decide) (Nat.le_of_ble_eq_true rfl) rfl rfl ?_
              refine sm_sub [0, 1, 2] rfl ?_
              exact sm_rt rfl
            · refine sm_aload_n (i := 0) (j := 0) (pc' := 67) d_M_readNew_66 rfl rfl rfl (sm_iconst (pc' := 68) d_M_readNew_67 rfl ic_4 (sm_iconst (pc' := 69) d_M_readNew_68 rfl ic_1 ?_))
              refine sm_callVi (ci := 11) (x := x0) (av := [.inl 4, .inl 1]) (st := []) (mc := 0) (ms := 0) (pc' := 72) d_M_readNew_69 rfl (sd_M_named x0 4 1) m_lv rfl cv_M_named w_ml_M_250 rfl rfl (by decide) (Nat.le_of_ble_eq_true rfl) rfl rfl (fun v11 => ?_)
              refine sm_if_lt (tgt := 84) (pc' := 75) d_M_readNew_72 rfl rfl ?_ ?_
              · refine sm_sub [0, 1, 2] rfl ?_
                exact sm_rt rfl
              · refine sm_aload_n (i := 0) (j := 0) (pc' := 76) d_M_readNew_75 rfl rfl rfl (sm_iconst (pc' := 77) d_M_readNew_76 rfl ic_3 (sm_aload_n (i := 0) (j := 0) (pc' := 78) d_M_readNew_77 rfl rfl rfl ?_))
                refine sm_getI (pc' := 81) d_M_readNew_78 rfl fl_M_130 rfl ⟨by decide, by decide⟩ (fun v12 => ?_)
                refine sm_callVv (ci := 11) (x := x0) (av := [.inl 3, .inl v12]) (st := []) (mc := 0) (ms := 0) (pc' := 84) d_M_readNew_81 rfl (sd_M_fail x0 3 v12) m_lv rfl cv_M_fail w_ml_M_224 rfl rfl (by decide) (Nat.le_of_ble_eq_true rfl) rfl rfl ?_
                refine sm_sub [0, 1, 2] rfl ?_
                exact sm_rt rfl
        · refine sm_aload_n (i := 0) (j := 0) (pc' := 85) d_M_readNew_84 rfl rfl rfl ?_
          refine sm_getI (pc' := 88) d_M_readNew_85 rfl fl_M_218 rfl ⟨by decide, by decide⟩ (fun v14 => ?_)
          refine sm_if_le (tgt := 93) (pc' := 91) d_M_readNew_88 rfl rfl ?_ ?_
          · refine sm_aload_n (i := 0) (j := 0) (pc' := 94) d_M_readNew_93 rfl rfl rfl ?_
            refine sm_getR (pc' := 97) d_M_readNew_94 rfl fl_M_44 rfl rfl (fun v15 => ?_)
            refine sm_bipush (pc' := 99) d_M_readNew_97 rfl ib_56 (sm_bipush (pc' := 101) d_M_readNew_99 rfl ib_6 (sm_iload_n (i := 1) (j := 1) (pc' := 102) d_M_readNew_101 rfl rfl rfl (sm_imul (pc' := 103) d_M_readNew_102 rfl (sm_iadd (pc' := 104) d_M_readNew_103 rfl (sm_iload_n (i := 3) (j := 2) (pc' := 105) d_M_readNew_104 rfl rfl rfl (sm_iadd (pc' := 106) d_M_readNew_105 rfl (sm_aload_n (i := 0) (j := 0) (pc' := 107) d_M_readNew_106 rfl rfl rfl ?_)))))))
            refine sm_getJ (pc' := 110) d_M_readNew_107 rfl fl_M_142 rfl rfl (fun v16 => ?_)
            refine sm_last (pc' := 111) d_M_readNew_110 rfl (sm_aload_n (i := 0) (j := 0) (pc' := 112) d_M_readNew_111 rfl rfl rfl ?_)
            refine sm_callVv (ci := 11) (x := x0) (av := []) (st := []) (mc := 0) (ms := 0) (pc' := 115) d_M_readNew_112 rfl (sd_M_advance x0) m_lv rfl cv_M_advance w_ml_M_228 rfl rfl (by decide) (Nat.le_of_ble_eq_true rfl) rfl rfl ?_
            refine sm_iload_n (i := 3) (j := 2) (pc' := 116) d_M_readNew_115 rfl rfl rfl ?_
            exact sm_ireturn d_M_readNew_116 rfl rfl
          · refine sm_iconst (pc' := 92) d_M_readNew_91 rfl ic_0 ?_
            exact sm_ireturn d_M_readNew_92 rfl rfl
    · refine sm_iconst (pc' := 34) d_M_readNew_33 rfl ic_0 ?_
      exact sm_ireturn d_M_readNew_34 rfl rfl
theorem d_M_readPerson_0 : m_D k_M_readPerson 0 (.aload_n 0) 1 := (by decide +kernel : decode prog_14_method_61_code 0 = .ok (.aload_n 0, 1))
theorem d_M_readPerson_1 : m_D k_M_readPerson 1 (.iconst 0) 1 := (by decide +kernel : decode prog_14_method_61_code 1 = .ok (.iconst 0, 1))
theorem d_M_readPerson_2 : m_D k_M_readPerson 2 (.bipush 6) 2 := (by decide +kernel : decode prog_14_method_61_code 2 = .ok (.bipush 6, 2))
theorem d_M_readPerson_4 : m_D k_M_readPerson 4 (.invokevirtual 259) 3 := (by decide +kernel : decode prog_14_method_61_code 4 = .ok (.invokevirtual 259, 3))
theorem d_M_readPerson_7 : m_D k_M_readPerson 7 (.istore_n 1) 1 := (by decide +kernel : decode prog_14_method_61_code 7 = .ok (.istore_n 1, 1))
theorem d_M_readPerson_8 : m_D k_M_readPerson 8 (.aload_n 0) 1 := (by decide +kernel : decode prog_14_method_61_code 8 = .ok (.aload_n 0, 1))
theorem d_M_readPerson_9 : m_D k_M_readPerson 9 (.aload_n 0) 1 := (by decide +kernel : decode prog_14_method_61_code 9 = .ok (.aload_n 0, 1))
theorem d_M_readPerson_10 : m_D k_M_readPerson 10 (.invokevirtual 193) 3 := (by decide +kernel : decode prog_14_method_61_code 10 = .ok (.invokevirtual 193, 3))
theorem d_M_readPerson_13 : m_D k_M_readPerson 13 (.iconst 0) 1 := (by decide +kernel : decode prog_14_method_61_code 13 = .ok (.iconst 0, 1))
theorem d_M_readPerson_14 : m_D k_M_readPerson 14 (.bipush 119) 2 := (by decide +kernel : decode prog_14_method_61_code 14 = .ok (.bipush 119, 2))
theorem d_M_readPerson_16 : m_D k_M_readPerson 16 (.invokevirtual 262) 3 := (by decide +kernel : decode prog_14_method_61_code 16 = .ok (.invokevirtual 262, 3))
theorem d_M_readPerson_19 : m_D k_M_readPerson 19 (.istore_n 2) 1 := (by decide +kernel : decode prog_14_method_61_code 19 = .ok (.istore_n 2, 1))
theorem d_M_readPerson_20 : m_D k_M_readPerson 20 (.aload_n 0) 1 := (by decide +kernel : decode prog_14_method_61_code 20 = .ok (.aload_n 0, 1))
theorem d_M_readPerson_21 : m_D k_M_readPerson 21 (.aload_n 0) 1 := (by decide +kernel : decode prog_14_method_61_code 21 = .ok (.aload_n 0, 1))
theorem d_M_readPerson_22 : m_D k_M_readPerson 22 (.invokevirtual 196) 3 := (by decide +kernel : decode prog_14_method_61_code 22 = .ok (.invokevirtual 196, 3))
theorem d_M_readPerson_25 : m_D k_M_readPerson 25 (.invokevirtual 266) 3 := (by decide +kernel : decode prog_14_method_61_code 25 = .ok (.invokevirtual 266, 3))
theorem d_M_readPerson_28 : m_D k_M_readPerson 28 (.istore_n 3) 1 := (by decide +kernel : decode prog_14_method_61_code 28 = .ok (.istore_n 3, 1))
theorem d_M_readPerson_29 : m_D k_M_readPerson 29 (.aload_n 0) 1 := (by decide +kernel : decode prog_14_method_61_code 29 = .ok (.aload_n 0, 1))
theorem d_M_readPerson_30 : m_D k_M_readPerson 30 (.getfield 218) 3 := (by decide +kernel : decode prog_14_method_61_code 30 = .ok (.getfield 218, 3))
theorem d_M_readPerson_33 : m_D k_M_readPerson 33 (.ifCond .le 4) 3 := (by decide +kernel : decode prog_14_method_61_code 33 = .ok (.ifCond .le 4, 3))
theorem d_M_readPerson_36 : m_D k_M_readPerson 36 (.return_) 1 := (by decide +kernel : decode prog_14_method_61_code 36 = .ok (.return_, 1))
theorem d_M_readPerson_37 : m_D k_M_readPerson 37 (.aload_n 0) 1 := (by decide +kernel : decode prog_14_method_61_code 37 = .ok (.aload_n 0, 1))
theorem d_M_readPerson_38 : m_D k_M_readPerson 38 (.getfield 35) 3 := (by decide +kernel : decode prog_14_method_61_code 38 = .ok (.getfield 35, 3))
theorem d_M_readPerson_41 : m_D k_M_readPerson 41 (.sipush 1515) 3 := (by decide +kernel : decode prog_14_method_61_code 41 = .ok (.sipush 1515, 3))
theorem d_M_readPerson_44 : m_D k_M_readPerson 44 (.iload_n 1) 1 := (by decide +kernel : decode prog_14_method_61_code 44 = .ok (.iload_n 1, 1))
theorem d_M_readPerson_45 : m_D k_M_readPerson 45 (.iadd) 1 := (by decide +kernel : decode prog_14_method_61_code 45 = .ok (.iadd, 1))
theorem d_M_readPerson_46 : m_D k_M_readPerson 46 (.iload_n 2) 1 := (by decide +kernel : decode prog_14_method_61_code 46 = .ok (.iload_n 2, 1))
theorem d_M_readPerson_47 : m_D k_M_readPerson 47 (.iastore) 1 := (by decide +kernel : decode prog_14_method_61_code 47 = .ok (.iastore, 1))
theorem d_M_readPerson_48 : m_D k_M_readPerson 48 (.aload_n 0) 1 := (by decide +kernel : decode prog_14_method_61_code 48 = .ok (.aload_n 0, 1))
theorem d_M_readPerson_49 : m_D k_M_readPerson 49 (.getfield 35) 3 := (by decide +kernel : decode prog_14_method_61_code 49 = .ok (.getfield 35, 3))
theorem d_M_readPerson_52 : m_D k_M_readPerson 52 (.sipush 1521) 3 := (by decide +kernel : decode prog_14_method_61_code 52 = .ok (.sipush 1521, 3))
theorem d_M_readPerson_55 : m_D k_M_readPerson 55 (.iload_n 1) 1 := (by decide +kernel : decode prog_14_method_61_code 55 = .ok (.iload_n 1, 1))
theorem d_M_readPerson_56 : m_D k_M_readPerson 56 (.iadd) 1 := (by decide +kernel : decode prog_14_method_61_code 56 = .ok (.iadd, 1))
theorem d_M_readPerson_57 : m_D k_M_readPerson 57 (.iload_n 3) 1 := (by decide +kernel : decode prog_14_method_61_code 57 = .ok (.iload_n 3, 1))
theorem d_M_readPerson_58 : m_D k_M_readPerson 58 (.ifCond .eq 7) 3 := (by decide +kernel : decode prog_14_method_61_code 58 = .ok (.ifCond .eq 7, 3))
theorem d_M_readPerson_61 : m_D k_M_readPerson 61 (.iconst 1) 1 := (by decide +kernel : decode prog_14_method_61_code 61 = .ok (.iconst 1, 1))
theorem d_M_readPerson_62 : m_D k_M_readPerson 62 (.goto 4) 3 := (by decide +kernel : decode prog_14_method_61_code 62 = .ok (.goto 4, 3))
theorem d_M_readPerson_65 : m_D k_M_readPerson 65 (.iconst 0) 1 := (by decide +kernel : decode prog_14_method_61_code 65 = .ok (.iconst 0, 1))
theorem d_M_readPerson_66 : m_D k_M_readPerson 66 (.iastore) 1 := (by decide +kernel : decode prog_14_method_61_code 66 = .ok (.iastore, 1))
theorem d_M_readPerson_67 : m_D k_M_readPerson 67 (.aload_n 0) 1 := (by decide +kernel : decode prog_14_method_61_code 67 = .ok (.aload_n 0, 1))
theorem d_M_readPerson_68 : m_D k_M_readPerson 68 (.getfield 35) 3 := (by decide +kernel : decode prog_14_method_61_code 68 = .ok (.getfield 35, 3))
theorem d_M_readPerson_71 : m_D k_M_readPerson 71 (.sipush 1527) 3 := (by decide +kernel : decode prog_14_method_61_code 71 = .ok (.sipush 1527, 3))
theorem d_M_readPerson_74 : m_D k_M_readPerson 74 (.iload_n 1) 1 := (by decide +kernel : decode prog_14_method_61_code 74 = .ok (.iload_n 1, 1))
theorem d_M_readPerson_75 : m_D k_M_readPerson 75 (.iadd) 1 := (by decide +kernel : decode prog_14_method_61_code 75 = .ok (.iadd, 1))
theorem d_M_readPerson_76 : m_D k_M_readPerson 76 (.iconst 1) 1 := (by decide +kernel : decode prog_14_method_61_code 76 = .ok (.iconst 1, 1))
theorem d_M_readPerson_77 : m_D k_M_readPerson 77 (.iastore) 1 := (by decide +kernel : decode prog_14_method_61_code 77 = .ok (.iastore, 1))
theorem d_M_readPerson_78 : m_D k_M_readPerson 78 (.aload_n 0) 1 := (by decide +kernel : decode prog_14_method_61_code 78 = .ok (.aload_n 0, 1))
theorem d_M_readPerson_79 : m_D k_M_readPerson 79 (.getfield 35) 3 := (by decide +kernel : decode prog_14_method_61_code 79 = .ok (.getfield 35, 3))
theorem d_M_readPerson_82 : m_D k_M_readPerson 82 (.sipush 1508) 3 := (by decide +kernel : decode prog_14_method_61_code 82 = .ok (.sipush 1508, 3))
theorem d_M_readPerson_85 : m_D k_M_readPerson 85 (.dup2) 1 := (by decide +kernel : decode prog_14_method_61_code 85 = .ok (.dup2, 1))
theorem d_M_readPerson_86 : m_D k_M_readPerson 86 (.iaload) 1 := (by decide +kernel : decode prog_14_method_61_code 86 = .ok (.iaload, 1))
theorem d_M_readPerson_87 : m_D k_M_readPerson 87 (.iconst 1) 1 := (by decide +kernel : decode prog_14_method_61_code 87 = .ok (.iconst 1, 1))
theorem d_M_readPerson_88 : m_D k_M_readPerson 88 (.iadd) 1 := (by decide +kernel : decode prog_14_method_61_code 88 = .ok (.iadd, 1))
theorem d_M_readPerson_89 : m_D k_M_readPerson 89 (.iastore) 1 := (by decide +kernel : decode prog_14_method_61_code 89 = .ok (.iastore, 1))
theorem d_M_readPerson_90 : m_D k_M_readPerson 90 (.return_) 1 := (by decide +kernel : decode prog_14_method_61_code 90 = .ok (.return_, 1))
def fn_M_readPerson (x0 : Option mA) : mP Unit :=
  m_th 11 x0 <|
  m_bd (fn_M_readNew x0 0 6) fun v1 =>
  m_bd (fn_M_isAge x0) fun v2 =>
  m_bd (fn_M_behindWord x0 v2 0 119) fun v3 =>
  m_bd (fn_M_isOf x0) fun v4 =>
  m_bd (fn_M_perhaps x0 v4) fun v5 =>
  m_bd (m_gI 11 12 x0) fun v6 =>
  if v6 ≤ 0 then
    m_bd (m_gR 11 20 x0) fun v7 =>
    m_bd (m_tI 0 v7 (1515 + v1) v3) fun _ =>
    m_bd (m_gR 11 20 x0) fun v8 =>
    m_bd (α := Int32) (
      if v5 = 0 then
        m_rt 0
      else
        m_rt 1
      ) fun (t9 : Int32) =>
    m_bd (m_tI 0 v8 (1521 + v1) t9) fun _ =>
    m_bd (m_gR 11 20 x0) fun v10 =>
    m_bd (m_tI 0 v10 (1527 + v1) 1) fun _ =>
    m_bd (m_gR 11 20 x0) fun v11 =>
    m_bd (m_aI 0 v11 1508) fun v12 =>
    m_bd (m_tI 0 v11 1508 (v12 + 1)) fun _ =>
    m_rt ()
  else
    m_rt ()
set_option maxHeartbeats 4000000 in
set_option maxRecDepth 100000 in
theorem sd_M_readPerson (x0 : Option mA) : m_Sm k_M_readPerson 7 0 0 [.inr (.inr x0)] (fn_M_readPerson x0) (fun _ => none) := by
  refine ⟨Nat.le_of_ble_eq_true rfl, ?_⟩
  refine sm_th ?_
  refine sm_aload_n (i := 0) (j := 0) (pc' := 1) d_M_readPerson_0 rfl rfl rfl (sm_iconst (pc' := 2) d_M_readPerson_1 rfl ic_0 (sm_bipush (pc' := 4) d_M_readPerson_2 rfl ib_6 ?_))
  refine sm_callVi (ci := 11) (x := x0) (av := [.inl 0, .inl 6]) (st := []) (mc := 0) (ms := 0) (pc' := 7) d_M_readPerson_4 rfl (sd_M_readNew x0 0 6) m_lv rfl cv_M_readNew w_ml_M_259 rfl rfl (by decide) (Nat.le_of_ble_eq_true rfl) rfl rfl (fun v1 => ?_)
  refine sm_istore_n (i := 1) (L' := [(1, .inl v1), (0, .inr (.inr x0))]) (pc' := 8) d_M_readPerson_7 rfl rfl (Nat.le_of_ble_eq_true rfl) rfl (sm_aload_n (i := 0) (j := 1) (pc' := 9) d_M_readPerson_8 rfl rfl rfl (sm_aload_n (i := 0) (j := 1) (pc' := 10) d_M_readPerson_9 rfl rfl rfl ?_))
  refine sm_callVi (ci := 11) (x := x0) (av := []) (st := [.inr (.inr x0)]) (mc := 0) (ms := 0) (pc' := 13) d_M_readPerson_10 rfl (sd_M_isAge x0) m_lv rfl cv_M_isAge w_ml_M_193 rfl rfl (by decide) (Nat.le_of_ble_eq_true rfl) rfl rfl (fun v2 => ?_)
  refine sm_iconst (pc' := 14) d_M_readPerson_13 rfl ic_0 (sm_bipush (pc' := 16) d_M_readPerson_14 rfl ib_119 ?_)
  refine sm_callVi (ci := 11) (x := x0) (av := [.inl v2, .inl 0, .inl 119]) (st := []) (mc := 0) (ms := 0) (pc' := 19) d_M_readPerson_16 rfl (sd_M_behindWord x0 v2 0 119) m_lv rfl cv_M_behindWord w_ml_M_262 rfl rfl (by decide) (Nat.le_of_ble_eq_true rfl) rfl rfl (fun v3 => ?_)
  refine sm_istore_n (i := 2) (L' := [(2, .inl v3), (1, .inl v1), (0, .inr (.inr x0))]) (pc' := 20) d_M_readPerson_19 rfl rfl (Nat.le_of_ble_eq_true rfl) rfl (sm_aload_n (i := 0) (j := 2) (pc' := 21) d_M_readPerson_20 rfl rfl rfl (sm_aload_n (i := 0) (j := 2) (pc' := 22) d_M_readPerson_21 rfl rfl rfl ?_))
  refine sm_callVi (ci := 11) (x := x0) (av := []) (st := [.inr (.inr x0)]) (mc := 0) (ms := 0) (pc' := 25) d_M_readPerson_22 rfl (sd_M_isOf x0) m_lv rfl cv_M_isOf w_ml_M_196 rfl rfl (by decide) (Nat.le_of_ble_eq_true rfl) rfl rfl (fun v4 => ?_)
  refine sm_callVi (ci := 11) (x := x0) (av := [.inl v4]) (st := []) (mc := 0) (ms := 0) (pc' := 28) d_M_readPerson_25 rfl (sd_M_perhaps x0 v4) m_lv rfl cv_M_perhaps w_ml_M_266 rfl rfl (by decide) (Nat.le_of_ble_eq_true rfl) rfl rfl (fun v5 => ?_)
  refine sm_istore_n (i := 3) (L' := [(3, .inl v5), (2, .inl v3), (1, .inl v1), (0, .inr (.inr x0))]) (pc' := 29) d_M_readPerson_28 rfl rfl (Nat.le_of_ble_eq_true rfl) rfl (sm_aload_n (i := 0) (j := 3) (pc' := 30) d_M_readPerson_29 rfl rfl rfl ?_)
  refine sm_getI (pc' := 33) d_M_readPerson_30 rfl fl_M_218 rfl ⟨by decide, by decide⟩ (fun v6 => ?_)
  refine sm_if_le (tgt := 37) (pc' := 36) d_M_readPerson_33 rfl rfl ?_ ?_
  · refine sm_aload_n (i := 0) (j := 3) (pc' := 38) d_M_readPerson_37 rfl rfl rfl ?_
    refine sm_getR (pc' := 41) d_M_readPerson_38 rfl fl_M_35 rfl rfl (fun v7 => ?_)
    refine sm_sipush (pc' := 44) d_M_readPerson_41 rfl is_1515 (sm_iload_n (i := 1) (j := 2) (pc' := 45) d_M_readPerson_44 rfl rfl rfl (sm_iadd (pc' := 46) d_M_readPerson_45 rfl (sm_iload_n (i := 2) (j := 1) (pc' := 47) d_M_readPerson_46 rfl rfl rfl (sm_iast (pc' := 48) d_M_readPerson_47 rfl (sm_aload_n (i := 0) (j := 3) (pc' := 49) d_M_readPerson_48 rfl rfl rfl ?_)))))
    refine sm_getR (pc' := 52) d_M_readPerson_49 rfl fl_M_35 rfl rfl (fun v8 => ?_)
    refine sm_sipush (pc' := 55) d_M_readPerson_52 rfl is_1521 (sm_iload_n (i := 1) (j := 2) (pc' := 56) d_M_readPerson_55 rfl rfl rfl (sm_iadd (pc' := 57) d_M_readPerson_56 rfl (sm_iload_n (i := 3) (j := 0) (pc' := 58) d_M_readPerson_57 rfl rfl rfl ?_)))
    refine sm_bd (mid := fun (t9 : Int32) => .inl (66, [(0, .inr (.inr x0)), (1, .inl v1)], [.inl t9, .inl (1521 + v1), .inr (.inr v8)])) ?_ (fun t9 => ?_)
    · refine sm_if_eq (tgt := 65) (pc' := 61) d_M_readPerson_58 rfl rfl ?_ ?_
      · refine sm_iconst (pc' := 66) d_M_readPerson_65 rfl ic_0 (sm_sub [3, 2] rfl ?_)
        exact sm_rt rfl
      · refine sm_iconst (pc' := 62) d_M_readPerson_61 rfl ic_1 (sm_goto (tgt := 66) d_M_readPerson_62 rfl (sm_sub [3, 2] rfl ?_))
        exact sm_rt rfl
    · refine sm_iast (pc' := 67) d_M_readPerson_66 rfl (sm_aload_n (i := 0) (j := 0) (pc' := 68) d_M_readPerson_67 rfl rfl rfl ?_)
      refine sm_getR (pc' := 71) d_M_readPerson_68 rfl fl_M_35 rfl rfl (fun v10 => ?_)
      refine sm_sipush (pc' := 74) d_M_readPerson_71 rfl is_1527 (sm_iload_n (i := 1) (j := 1) (pc' := 75) d_M_readPerson_74 rfl rfl rfl (sm_iadd (pc' := 76) d_M_readPerson_75 rfl (sm_iconst (pc' := 77) d_M_readPerson_76 rfl ic_1 (sm_iast (pc' := 78) d_M_readPerson_77 rfl (sm_aload_n (i := 0) (j := 0) (pc' := 79) d_M_readPerson_78 rfl rfl rfl ?_)))))
      refine sm_getR (pc' := 82) d_M_readPerson_79 rfl fl_M_35 rfl rfl (fun v11 => ?_)
      refine sm_sipush (pc' := 85) d_M_readPerson_82 rfl is_1508 (sm_dup2 (pc' := 86) d_M_readPerson_85 rfl rfl rfl ?_)
      refine sm_iald (pc' := 87) d_M_readPerson_86 rfl (fun v12 => ?_)
      refine sm_iconst (pc' := 88) d_M_readPerson_87 rfl ic_1 (sm_iadd (pc' := 89) d_M_readPerson_88 rfl (sm_iast (pc' := 90) d_M_readPerson_89 rfl ?_))
      exact sm_return d_M_readPerson_90 rfl rfl
  · exact sm_return d_M_readPerson_36 rfl rfl
