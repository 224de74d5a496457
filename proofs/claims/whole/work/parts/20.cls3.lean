/-! 20.cls3, laid by wip/whole/gen.py -/
theorem d_C_fault_0 : m_D k_C_fault 0 (.iload_n 1) 1 := (by decide +kernel : decode prog_1_method_16_code 0 = .ok (.iload_n 1, 1))
theorem d_C_fault_1 : m_D k_C_fault 1 (.ifCond .ne 13) 3 := (by decide +kernel : decode prog_1_method_16_code 1 = .ok (.ifCond .ne 13, 3))
theorem d_C_fault_4 : m_D k_C_fault 4 (.aload_n 0) 1 := (by decide +kernel : decode prog_1_method_16_code 4 = .ok (.aload_n 0, 1))
theorem d_C_fault_5 : m_D k_C_fault 5 (.getfield 30) 3 := (by decide +kernel : decode prog_1_method_16_code 5 = .ok (.getfield 30, 3))
theorem d_C_fault_8 : m_D k_C_fault 8 (.getfield 169) 3 := (by decide +kernel : decode prog_1_method_16_code 8 = .ok (.getfield 169, 3))
theorem d_C_fault_11 : m_D k_C_fault 11 (.goto 19) 3 := (by decide +kernel : decode prog_1_method_16_code 11 = .ok (.goto 19, 3))
theorem d_C_fault_14 : m_D k_C_fault 14 (.iload_n 1) 1 := (by decide +kernel : decode prog_1_method_16_code 14 = .ok (.iload_n 1, 1))
theorem d_C_fault_15 : m_D k_C_fault 15 (.iconst 1) 1 := (by decide +kernel : decode prog_1_method_16_code 15 = .ok (.iconst 1, 1))
theorem d_C_fault_16 : m_D k_C_fault 16 (.if_icmp .ne 13) 3 := (by decide +kernel : decode prog_1_method_16_code 16 = .ok (.if_icmp .ne 13, 3))
theorem d_C_fault_19 : m_D k_C_fault 19 (.aload_n 0) 1 := (by decide +kernel : decode prog_1_method_16_code 19 = .ok (.aload_n 0, 1))
theorem d_C_fault_20 : m_D k_C_fault 20 (.getfield 30) 3 := (by decide +kernel : decode prog_1_method_16_code 20 = .ok (.getfield 30, 3))
theorem d_C_fault_23 : m_D k_C_fault 23 (.getfield 172) 3 := (by decide +kernel : decode prog_1_method_16_code 23 = .ok (.getfield 172, 3))
theorem d_C_fault_26 : m_D k_C_fault 26 (.goto 4) 3 := (by decide +kernel : decode prog_1_method_16_code 26 = .ok (.goto 4, 3))
theorem d_C_fault_29 : m_D k_C_fault 29 (.iconst (-1)) 1 := (by decide +kernel : decode prog_1_method_16_code 29 = .ok (.iconst (-1), 1))
theorem d_C_fault_30 : m_D k_C_fault 30 (.ireturn) 1 := (by decide +kernel : decode prog_1_method_16_code 30 = .ok (.ireturn, 1))
def fn_C_fault (x0 : Option mA) (x1 : Int32) : mP Int32 :=
  m_th 0 x0 <|
  if x1 = 0 then
    m_bd (m_gR 0 4 x0) fun v3 =>
    m_bd (m_gI 2 10 v3) fun v4 =>
    m_rt v4
  else
    if x1 = 1 then
      m_bd (m_gR 0 4 x0) fun v1 =>
      m_bd (m_gI 2 11 v1) fun v2 =>
      m_rt v2
    else
      m_rt (-1)
set_option maxHeartbeats 4000000 in
set_option maxRecDepth 100000 in
theorem sd_C_fault (x0 : Option mA) (x1 : Int32) : m_Sm k_C_fault 1 0 0 [.inr (.inr x0), .inl x1] (fn_C_fault x0 x1) (fun b => some (.inl b)) := by
  refine ⟨Nat.le_of_ble_eq_true rfl, ?_⟩
  refine sm_th ?_
  refine sm_iload_n (i := 1) (j := 1) (pc' := 1) d_C_fault_0 rfl rfl rfl ?_
  refine sm_if_ne (tgt := 14) (pc' := 4) d_C_fault_1 rfl rfl ?_ ?_
  · refine sm_iload_n (i := 1) (j := 1) (pc' := 15) d_C_fault_14 rfl rfl rfl (sm_iconst (pc' := 16) d_C_fault_15 rfl ic_1 ?_)
    refine sm_icmp_ne (tgt := 29) (pc' := 19) d_C_fault_16 rfl rfl ?_ ?_
    · refine sm_iconst (pc' := 30) d_C_fault_29 rfl ic_m1 ?_
      exact sm_ireturn d_C_fault_30 rfl rfl
    · refine sm_aload_n (i := 0) (j := 0) (pc' := 20) d_C_fault_19 rfl rfl rfl ?_
      refine sm_getR (pc' := 23) d_C_fault_20 rfl fl_C_30 rfl rfl (fun v1 => ?_)
      refine sm_getI (pc' := 26) d_C_fault_23 rfl fl_C_172 rfl ⟨by decide, by decide⟩ (fun v2 => ?_)
      refine sm_goto (tgt := 30) d_C_fault_26 rfl ?_
      exact sm_ireturn d_C_fault_30 rfl rfl
  · refine sm_aload_n (i := 0) (j := 0) (pc' := 5) d_C_fault_4 rfl rfl rfl ?_
    refine sm_getR (pc' := 8) d_C_fault_5 rfl fl_C_30 rfl rfl (fun v3 => ?_)
    refine sm_getI (pc' := 11) d_C_fault_8 rfl fl_C_169 rfl ⟨by decide, by decide⟩ (fun v4 => ?_)
    refine sm_goto (tgt := 30) d_C_fault_11 rfl ?_
    exact sm_ireturn d_C_fault_30 rfl rfl
theorem d_Fa_allRust_0 : m_D k_Fa_allRust 0 (.iconst 0) 1 := (by decide +kernel : decode prog_3_method_14_code 0 = .ok (.iconst 0, 1))
theorem d_Fa_allRust_1 : m_D k_Fa_allRust 1 (.istore_n 1) 1 := (by decide +kernel : decode prog_3_method_14_code 1 = .ok (.istore_n 1, 1))
theorem d_Fa_allRust_2 : m_D k_Fa_allRust 2 (.iconst 0) 1 := (by decide +kernel : decode prog_3_method_14_code 2 = .ok (.iconst 0, 1))
theorem d_Fa_allRust_3 : m_D k_Fa_allRust 3 (.istore_n 2) 1 := (by decide +kernel : decode prog_3_method_14_code 3 = .ok (.istore_n 2, 1))
theorem d_Fa_allRust_4 : m_D k_Fa_allRust 4 (.iload_n 2) 1 := (by decide +kernel : decode prog_3_method_14_code 4 = .ok (.iload_n 2, 1))
theorem d_Fa_allRust_5 : m_D k_Fa_allRust 5 (.aload_n 0) 1 := (by decide +kernel : decode prog_3_method_14_code 5 = .ok (.aload_n 0, 1))
theorem d_Fa_allRust_6 : m_D k_Fa_allRust 6 (.getfield 48) 3 := (by decide +kernel : decode prog_3_method_14_code 6 = .ok (.getfield 48, 3))
theorem d_Fa_allRust_9 : m_D k_Fa_allRust 9 (.if_icmp .ge 21) 3 := (by decide +kernel : decode prog_3_method_14_code 9 = .ok (.if_icmp .ge 21, 3))
theorem d_Fa_allRust_12 : m_D k_Fa_allRust 12 (.iload_n 1) 1 := (by decide +kernel : decode prog_3_method_14_code 12 = .ok (.iload_n 1, 1))
theorem d_Fa_allRust_13 : m_D k_Fa_allRust 13 (.aload_n 0) 1 := (by decide +kernel : decode prog_3_method_14_code 13 = .ok (.aload_n 0, 1))
theorem d_Fa_allRust_14 : m_D k_Fa_allRust 14 (.getfield 33) 3 := (by decide +kernel : decode prog_3_method_14_code 14 = .ok (.getfield 33, 3))
theorem d_Fa_allRust_17 : m_D k_Fa_allRust 17 (.iload_n 2) 1 := (by decide +kernel : decode prog_3_method_14_code 17 = .ok (.iload_n 2, 1))
theorem d_Fa_allRust_18 : m_D k_Fa_allRust 18 (.aaload) 1 := (by decide +kernel : decode prog_3_method_14_code 18 = .ok (.aaload, 1))
theorem d_Fa_allRust_19 : m_D k_Fa_allRust 19 (.getfield 92) 3 := (by decide +kernel : decode prog_3_method_14_code 19 = .ok (.getfield 92, 3))
theorem d_Fa_allRust_22 : m_D k_Fa_allRust 22 (.iadd) 1 := (by decide +kernel : decode prog_3_method_14_code 22 = .ok (.iadd, 1))
theorem d_Fa_allRust_23 : m_D k_Fa_allRust 23 (.istore_n 1) 1 := (by decide +kernel : decode prog_3_method_14_code 23 = .ok (.istore_n 1, 1))
theorem d_Fa_allRust_24 : m_D k_Fa_allRust 24 (.iinc 2 1) 3 := (by decide +kernel : decode prog_3_method_14_code 24 = .ok (.iinc 2 1, 3))
theorem d_Fa_allRust_27 : m_D k_Fa_allRust 27 (.goto (-23)) 3 := (by decide +kernel : decode prog_3_method_14_code 27 = .ok (.goto (-23), 3))
theorem d_Fa_allRust_30 : m_D k_Fa_allRust 30 (.iload_n 1) 1 := (by decide +kernel : decode prog_3_method_14_code 30 = .ok (.iload_n 1, 1))
theorem d_Fa_allRust_31 : m_D k_Fa_allRust 31 (.ireturn) 1 := (by decide +kernel : decode prog_3_method_14_code 31 = .ok (.ireturn, 1))
def fn_Fa_allRust_l4 (x0 : Option mA) (t1 : Int32 × Int32) : mP ((Int32 × Int32) ⊕ (Int32)) :=
  m_bd (m_gI 3 1 x0) fun v2 =>
  if v2 ≤ t1.2 then
    m_rt (.inr t1.1)
  else
    m_bd (m_gR 3 8 x0) fun v3 =>
    m_bd (m_aR 7 v3 t1.2) fun v4 =>
    m_bd (m_gI 5 3 v4) fun v5 =>
    m_rt (.inl ((t1.1 + v5), (t1.2 + 1)))
def fn_Fa_allRust (x0 : Option mA) : mP Int32 :=
  m_th 3 x0 <|
  m_bd (m_lp (fn_Fa_allRust_l4 x0) m_F (0, 0)) fun (t6 : Int32) =>
  m_rt t6
set_option maxHeartbeats 4000000 in
set_option maxRecDepth 100000 in
theorem sd_Fa_allRust (x0 : Option mA) : m_Sm k_Fa_allRust 1 0 0 [.inr (.inr x0)] (fn_Fa_allRust x0) (fun b => some (.inl b)) := by
  refine ⟨Nat.le_of_ble_eq_true rfl, ?_⟩
  refine sm_th ?_
  refine sm_iconst (pc' := 1) d_Fa_allRust_0 rfl ic_0 (sm_istore_n (i := 1) (L' := [(1, .inl 0), (0, .inr (.inr x0))]) (pc' := 2) d_Fa_allRust_1 rfl rfl (Nat.le_of_ble_eq_true rfl) rfl (sm_iconst (pc' := 3) d_Fa_allRust_2 rfl ic_0 (sm_istore_n (i := 2) (L' := [(2, .inl 0), (1, .inl 0), (0, .inr (.inr x0))]) (pc' := 4) d_Fa_allRust_3 rfl rfl (Nat.le_of_ble_eq_true rfl) rfl ?_)))
  refine sm_sub [1, 0, 2] rfl ?_
  refine sm_bd (mid := fun (t6 : Int32) => .inl (30, [(1, .inl t6)], [])) (sm_lp (hd := fun (t1 : Int32 × Int32) => (.inl (4, [(1, .inl t1.1), (2, .inl t1.2), (0, .inr (.inr x0))], []) : mC)) (fun t1 => ?_) m_F (0, 0)) (fun t6 => ?_)
  · refine sm_iload_n (i := 2) (j := 1) (pc' := 5) d_Fa_allRust_4 rfl rfl rfl (sm_aload_n (i := 0) (j := 2) (pc' := 6) d_Fa_allRust_5 rfl rfl rfl ?_)
    refine sm_getI (pc' := 9) d_Fa_allRust_6 rfl fl_Fa_48 rfl ⟨by decide, by decide⟩ (fun v2 => ?_)
    refine sm_icmp_ge (tgt := 30) (pc' := 12) d_Fa_allRust_9 rfl rfl ?_ ?_
    · refine sm_sub [0] rfl ?_
      exact sm_rt rfl
    · refine sm_iload_n (i := 1) (j := 0) (pc' := 13) d_Fa_allRust_12 rfl rfl rfl (sm_aload_n (i := 0) (j := 2) (pc' := 14) d_Fa_allRust_13 rfl rfl rfl ?_)
      refine sm_getR (pc' := 17) d_Fa_allRust_14 rfl fl_Fa_33 rfl rfl (fun v3 => ?_)
      refine sm_iload_n (i := 2) (j := 1) (pc' := 18) d_Fa_allRust_17 rfl rfl rfl ?_
      refine sm_aald (t := 7) ⟨by decide, by decide⟩ rfl (pc' := 19) d_Fa_allRust_18 rfl (fun v4 => ?_)
      refine sm_getI (pc' := 22) d_Fa_allRust_19 rfl fl_Fa_92 rfl ⟨by decide, by decide⟩ (fun v5 => ?_)
      refine sm_iadd (pc' := 23) d_Fa_allRust_22 rfl (sm_istore_n (i := 1) (L' := [(1, .inl (t1.1 + v5)), (2, .inl t1.2), (0, .inr (.inr x0))]) (pc' := 24) d_Fa_allRust_23 rfl rfl (Nat.le_of_ble_eq_true rfl) rfl (sm_iinc (j := 1) (L' := [(2, .inl (t1.2 + 1)), (1, .inl (t1.1 + v5)), (0, .inr (.inr x0))]) (pc' := 27) d_Fa_allRust_24 rfl (v := (t1.2 + 1)) rfl (ix_1 _) (Nat.le_of_ble_eq_true rfl) rfl (sm_goto (tgt := 4) d_Fa_allRust_27 rfl (sm_sub [1, 0, 2] rfl ?_))))
      exact sm_rt rfl
  · refine sm_iload_n (i := 1) (j := 0) (pc' := 31) d_Fa_allRust_30 rfl rfl rfl ?_
    exact sm_ireturn d_Fa_allRust_31 rfl rfl
theorem d_Fa_livingSet_0 : m_D k_Fa_livingSet 0 (.iconst 0) 1 := (by decide +kernel : decode prog_3_method_11_code 0 = .ok (.iconst 0, 1))
theorem d_Fa_livingSet_1 : m_D k_Fa_livingSet 1 (.istore_n 1) 1 := (by decide +kernel : decode prog_3_method_11_code 1 = .ok (.istore_n 1, 1))
theorem d_Fa_livingSet_2 : m_D k_Fa_livingSet 2 (.iconst 0) 1 := (by decide +kernel : decode prog_3_method_11_code 2 = .ok (.iconst 0, 1))
theorem d_Fa_livingSet_3 : m_D k_Fa_livingSet 3 (.istore_n 2) 1 := (by decide +kernel : decode prog_3_method_11_code 3 = .ok (.istore_n 2, 1))
theorem d_Fa_livingSet_4 : m_D k_Fa_livingSet 4 (.iload_n 2) 1 := (by decide +kernel : decode prog_3_method_11_code 4 = .ok (.iload_n 2, 1))
theorem d_Fa_livingSet_5 : m_D k_Fa_livingSet 5 (.aload_n 0) 1 := (by decide +kernel : decode prog_3_method_11_code 5 = .ok (.aload_n 0, 1))
theorem d_Fa_livingSet_6 : m_D k_Fa_livingSet 6 (.getfield 45) 3 := (by decide +kernel : decode prog_3_method_11_code 6 = .ok (.getfield 45, 3))
theorem d_Fa_livingSet_9 : m_D k_Fa_livingSet 9 (.if_icmp .ge 27) 3 := (by decide +kernel : decode prog_3_method_11_code 9 = .ok (.if_icmp .ge 27, 3))
theorem d_Fa_livingSet_12 : m_D k_Fa_livingSet 12 (.aload_n 0) 1 := (by decide +kernel : decode prog_3_method_11_code 12 = .ok (.aload_n 0, 1))
theorem d_Fa_livingSet_13 : m_D k_Fa_livingSet 13 (.getfield 26) 3 := (by decide +kernel : decode prog_3_method_11_code 13 = .ok (.getfield 26, 3))
theorem d_Fa_livingSet_16 : m_D k_Fa_livingSet 16 (.iload_n 2) 1 := (by decide +kernel : decode prog_3_method_11_code 16 = .ok (.iload_n 2, 1))
theorem d_Fa_livingSet_17 : m_D k_Fa_livingSet 17 (.aaload) 1 := (by decide +kernel : decode prog_3_method_11_code 17 = .ok (.aaload, 1))
theorem d_Fa_livingSet_18 : m_D k_Fa_livingSet 18 (.getfield 72) 3 := (by decide +kernel : decode prog_3_method_11_code 18 = .ok (.getfield 72, 3))
theorem d_Fa_livingSet_21 : m_D k_Fa_livingSet 21 (.ifCond .eq 9) 3 := (by decide +kernel : decode prog_3_method_11_code 21 = .ok (.ifCond .eq 9, 3))
theorem d_Fa_livingSet_24 : m_D k_Fa_livingSet 24 (.iload_n 1) 1 := (by decide +kernel : decode prog_3_method_11_code 24 = .ok (.iload_n 1, 1))
theorem d_Fa_livingSet_25 : m_D k_Fa_livingSet 25 (.iconst 1) 1 := (by decide +kernel : decode prog_3_method_11_code 25 = .ok (.iconst 1, 1))
theorem d_Fa_livingSet_26 : m_D k_Fa_livingSet 26 (.iload_n 2) 1 := (by decide +kernel : decode prog_3_method_11_code 26 = .ok (.iload_n 2, 1))
theorem d_Fa_livingSet_27 : m_D k_Fa_livingSet 27 (.ishl) 1 := (by decide +kernel : decode prog_3_method_11_code 27 = .ok (.ishl, 1))
theorem d_Fa_livingSet_28 : m_D k_Fa_livingSet 28 (.ior) 1 := (by decide +kernel : decode prog_3_method_11_code 28 = .ok (.ior, 1))
theorem d_Fa_livingSet_29 : m_D k_Fa_livingSet 29 (.istore_n 1) 1 := (by decide +kernel : decode prog_3_method_11_code 29 = .ok (.istore_n 1, 1))
theorem d_Fa_livingSet_30 : m_D k_Fa_livingSet 30 (.iinc 2 1) 3 := (by decide +kernel : decode prog_3_method_11_code 30 = .ok (.iinc 2 1, 3))
theorem d_Fa_livingSet_33 : m_D k_Fa_livingSet 33 (.goto (-29)) 3 := (by decide +kernel : decode prog_3_method_11_code 33 = .ok (.goto (-29), 3))
theorem d_Fa_livingSet_36 : m_D k_Fa_livingSet 36 (.iload_n 1) 1 := (by decide +kernel : decode prog_3_method_11_code 36 = .ok (.iload_n 1, 1))
theorem d_Fa_livingSet_37 : m_D k_Fa_livingSet 37 (.ireturn) 1 := (by decide +kernel : decode prog_3_method_11_code 37 = .ok (.ireturn, 1))
def fn_Fa_livingSet_l4 (x0 : Option mA) (t1 : Int32 × Int32) : mP ((Int32 × Int32) ⊕ (Int32)) :=
  m_bd (m_gI 3 0 x0) fun v2 =>
  if v2 ≤ t1.2 then
    m_rt (.inr t1.1)
  else
    m_bd (m_gR 3 7 x0) fun v3 =>
    m_bd (m_aR 6 v3 t1.2) fun v4 =>
    m_bd (m_gI 4 3 v4) fun v5 =>
    m_bd (α := Int32) (
      if v5 = 0 then
        m_rt t1.1
      else
        m_rt (t1.1 ||| (1 <<< (t1.2 &&& 31)))
      ) fun (t6 : Int32) =>
    m_rt (.inl (t6, (t1.2 + 1)))
def fn_Fa_livingSet (x0 : Option mA) : mP Int32 :=
  m_th 3 x0 <|
  m_bd (m_lp (fn_Fa_livingSet_l4 x0) m_F (0, 0)) fun (t7 : Int32) =>
  m_rt t7
set_option maxHeartbeats 4000000 in
set_option maxRecDepth 100000 in
theorem sd_Fa_livingSet (x0 : Option mA) : m_Sm k_Fa_livingSet 1 0 0 [.inr (.inr x0)] (fn_Fa_livingSet x0) (fun b => some (.inl b)) := by
  refine ⟨Nat.le_of_ble_eq_true rfl, ?_⟩
  refine sm_th ?_
  refine sm_iconst (pc' := 1) d_Fa_livingSet_0 rfl ic_0 (sm_istore_n (i := 1) (L' := [(1, .inl 0), (0, .inr (.inr x0))]) (pc' := 2) d_Fa_livingSet_1 rfl rfl (Nat.le_of_ble_eq_true rfl) rfl (sm_iconst (pc' := 3) d_Fa_livingSet_2 rfl ic_0 (sm_istore_n (i := 2) (L' := [(2, .inl 0), (1, .inl 0), (0, .inr (.inr x0))]) (pc' := 4) d_Fa_livingSet_3 rfl rfl (Nat.le_of_ble_eq_true rfl) rfl ?_)))
  refine sm_sub [1, 0, 2] rfl ?_
  refine sm_bd (mid := fun (t7 : Int32) => .inl (36, [(1, .inl t7)], [])) (sm_lp (hd := fun (t1 : Int32 × Int32) => (.inl (4, [(1, .inl t1.1), (2, .inl t1.2), (0, .inr (.inr x0))], []) : mC)) (fun t1 => ?_) m_F (0, 0)) (fun t7 => ?_)
  · refine sm_iload_n (i := 2) (j := 1) (pc' := 5) d_Fa_livingSet_4 rfl rfl rfl (sm_aload_n (i := 0) (j := 2) (pc' := 6) d_Fa_livingSet_5 rfl rfl rfl ?_)
    refine sm_getI (pc' := 9) d_Fa_livingSet_6 rfl fl_Fa_45 rfl ⟨by decide, by decide⟩ (fun v2 => ?_)
    refine sm_icmp_ge (tgt := 36) (pc' := 12) d_Fa_livingSet_9 rfl rfl ?_ ?_
    · refine sm_sub [0] rfl ?_
      exact sm_rt rfl
    · refine sm_aload_n (i := 0) (j := 2) (pc' := 13) d_Fa_livingSet_12 rfl rfl rfl ?_
      refine sm_getR (pc' := 16) d_Fa_livingSet_13 rfl fl_Fa_26 rfl rfl (fun v3 => ?_)
      refine sm_iload_n (i := 2) (j := 1) (pc' := 17) d_Fa_livingSet_16 rfl rfl rfl ?_
      refine sm_aald (t := 6) ⟨by decide, by decide⟩ rfl (pc' := 18) d_Fa_livingSet_17 rfl (fun v4 => ?_)
      refine sm_getI (pc' := 21) d_Fa_livingSet_18 rfl fl_Fa_72 rfl ⟨by decide, by decide⟩ (fun v5 => ?_)
      refine sm_bd (mid := fun (t6 : Int32) => .inl (30, [(0, .inr (.inr x0)), (1, .inl t6), (2, .inl t1.2)], [])) ?_ (fun t6 => ?_)
      · refine sm_if_eq (tgt := 30) (pc' := 24) d_Fa_livingSet_21 rfl rfl ?_ ?_
        · refine sm_sub [2, 0, 1] rfl ?_
          exact sm_rt rfl
        · refine sm_iload_n (i := 1) (j := 0) (pc' := 25) d_Fa_livingSet_24 rfl rfl rfl (sm_iconst (pc' := 26) d_Fa_livingSet_25 rfl ic_1 (sm_iload_n (i := 2) (j := 1) (pc' := 27) d_Fa_livingSet_26 rfl rfl rfl (sm_ishl (pc' := 28) d_Fa_livingSet_27 rfl (sm_ior (pc' := 29) d_Fa_livingSet_28 rfl (sm_istore_n (i := 1) (L' := [(1, .inl (t1.1 ||| (1 <<< (t1.2 &&& 31)))), (2, .inl t1.2), (0, .inr (.inr x0))]) (pc' := 30) d_Fa_livingSet_29 rfl rfl (Nat.le_of_ble_eq_true rfl) rfl (sm_sub [2, 0, 1] rfl ?_))))))
          exact sm_rt rfl
      · refine sm_iinc (j := 2) (L' := [(2, .inl (t1.2 + 1)), (0, .inr (.inr x0)), (1, .inl t6)]) (pc' := 33) d_Fa_livingSet_30 rfl (v := (t1.2 + 1)) rfl (ix_1 _) (Nat.le_of_ble_eq_true rfl) rfl (sm_goto (tgt := 4) d_Fa_livingSet_33 rfl (sm_sub [2, 0, 1] rfl ?_))
        exact sm_rt rfl
  · refine sm_iload_n (i := 1) (j := 0) (pc' := 37) d_Fa_livingSet_36 rfl rfl rfl ?_
    exact sm_ireturn d_Fa_livingSet_37 rfl rfl
theorem d_Fa_oiledSet_0 : m_D k_Fa_oiledSet 0 (.iconst 0) 1 := (by decide +kernel : decode prog_3_method_13_code 0 = .ok (.iconst 0, 1))
theorem d_Fa_oiledSet_1 : m_D k_Fa_oiledSet 1 (.istore_n 1) 1 := (by decide +kernel : decode prog_3_method_13_code 1 = .ok (.istore_n 1, 1))
theorem d_Fa_oiledSet_2 : m_D k_Fa_oiledSet 2 (.iconst 0) 1 := (by decide +kernel : decode prog_3_method_13_code 2 = .ok (.iconst 0, 1))
theorem d_Fa_oiledSet_3 : m_D k_Fa_oiledSet 3 (.istore_n 2) 1 := (by decide +kernel : decode prog_3_method_13_code 3 = .ok (.istore_n 2, 1))
theorem d_Fa_oiledSet_4 : m_D k_Fa_oiledSet 4 (.iload_n 2) 1 := (by decide +kernel : decode prog_3_method_13_code 4 = .ok (.iload_n 2, 1))
theorem d_Fa_oiledSet_5 : m_D k_Fa_oiledSet 5 (.aload_n 0) 1 := (by decide +kernel : decode prog_3_method_13_code 5 = .ok (.aload_n 0, 1))
theorem d_Fa_oiledSet_6 : m_D k_Fa_oiledSet 6 (.getfield 48) 3 := (by decide +kernel : decode prog_3_method_13_code 6 = .ok (.getfield 48, 3))
theorem d_Fa_oiledSet_9 : m_D k_Fa_oiledSet 9 (.if_icmp .ge 27) 3 := (by decide +kernel : decode prog_3_method_13_code 9 = .ok (.if_icmp .ge 27, 3))
theorem d_Fa_oiledSet_12 : m_D k_Fa_oiledSet 12 (.aload_n 0) 1 := (by decide +kernel : decode prog_3_method_13_code 12 = .ok (.aload_n 0, 1))
theorem d_Fa_oiledSet_13 : m_D k_Fa_oiledSet 13 (.getfield 33) 3 := (by decide +kernel : decode prog_3_method_13_code 13 = .ok (.getfield 33, 3))
theorem d_Fa_oiledSet_16 : m_D k_Fa_oiledSet 16 (.iload_n 2) 1 := (by decide +kernel : decode prog_3_method_13_code 16 = .ok (.iload_n 2, 1))
theorem d_Fa_oiledSet_17 : m_D k_Fa_oiledSet 17 (.aaload) 1 := (by decide +kernel : decode prog_3_method_13_code 17 = .ok (.aaload, 1))
theorem d_Fa_oiledSet_18 : m_D k_Fa_oiledSet 18 (.getfield 95) 3 := (by decide +kernel : decode prog_3_method_13_code 18 = .ok (.getfield 95, 3))
theorem d_Fa_oiledSet_21 : m_D k_Fa_oiledSet 21 (.ifCond .le 9) 3 := (by decide +kernel : decode prog_3_method_13_code 21 = .ok (.ifCond .le 9, 3))
theorem d_Fa_oiledSet_24 : m_D k_Fa_oiledSet 24 (.iload_n 1) 1 := (by decide +kernel : decode prog_3_method_13_code 24 = .ok (.iload_n 1, 1))
theorem d_Fa_oiledSet_25 : m_D k_Fa_oiledSet 25 (.iconst 1) 1 := (by decide +kernel : decode prog_3_method_13_code 25 = .ok (.iconst 1, 1))
theorem d_Fa_oiledSet_26 : m_D k_Fa_oiledSet 26 (.iload_n 2) 1 := (by decide +kernel : decode prog_3_method_13_code 26 = .ok (.iload_n 2, 1))
theorem d_Fa_oiledSet_27 : m_D k_Fa_oiledSet 27 (.ishl) 1 := (by decide +kernel : decode prog_3_method_13_code 27 = .ok (.ishl, 1))
theorem d_Fa_oiledSet_28 : m_D k_Fa_oiledSet 28 (.ior) 1 := (by decide +kernel : decode prog_3_method_13_code 28 = .ok (.ior, 1))
theorem d_Fa_oiledSet_29 : m_D k_Fa_oiledSet 29 (.istore_n 1) 1 := (by decide +kernel : decode prog_3_method_13_code 29 = .ok (.istore_n 1, 1))
theorem d_Fa_oiledSet_30 : m_D k_Fa_oiledSet 30 (.iinc 2 1) 3 := (by decide +kernel : decode prog_3_method_13_code 30 = .ok (.iinc 2 1, 3))
theorem d_Fa_oiledSet_33 : m_D k_Fa_oiledSet 33 (.goto (-29)) 3 := (by decide +kernel : decode prog_3_method_13_code 33 = .ok (.goto (-29), 3))
theorem d_Fa_oiledSet_36 : m_D k_Fa_oiledSet 36 (.iload_n 1) 1 := (by decide +kernel : decode prog_3_method_13_code 36 = .ok (.iload_n 1, 1))
theorem d_Fa_oiledSet_37 : m_D k_Fa_oiledSet 37 (.ireturn) 1 := (by decide +kernel : decode prog_3_method_13_code 37 = .ok (.ireturn, 1))
def fn_Fa_oiledSet_l4 (x0 : Option mA) (t1 : Int32 × Int32) : mP ((Int32 × Int32) ⊕ (Int32)) :=
  m_bd (m_gI 3 1 x0) fun v2 =>
  if v2 ≤ t1.2 then
    m_rt (.inr t1.1)
  else
    m_bd (m_gR 3 8 x0) fun v3 =>
    m_bd (m_aR 7 v3 t1.2) fun v4 =>
    m_bd (m_gI 5 4 v4) fun v5 =>
    m_bd (α := Int32) (
      if v5 ≤ 0 then
        m_rt t1.1
      else
        m_rt (t1.1 ||| (1 <<< (t1.2 &&& 31)))
      ) fun (t6 : Int32) =>
    m_rt (.inl (t6, (t1.2 + 1)))
def fn_Fa_oiledSet (x0 : Option mA) : mP Int32 :=
  m_th 3 x0 <|
  m_bd (m_lp (fn_Fa_oiledSet_l4 x0) m_F (0, 0)) fun (t7 : Int32) =>
  m_rt t7
set_option maxHeartbeats 4000000 in
set_option maxRecDepth 100000 in
theorem sd_Fa_oiledSet (x0 : Option mA) : m_Sm k_Fa_oiledSet 1 0 0 [.inr (.inr x0)] (fn_Fa_oiledSet x0) (fun b => some (.inl b)) := by
  refine ⟨Nat.le_of_ble_eq_true rfl, ?_⟩
  refine sm_th ?_
  refine sm_iconst (pc' := 1) d_Fa_oiledSet_0 rfl ic_0 (sm_istore_n (i := 1) (L' := [(1, .inl 0), (0, .inr (.inr x0))]) (pc' := 2) d_Fa_oiledSet_1 rfl rfl (Nat.le_of_ble_eq_true rfl) rfl (sm_iconst (pc' := 3) d_Fa_oiledSet_2 rfl ic_0 (sm_istore_n (i := 2) (L' := [(2, .inl 0), (1, .inl 0), (0, .inr (.inr x0))]) (pc' := 4) d_Fa_oiledSet_3 rfl rfl (Nat.le_of_ble_eq_true rfl) rfl ?_)))
  refine sm_sub [1, 0, 2] rfl ?_
  refine sm_bd (mid := fun (t7 : Int32) => .inl (36, [(1, .inl t7)], [])) (sm_lp (hd := fun (t1 : Int32 × Int32) => (.inl (4, [(1, .inl t1.1), (2, .inl t1.2), (0, .inr (.inr x0))], []) : mC)) (fun t1 => ?_) m_F (0, 0)) (fun t7 => ?_)
  · refine sm_iload_n (i := 2) (j := 1) (pc' := 5) d_Fa_oiledSet_4 rfl rfl rfl (sm_aload_n (i := 0) (j := 2) (pc' := 6) d_Fa_oiledSet_5 rfl rfl rfl ?_)
    refine sm_getI (pc' := 9) d_Fa_oiledSet_6 rfl fl_Fa_48 rfl ⟨by decide, by decide⟩ (fun v2 => ?_)
    refine sm_icmp_ge (tgt := 36) (pc' := 12) d_Fa_oiledSet_9 rfl rfl ?_ ?_
    · refine sm_sub [0] rfl ?_
      exact sm_rt rfl
    · refine sm_aload_n (i := 0) (j := 2) (pc' := 13) d_Fa_oiledSet_12 rfl rfl rfl ?_
      refine sm_getR (pc' := 16) d_Fa_oiledSet_13 rfl fl_Fa_33 rfl rfl (fun v3 => ?_)
      refine sm_iload_n (i := 2) (j := 1) (pc' := 17) d_Fa_oiledSet_16 rfl rfl rfl ?_
      refine sm_aald (t := 7) ⟨by decide, by decide⟩ rfl (pc' := 18) d_Fa_oiledSet_17 rfl (fun v4 => ?_)
      refine sm_getI (pc' := 21) d_Fa_oiledSet_18 rfl fl_Fa_95 rfl ⟨by decide, by decide⟩ (fun v5 => ?_)
      refine sm_bd (mid := fun (t6 : Int32) => .inl (30, [(0, .inr (.inr x0)), (1, .inl t6), (2, .inl t1.2)], [])) ?_ (fun t6 => ?_)
      · refine sm_if_le (tgt := 30) (pc' := 24) d_Fa_oiledSet_21 rfl rfl ?_ ?_
        · refine sm_sub [2, 0, 1] rfl ?_
          exact sm_rt rfl
        · refine sm_iload_n (i := 1) (j := 0) (pc' := 25) d_Fa_oiledSet_24 rfl rfl rfl (sm_iconst (pc' := 26) d_Fa_oiledSet_25 rfl ic_1 (sm_iload_n (i := 2) (j := 1) (pc' := 27) d_Fa_oiledSet_26 rfl rfl rfl (sm_ishl (pc' := 28) d_Fa_oiledSet_27 rfl (sm_ior (pc' := 29) d_Fa_oiledSet_28 rfl (sm_istore_n (i := 1) (L' := [(1, .inl (t1.1 ||| (1 <<< (t1.2 &&& 31)))), (2, .inl t1.2), (0, .inr (.inr x0))]) (pc' := 30) d_Fa_oiledSet_29 rfl rfl (Nat.le_of_ble_eq_true rfl) rfl (sm_sub [2, 0, 1] rfl ?_))))))
          exact sm_rt rfl
      · refine sm_iinc (j := 2) (L' := [(2, .inl (t1.2 + 1)), (0, .inr (.inr x0)), (1, .inl t6)]) (pc' := 33) d_Fa_oiledSet_30 rfl (v := (t1.2 + 1)) rfl (ix_1 _) (Nat.le_of_ble_eq_true rfl) rfl (sm_goto (tgt := 4) d_Fa_oiledSet_33 rfl (sm_sub [2, 0, 1] rfl ?_))
        exact sm_rt rfl
  · refine sm_iload_n (i := 1) (j := 0) (pc' := 37) d_Fa_oiledSet_36 rfl rfl rfl ?_
    exact sm_ireturn d_Fa_oiledSet_37 rfl rfl
theorem d_Fa_showsAhead_0 : m_D k_Fa_showsAhead 0 (.aload_n 0) 1 := (by decide +kernel : decode prog_3_method_7_code 0 = .ok (.aload_n 0, 1))
theorem d_Fa_showsAhead_1 : m_D k_Fa_showsAhead 1 (.getfield 26) 3 := (by decide +kernel : decode prog_3_method_7_code 1 = .ok (.getfield 26, 3))
theorem d_Fa_showsAhead_4 : m_D k_Fa_showsAhead 4 (.iload_n 1) 1 := (by decide +kernel : decode prog_3_method_7_code 4 = .ok (.iload_n 1, 1))
theorem d_Fa_showsAhead_5 : m_D k_Fa_showsAhead 5 (.aaload) 1 := (by decide +kernel : decode prog_3_method_7_code 5 = .ok (.aaload, 1))
theorem d_Fa_showsAhead_6 : m_D k_Fa_showsAhead 6 (.astore_n 3) 1 := (by decide +kernel : decode prog_3_method_7_code 6 = .ok (.astore_n 3, 1))
theorem d_Fa_showsAhead_7 : m_D k_Fa_showsAhead 7 (.aload_n 3) 1 := (by decide +kernel : decode prog_3_method_7_code 7 = .ok (.aload_n 3, 1))
theorem d_Fa_showsAhead_8 : m_D k_Fa_showsAhead 8 (.getfield 65) 3 := (by decide +kernel : decode prog_3_method_7_code 8 = .ok (.getfield 65, 3))
theorem d_Fa_showsAhead_11 : m_D k_Fa_showsAhead 11 (.iload_n 2) 1 := (by decide +kernel : decode prog_3_method_7_code 11 = .ok (.iload_n 2, 1))
theorem d_Fa_showsAhead_12 : m_D k_Fa_showsAhead 12 (.iadd) 1 := (by decide +kernel : decode prog_3_method_7_code 12 = .ok (.iadd, 1))
theorem d_Fa_showsAhead_13 : m_D k_Fa_showsAhead 13 (.istore 4) 2 := (by decide +kernel : decode prog_3_method_7_code 13 = .ok (.istore 4, 2))
theorem d_Fa_showsAhead_15 : m_D k_Fa_showsAhead 15 (.aload_n 3) 1 := (by decide +kernel : decode prog_3_method_7_code 15 = .ok (.aload_n 3, 1))
theorem d_Fa_showsAhead_16 : m_D k_Fa_showsAhead 16 (.getfield 72) 3 := (by decide +kernel : decode prog_3_method_7_code 16 = .ok (.getfield 72, 3))
theorem d_Fa_showsAhead_19 : m_D k_Fa_showsAhead 19 (.ifCond .eq 36) 3 := (by decide +kernel : decode prog_3_method_7_code 19 = .ok (.ifCond .eq 36, 3))
theorem d_Fa_showsAhead_22 : m_D k_Fa_showsAhead 22 (.aload_n 3) 1 := (by decide +kernel : decode prog_3_method_7_code 22 = .ok (.aload_n 3, 1))
theorem d_Fa_showsAhead_23 : m_D k_Fa_showsAhead 23 (.getfield 68) 3 := (by decide +kernel : decode prog_3_method_7_code 23 = .ok (.getfield 68, 3))
theorem d_Fa_showsAhead_26 : m_D k_Fa_showsAhead 26 (.ifCond .eq 29) 3 := (by decide +kernel : decode prog_3_method_7_code 26 = .ok (.ifCond .eq 29, 3))
theorem d_Fa_showsAhead_29 : m_D k_Fa_showsAhead 29 (.iload 4) 2 := (by decide +kernel : decode prog_3_method_7_code 29 = .ok (.iload 4, 2))
theorem d_Fa_showsAhead_31 : m_D k_Fa_showsAhead 31 (.aload_n 0) 1 := (by decide +kernel : decode prog_3_method_7_code 31 = .ok (.aload_n 0, 1))
theorem d_Fa_showsAhead_32 : m_D k_Fa_showsAhead 32 (.getfield 11) 3 := (by decide +kernel : decode prog_3_method_7_code 32 = .ok (.getfield 11, 3))
theorem d_Fa_showsAhead_35 : m_D k_Fa_showsAhead 35 (.if_icmp .lt 20) 3 := (by decide +kernel : decode prog_3_method_7_code 35 = .ok (.if_icmp .lt 20, 3))
theorem d_Fa_showsAhead_38 : m_D k_Fa_showsAhead 38 (.iload_n 2) 1 := (by decide +kernel : decode prog_3_method_7_code 38 = .ok (.iload_n 2, 1))
theorem d_Fa_showsAhead_39 : m_D k_Fa_showsAhead 39 (.ifCond .eq 12) 3 := (by decide +kernel : decode prog_3_method_7_code 39 = .ok (.ifCond .eq 12, 3))
theorem d_Fa_showsAhead_42 : m_D k_Fa_showsAhead 42 (.iload 4) 2 := (by decide +kernel : decode prog_3_method_7_code 42 = .ok (.iload 4, 2))
theorem d_Fa_showsAhead_44 : m_D k_Fa_showsAhead 44 (.aload_n 0) 1 := (by decide +kernel : decode prog_3_method_7_code 44 = .ok (.aload_n 0, 1))
theorem d_Fa_showsAhead_45 : m_D k_Fa_showsAhead 45 (.getfield 15) 3 := (by decide +kernel : decode prog_3_method_7_code 45 = .ok (.getfield 15, 3))
theorem d_Fa_showsAhead_48 : m_D k_Fa_showsAhead 48 (.if_icmp .ge 7) 3 := (by decide +kernel : decode prog_3_method_7_code 48 = .ok (.if_icmp .ge 7, 3))
theorem d_Fa_showsAhead_51 : m_D k_Fa_showsAhead 51 (.iconst 1) 1 := (by decide +kernel : decode prog_3_method_7_code 51 = .ok (.iconst 1, 1))
theorem d_Fa_showsAhead_52 : m_D k_Fa_showsAhead 52 (.goto 4) 3 := (by decide +kernel : decode prog_3_method_7_code 52 = .ok (.goto 4, 3))
theorem d_Fa_showsAhead_55 : m_D k_Fa_showsAhead 55 (.iconst 0) 1 := (by decide +kernel : decode prog_3_method_7_code 55 = .ok (.iconst 0, 1))
theorem d_Fa_showsAhead_56 : m_D k_Fa_showsAhead 56 (.ireturn) 1 := (by decide +kernel : decode prog_3_method_7_code 56 = .ok (.ireturn, 1))
def fn_Fa_showsAhead (x0 : Option mA) (x1 : Int32) (x2 : Int32) : mP Int32 :=
  m_th 3 x0 <|
  m_bd (m_gR 3 7 x0) fun v1 =>
  m_bd (m_aR 6 v1 x1) fun v2 =>
  m_bd (m_gI 4 1 v2) fun v3 =>
  m_bd (m_gI 4 3 v2) fun v4 =>
  if v4 = 0 then
    m_rt 0
  else
    m_bd (m_gI 4 2 v2) fun v5 =>
    if v5 = 0 then
      m_rt 0
    else
      m_bd (m_gI 3 2 x0) fun v6 =>
      if (v3 + x2) < v6 then
        m_rt 0
      else
        if x2 = 0 then
          m_rt 1
        else
          m_bd (m_gI 3 3 x0) fun v7 =>
          if v7 ≤ (v3 + x2) then
            m_rt 0
          else
            m_rt 1
set_option maxHeartbeats 4000000 in
set_option maxRecDepth 100000 in
theorem sd_Fa_showsAhead (x0 : Option mA) (x1 : Int32) (x2 : Int32) : m_Sm k_Fa_showsAhead 1 0 0 [.inr (.inr x0), .inl x1, .inl x2] (fn_Fa_showsAhead x0 x1 x2) (fun b => some (.inl b)) := by
  refine ⟨Nat.le_of_ble_eq_true rfl, ?_⟩
  refine sm_th ?_
  refine sm_aload_n (i := 0) (j := 0) (pc' := 1) d_Fa_showsAhead_0 rfl rfl rfl ?_
  refine sm_getR (pc' := 4) d_Fa_showsAhead_1 rfl fl_Fa_26 rfl rfl (fun v1 => ?_)
  refine sm_iload_n (i := 1) (j := 1) (pc' := 5) d_Fa_showsAhead_4 rfl rfl rfl ?_
  refine sm_aald (t := 6) ⟨by decide, by decide⟩ rfl (pc' := 6) d_Fa_showsAhead_5 rfl (fun v2 => ?_)
  refine sm_astore_n (i := 3) (L' := [(3, .inr (.inr v2)), (0, .inr (.inr x0)), (1, .inl x1), (2, .inl x2)]) (pc' := 7) d_Fa_showsAhead_6 rfl rfl (Nat.le_of_ble_eq_true rfl) rfl (sm_aload_n (i := 3) (j := 0) (pc' := 8) d_Fa_showsAhead_7 rfl rfl rfl ?_)
  refine sm_getI (pc' := 11) d_Fa_showsAhead_8 rfl fl_Fa_65 rfl ⟨by decide, by decide⟩ (fun v3 => ?_)
  refine sm_iload_n (i := 2) (j := 3) (pc' := 12) d_Fa_showsAhead_11 rfl rfl rfl (sm_iadd (pc' := 13) d_Fa_showsAhead_12 rfl (sm_istore (L' := [(4, .inl (v3 + x2)), (3, .inr (.inr v2)), (0, .inr (.inr x0)), (1, .inl x1), (2, .inl x2)]) (pc' := 15) d_Fa_showsAhead_13 rfl (Nat.le_of_ble_eq_true rfl) rfl (sm_aload_n (i := 3) (j := 1) (pc' := 16) d_Fa_showsAhead_15 rfl rfl rfl ?_)))
  refine sm_getI (pc' := 19) d_Fa_showsAhead_16 rfl fl_Fa_72 rfl ⟨by decide, by decide⟩ (fun v4 => ?_)
  refine sm_if_eq (tgt := 55) (pc' := 22) d_Fa_showsAhead_19 rfl rfl ?_ ?_
  · refine sm_iconst (pc' := 56) d_Fa_showsAhead_55 rfl ic_0 ?_
    exact sm_zreturn d_Fa_showsAhead_56 rfl (by decide) rfl
  · refine sm_aload_n (i := 3) (j := 1) (pc' := 23) d_Fa_showsAhead_22 rfl rfl rfl ?_
    refine sm_getI (pc' := 26) d_Fa_showsAhead_23 rfl fl_Fa_68 rfl ⟨by decide, by decide⟩ (fun v5 => ?_)
    refine sm_if_eq (tgt := 55) (pc' := 29) d_Fa_showsAhead_26 rfl rfl ?_ ?_
    · refine sm_iconst (pc' := 56) d_Fa_showsAhead_55 rfl ic_0 ?_
      exact sm_zreturn d_Fa_showsAhead_56 rfl (by decide) rfl
    · refine sm_iload (j := 0) (pc' := 31) d_Fa_showsAhead_29 rfl rfl (sm_aload_n (i := 0) (j := 2) (pc' := 32) d_Fa_showsAhead_31 rfl rfl rfl ?_)
      refine sm_getI (pc' := 35) d_Fa_showsAhead_32 rfl fl_Fa_11 rfl ⟨by decide, by decide⟩ (fun v6 => ?_)
      refine sm_icmp_lt (tgt := 55) (pc' := 38) d_Fa_showsAhead_35 rfl rfl ?_ ?_
      · refine sm_iconst (pc' := 56) d_Fa_showsAhead_55 rfl ic_0 ?_
        exact sm_zreturn d_Fa_showsAhead_56 rfl (by decide) rfl
      · refine sm_iload_n (i := 2) (j := 4) (pc' := 39) d_Fa_showsAhead_38 rfl rfl rfl ?_
        refine sm_if_eq (tgt := 51) (pc' := 42) d_Fa_showsAhead_39 rfl rfl ?_ ?_
        · refine sm_iconst (pc' := 52) d_Fa_showsAhead_51 rfl ic_1 (sm_goto (tgt := 56) d_Fa_showsAhead_52 rfl ?_)
          exact sm_zreturn d_Fa_showsAhead_56 rfl (by decide) rfl
        · refine sm_iload (j := 0) (pc' := 44) d_Fa_showsAhead_42 rfl rfl (sm_aload_n (i := 0) (j := 2) (pc' := 45) d_Fa_showsAhead_44 rfl rfl rfl ?_)
          refine sm_getI (pc' := 48) d_Fa_showsAhead_45 rfl fl_Fa_15 rfl ⟨by decide, by decide⟩ (fun v7 => ?_)
          refine sm_icmp_ge (tgt := 55) (pc' := 51) d_Fa_showsAhead_48 rfl rfl ?_ ?_
          · refine sm_iconst (pc' := 56) d_Fa_showsAhead_55 rfl ic_0 ?_
            exact sm_zreturn d_Fa_showsAhead_56 rfl (by decide) rfl
          · refine sm_iconst (pc' := 52) d_Fa_showsAhead_51 rfl ic_1 (sm_goto (tgt := 56) d_Fa_showsAhead_52 rfl ?_)
            exact sm_zreturn d_Fa_showsAhead_56 rfl (by decide) rfl
theorem d_Fa_showingSet_0 : m_D k_Fa_showingSet 0 (.iconst 0) 1 := (by decide +kernel : decode prog_3_method_8_code 0 = .ok (.iconst 0, 1))
theorem d_Fa_showingSet_1 : m_D k_Fa_showingSet 1 (.istore_n 2) 1 := (by decide +kernel : decode prog_3_method_8_code 1 = .ok (.istore_n 2, 1))
theorem d_Fa_showingSet_2 : m_D k_Fa_showingSet 2 (.iconst 0) 1 := (by decide +kernel : decode prog_3_method_8_code 2 = .ok (.iconst 0, 1))
theorem d_Fa_showingSet_3 : m_D k_Fa_showingSet 3 (.istore_n 3) 1 := (by decide +kernel : decode prog_3_method_8_code 3 = .ok (.istore_n 3, 1))
theorem d_Fa_showingSet_4 : m_D k_Fa_showingSet 4 (.iload_n 3) 1 := (by decide +kernel : decode prog_3_method_8_code 4 = .ok (.iload_n 3, 1))
theorem d_Fa_showingSet_5 : m_D k_Fa_showingSet 5 (.aload_n 0) 1 := (by decide +kernel : decode prog_3_method_8_code 5 = .ok (.aload_n 0, 1))
theorem d_Fa_showingSet_6 : m_D k_Fa_showingSet 6 (.getfield 45) 3 := (by decide +kernel : decode prog_3_method_8_code 6 = .ok (.getfield 45, 3))
theorem d_Fa_showingSet_9 : m_D k_Fa_showingSet 9 (.if_icmp .ge 24) 3 := (by decide +kernel : decode prog_3_method_8_code 9 = .ok (.if_icmp .ge 24, 3))
theorem d_Fa_showingSet_12 : m_D k_Fa_showingSet 12 (.aload_n 0) 1 := (by decide +kernel : decode prog_3_method_8_code 12 = .ok (.aload_n 0, 1))
theorem d_Fa_showingSet_13 : m_D k_Fa_showingSet 13 (.iload_n 3) 1 := (by decide +kernel : decode prog_3_method_8_code 13 = .ok (.iload_n 3, 1))
theorem d_Fa_showingSet_14 : m_D k_Fa_showingSet 14 (.iload_n 1) 1 := (by decide +kernel : decode prog_3_method_8_code 14 = .ok (.iload_n 1, 1))
theorem d_Fa_showingSet_15 : m_D k_Fa_showingSet 15 (.invokevirtual 98) 3 := (by decide +kernel : decode prog_3_method_8_code 15 = .ok (.invokevirtual 98, 3))
theorem d_Fa_showingSet_18 : m_D k_Fa_showingSet 18 (.ifCond .eq 9) 3 := (by decide +kernel : decode prog_3_method_8_code 18 = .ok (.ifCond .eq 9, 3))
theorem d_Fa_showingSet_21 : m_D k_Fa_showingSet 21 (.iload_n 2) 1 := (by decide +kernel : decode prog_3_method_8_code 21 = .ok (.iload_n 2, 1))
theorem d_Fa_showingSet_22 : m_D k_Fa_showingSet 22 (.iconst 1) 1 := (by decide +kernel : decode prog_3_method_8_code 22 = .ok (.iconst 1, 1))
theorem d_Fa_showingSet_23 : m_D k_Fa_showingSet 23 (.iload_n 3) 1 := (by decide +kernel : decode prog_3_method_8_code 23 = .ok (.iload_n 3, 1))
theorem d_Fa_showingSet_24 : m_D k_Fa_showingSet 24 (.ishl) 1 := (by decide +kernel : decode prog_3_method_8_code 24 = .ok (.ishl, 1))
theorem d_Fa_showingSet_25 : m_D k_Fa_showingSet 25 (.ior) 1 := (by decide +kernel : decode prog_3_method_8_code 25 = .ok (.ior, 1))
theorem d_Fa_showingSet_26 : m_D k_Fa_showingSet 26 (.istore_n 2) 1 := (by decide +kernel : decode prog_3_method_8_code 26 = .ok (.istore_n 2, 1))
theorem d_Fa_showingSet_27 : m_D k_Fa_showingSet 27 (.iinc 3 1) 3 := (by decide +kernel : decode prog_3_method_8_code 27 = .ok (.iinc 3 1, 3))
theorem d_Fa_showingSet_30 : m_D k_Fa_showingSet 30 (.goto (-26)) 3 := (by decide +kernel : decode prog_3_method_8_code 30 = .ok (.goto (-26), 3))
theorem d_Fa_showingSet_33 : m_D k_Fa_showingSet 33 (.iload_n 2) 1 := (by decide +kernel : decode prog_3_method_8_code 33 = .ok (.iload_n 2, 1))
theorem d_Fa_showingSet_34 : m_D k_Fa_showingSet 34 (.ireturn) 1 := (by decide +kernel : decode prog_3_method_8_code 34 = .ok (.ireturn, 1))
def fn_Fa_showingSet_l4 (x0 : Option mA) (x1 : Int32) (t1 : Int32 × Int32) : mP ((Int32 × Int32) ⊕ (Int32)) :=
  m_bd (m_gI 3 0 x0) fun v2 =>
  if v2 ≤ t1.2 then
    m_rt (.inr t1.1)
  else
    m_bd (fn_Fa_showsAhead x0 t1.2 x1) fun v3 =>
    m_bd (α := Int32) (
      if v3 = 0 then
        m_rt t1.1
      else
        m_rt (t1.1 ||| (1 <<< (t1.2 &&& 31)))
      ) fun (t4 : Int32) =>
    m_rt (.inl (t4, (t1.2 + 1)))
def fn_Fa_showingSet (x0 : Option mA) (x1 : Int32) : mP Int32 :=
  m_th 3 x0 <|
  m_bd (m_lp (fn_Fa_showingSet_l4 x0 x1) m_F (0, 0)) fun (t5 : Int32) =>
  m_rt t5
set_option maxHeartbeats 4000000 in
set_option maxRecDepth 100000 in
theorem sd_Fa_showingSet (x0 : Option mA) (x1 : Int32) : m_Sm k_Fa_showingSet 2 0 0 [.inr (.inr x0), .inl x1] (fn_Fa_showingSet x0 x1) (fun b => some (.inl b)) := by
  refine ⟨Nat.le_of_ble_eq_true rfl, ?_⟩
  refine sm_th ?_
  refine sm_iconst (pc' := 1) d_Fa_showingSet_0 rfl ic_0 (sm_istore_n (i := 2) (L' := [(2, .inl 0), (0, .inr (.inr x0)), (1, .inl x1)]) (pc' := 2) d_Fa_showingSet_1 rfl rfl (Nat.le_of_ble_eq_true rfl) rfl (sm_iconst (pc' := 3) d_Fa_showingSet_2 rfl ic_0 (sm_istore_n (i := 3) (L' := [(3, .inl 0), (2, .inl 0), (0, .inr (.inr x0)), (1, .inl x1)]) (pc' := 4) d_Fa_showingSet_3 rfl rfl (Nat.le_of_ble_eq_true rfl) rfl ?_)))
  refine sm_sub [1, 0, 2, 3] rfl ?_
  refine sm_bd (mid := fun (t5 : Int32) => .inl (33, [(2, .inl t5)], [])) (sm_lp (hd := fun (t1 : Int32 × Int32) => (.inl (4, [(2, .inl t1.1), (3, .inl t1.2), (0, .inr (.inr x0)), (1, .inl x1)], []) : mC)) (fun t1 => ?_) m_F (0, 0)) (fun t5 => ?_)
  · refine sm_iload_n (i := 3) (j := 1) (pc' := 5) d_Fa_showingSet_4 rfl rfl rfl (sm_aload_n (i := 0) (j := 2) (pc' := 6) d_Fa_showingSet_5 rfl rfl rfl ?_)
    refine sm_getI (pc' := 9) d_Fa_showingSet_6 rfl fl_Fa_45 rfl ⟨by decide, by decide⟩ (fun v2 => ?_)
    refine sm_icmp_ge (tgt := 33) (pc' := 12) d_Fa_showingSet_9 rfl rfl ?_ ?_
    · refine sm_sub [0] rfl ?_
      exact sm_rt rfl
    · refine sm_aload_n (i := 0) (j := 2) (pc' := 13) d_Fa_showingSet_12 rfl rfl rfl (sm_iload_n (i := 3) (j := 1) (pc' := 14) d_Fa_showingSet_13 rfl rfl rfl (sm_iload_n (i := 1) (j := 3) (pc' := 15) d_Fa_showingSet_14 rfl rfl rfl ?_))
      refine sm_callVi (ci := 3) (x := x0) (av := [.inl t1.2, .inl x1]) (st := []) (mc := 0) (ms := 0) (pc' := 18) d_Fa_showingSet_15 rfl (sd_Fa_showsAhead x0 t1.2 x1) m_lv rfl cv_Fa_showsAhead w_ml_Fa_98 rfl rfl (by decide) (Nat.le_of_ble_eq_true rfl) rfl rfl (fun v3 => ?_)
      refine sm_bd (mid := fun (t4 : Int32) => .inl (27, [(0, .inr (.inr x0)), (1, .inl x1), (2, .inl t4), (3, .inl t1.2)], [])) ?_ (fun t4 => ?_)
      · refine sm_if_eq (tgt := 27) (pc' := 21) d_Fa_showingSet_18 rfl rfl ?_ ?_
        · refine sm_sub [2, 3, 0, 1] rfl ?_
          exact sm_rt rfl
        · refine sm_iload_n (i := 2) (j := 0) (pc' := 22) d_Fa_showingSet_21 rfl rfl rfl (sm_iconst (pc' := 23) d_Fa_showingSet_22 rfl ic_1 (sm_iload_n (i := 3) (j := 1) (pc' := 24) d_Fa_showingSet_23 rfl rfl rfl (sm_ishl (pc' := 25) d_Fa_showingSet_24 rfl (sm_ior (pc' := 26) d_Fa_showingSet_25 rfl (sm_istore_n (i := 2) (L' := [(2, .inl (t1.1 ||| (1 <<< (t1.2 &&& 31)))), (3, .inl t1.2), (0, .inr (.inr x0)), (1, .inl x1)]) (pc' := 27) d_Fa_showingSet_26 rfl rfl (Nat.le_of_ble_eq_true rfl) rfl (sm_sub [2, 3, 0, 1] rfl ?_))))))
          exact sm_rt rfl
      · refine sm_iinc (j := 3) (L' := [(3, .inl (t1.2 + 1)), (0, .inr (.inr x0)), (1, .inl x1), (2, .inl t4)]) (pc' := 30) d_Fa_showingSet_27 rfl (v := (t1.2 + 1)) rfl (ix_1 _) (Nat.le_of_ble_eq_true rfl) rfl (sm_goto (tgt := 4) d_Fa_showingSet_30 rfl (sm_sub [3, 0, 1, 2] rfl ?_))
        exact sm_rt rfl
  · refine sm_iload_n (i := 2) (j := 0) (pc' := 34) d_Fa_showingSet_33 rfl rfl rfl ?_
    exact sm_ireturn d_Fa_showingSet_34 rfl rfl
theorem d_Th_isThrough_0 : m_D k_Th_isThrough 0 (.aload_n 0) 1 := (by decide +kernel : decode prog_11_method_3_code 0 = .ok (.aload_n 0, 1))
theorem d_Th_isThrough_1 : m_D k_Th_isThrough 1 (.getfield 22) 3 := (by decide +kernel : decode prog_11_method_3_code 1 = .ok (.getfield 22, 3))
theorem d_Th_isThrough_4 : m_D k_Th_isThrough 4 (.aload_n 0) 1 := (by decide +kernel : decode prog_11_method_3_code 4 = .ok (.aload_n 0, 1))
theorem d_Th_isThrough_5 : m_D k_Th_isThrough 5 (.getfield 15) 3 := (by decide +kernel : decode prog_11_method_3_code 5 = .ok (.getfield 15, 3))
theorem d_Th_isThrough_8 : m_D k_Th_isThrough 8 (.if_icmp .lt 7) 3 := (by decide +kernel : decode prog_11_method_3_code 8 = .ok (.if_icmp .lt 7, 3))
theorem d_Th_isThrough_11 : m_D k_Th_isThrough 11 (.iconst 1) 1 := (by decide +kernel : decode prog_11_method_3_code 11 = .ok (.iconst 1, 1))
theorem d_Th_isThrough_12 : m_D k_Th_isThrough 12 (.goto 4) 3 := (by decide +kernel : decode prog_11_method_3_code 12 = .ok (.goto 4, 3))
theorem d_Th_isThrough_15 : m_D k_Th_isThrough 15 (.iconst 0) 1 := (by decide +kernel : decode prog_11_method_3_code 15 = .ok (.iconst 0, 1))
theorem d_Th_isThrough_16 : m_D k_Th_isThrough 16 (.ireturn) 1 := (by decide +kernel : decode prog_11_method_3_code 16 = .ok (.ireturn, 1))
def fn_Th_isThrough (x0 : Option mA) : mP Int32 :=
  m_th 5 x0 <|
  m_bd (m_gI 5 3 x0) fun v1 =>
  m_bd (m_gI 5 1 x0) fun v2 =>
  if v1 < v2 then
    m_rt 0
  else
    m_rt 1
set_option maxHeartbeats 4000000 in
set_option maxRecDepth 100000 in
theorem sd_Th_isThrough (x0 : Option mA) : m_Sm k_Th_isThrough 1 0 0 [.inr (.inr x0)] (fn_Th_isThrough x0) (fun b => some (.inl b)) := by
  refine ⟨Nat.le_of_ble_eq_true rfl, ?_⟩
  refine sm_th ?_
  refine sm_aload_n (i := 0) (j := 0) (pc' := 1) d_Th_isThrough_0 rfl rfl rfl ?_
  refine sm_getI (pc' := 4) d_Th_isThrough_1 rfl fl_Th_22 rfl ⟨by decide, by decide⟩ (fun v1 => ?_)
  refine sm_aload_n (i := 0) (j := 0) (pc' := 5) d_Th_isThrough_4 rfl rfl rfl ?_
  refine sm_getI (pc' := 8) d_Th_isThrough_5 rfl fl_Th_15 rfl ⟨by decide, by decide⟩ (fun v2 => ?_)
  refine sm_icmp_lt (tgt := 15) (pc' := 11) d_Th_isThrough_8 rfl rfl ?_ ?_
  · refine sm_iconst (pc' := 16) d_Th_isThrough_15 rfl ic_0 ?_
    exact sm_zreturn d_Th_isThrough_16 rfl (by decide) rfl
  · refine sm_iconst (pc' := 12) d_Th_isThrough_11 rfl ic_1 (sm_goto (tgt := 16) d_Th_isThrough_12 rfl ?_)
    exact sm_zreturn d_Th_isThrough_16 rfl (by decide) rfl
theorem d_Fa_throughSet_0 : m_D k_Fa_throughSet 0 (.iconst 0) 1 := (by decide +kernel : decode prog_3_method_12_code 0 = .ok (.iconst 0, 1))
theorem d_Fa_throughSet_1 : m_D k_Fa_throughSet 1 (.istore_n 1) 1 := (by decide +kernel : decode prog_3_method_12_code 1 = .ok (.istore_n 1, 1))
theorem d_Fa_throughSet_2 : m_D k_Fa_throughSet 2 (.iconst 0) 1 := (by decide +kernel : decode prog_3_method_12_code 2 = .ok (.iconst 0, 1))
theorem d_Fa_throughSet_3 : m_D k_Fa_throughSet 3 (.istore_n 2) 1 := (by decide +kernel : decode prog_3_method_12_code 3 = .ok (.istore_n 2, 1))
theorem d_Fa_throughSet_4 : m_D k_Fa_throughSet 4 (.iload_n 2) 1 := (by decide +kernel : decode prog_3_method_12_code 4 = .ok (.iload_n 2, 1))
theorem d_Fa_throughSet_5 : m_D k_Fa_throughSet 5 (.aload_n 0) 1 := (by decide +kernel : decode prog_3_method_12_code 5 = .ok (.aload_n 0, 1))
theorem d_Fa_throughSet_6 : m_D k_Fa_throughSet 6 (.getfield 48) 3 := (by decide +kernel : decode prog_3_method_12_code 6 = .ok (.getfield 48, 3))
theorem d_Fa_throughSet_9 : m_D k_Fa_throughSet 9 (.if_icmp .ge 27) 3 := (by decide +kernel : decode prog_3_method_12_code 9 = .ok (.if_icmp .ge 27, 3))
theorem d_Fa_throughSet_12 : m_D k_Fa_throughSet 12 (.aload_n 0) 1 := (by decide +kernel : decode prog_3_method_12_code 12 = .ok (.aload_n 0, 1))
theorem d_Fa_throughSet_13 : m_D k_Fa_throughSet 13 (.getfield 33) 3 := (by decide +kernel : decode prog_3_method_12_code 13 = .ok (.getfield 33, 3))
theorem d_Fa_throughSet_16 : m_D k_Fa_throughSet 16 (.iload_n 2) 1 := (by decide +kernel : decode prog_3_method_12_code 16 = .ok (.iload_n 2, 1))
theorem d_Fa_throughSet_17 : m_D k_Fa_throughSet 17 (.aaload) 1 := (by decide +kernel : decode prog_3_method_12_code 17 = .ok (.aaload, 1))
theorem d_Fa_throughSet_18 : m_D k_Fa_throughSet 18 (.invokevirtual 110) 3 := (by decide +kernel : decode prog_3_method_12_code 18 = .ok (.invokevirtual 110, 3))
theorem d_Fa_throughSet_21 : m_D k_Fa_throughSet 21 (.ifCond .eq 9) 3 := (by decide +kernel : decode prog_3_method_12_code 21 = .ok (.ifCond .eq 9, 3))
theorem d_Fa_throughSet_24 : m_D k_Fa_throughSet 24 (.iload_n 1) 1 := (by decide +kernel : decode prog_3_method_12_code 24 = .ok (.iload_n 1, 1))
theorem d_Fa_throughSet_25 : m_D k_Fa_throughSet 25 (.iconst 1) 1 := (by decide +kernel : decode prog_3_method_12_code 25 = .ok (.iconst 1, 1))
theorem d_Fa_throughSet_26 : m_D k_Fa_throughSet 26 (.iload_n 2) 1 := (by decide +kernel : decode prog_3_method_12_code 26 = .ok (.iload_n 2, 1))
theorem d_Fa_throughSet_27 : m_D k_Fa_throughSet 27 (.ishl) 1 := (by decide +kernel : decode prog_3_method_12_code 27 = .ok (.ishl, 1))
theorem d_Fa_throughSet_28 : m_D k_Fa_throughSet 28 (.ior) 1 := (by decide +kernel : decode prog_3_method_12_code 28 = .ok (.ior, 1))
theorem d_Fa_throughSet_29 : m_D k_Fa_throughSet 29 (.istore_n 1) 1 := (by decide +kernel : decode prog_3_method_12_code 29 = .ok (.istore_n 1, 1))
theorem d_Fa_throughSet_30 : m_D k_Fa_throughSet 30 (.iinc 2 1) 3 := (by decide +kernel : decode prog_3_method_12_code 30 = .ok (.iinc 2 1, 3))
theorem d_Fa_throughSet_33 : m_D k_Fa_throughSet 33 (.goto (-29)) 3 := (by decide +kernel : decode prog_3_method_12_code 33 = .ok (.goto (-29), 3))
theorem d_Fa_throughSet_36 : m_D k_Fa_throughSet 36 (.iload_n 1) 1 := (by decide +kernel : decode prog_3_method_12_code 36 = .ok (.iload_n 1, 1))
theorem d_Fa_throughSet_37 : m_D k_Fa_throughSet 37 (.ireturn) 1 := (by decide +kernel : decode prog_3_method_12_code 37 = .ok (.ireturn, 1))
def fn_Fa_throughSet_l4 (x0 : Option mA) (t1 : Int32 × Int32) : mP ((Int32 × Int32) ⊕ (Int32)) :=
  m_bd (m_gI 3 1 x0) fun v2 =>
  if v2 ≤ t1.2 then
    m_rt (.inr t1.1)
  else
    m_bd (m_gR 3 8 x0) fun v3 =>
    m_bd (m_aR 7 v3 t1.2) fun v4 =>
    m_bd (fn_Th_isThrough v4) fun v5 =>
    m_bd (α := Int32) (
      if v5 = 0 then
        m_rt t1.1
      else
        m_rt (t1.1 ||| (1 <<< (t1.2 &&& 31)))
      ) fun (t6 : Int32) =>
    m_rt (.inl (t6, (t1.2 + 1)))
def fn_Fa_throughSet (x0 : Option mA) : mP Int32 :=
  m_th 3 x0 <|
  m_bd (m_lp (fn_Fa_throughSet_l4 x0) m_F (0, 0)) fun (t7 : Int32) =>
  m_rt t7
set_option maxHeartbeats 4000000 in
set_option maxRecDepth 100000 in
theorem sd_Fa_throughSet (x0 : Option mA) : m_Sm k_Fa_throughSet 2 0 0 [.inr (.inr x0)] (fn_Fa_throughSet x0) (fun b => some (.inl b)) := by
  refine ⟨Nat.le_of_ble_eq_true rfl, ?_⟩
  refine sm_th ?_
  refine sm_iconst (pc' := 1) d_Fa_throughSet_0 rfl ic_0 (sm_istore_n (i := 1) (L' := [(1, .inl 0), (0, .inr (.inr x0))]) (pc' := 2) d_Fa_throughSet_1 rfl rfl (Nat.le_of_ble_eq_true rfl) rfl (sm_iconst (pc' := 3) d_Fa_throughSet_2 rfl ic_0 (sm_istore_n (i := 2) (L' := [(2, .inl 0), (1, .inl 0), (0, .inr (.inr x0))]) (pc' := 4) d_Fa_throughSet_3 rfl rfl (Nat.le_of_ble_eq_true rfl) rfl ?_)))
  refine sm_sub [1, 0, 2] rfl ?_
  refine sm_bd (mid := fun (t7 : Int32) => .inl (36, [(1, .inl t7)], [])) (sm_lp (hd := fun (t1 : Int32 × Int32) => (.inl (4, [(1, .inl t1.1), (2, .inl t1.2), (0, .inr (.inr x0))], []) : mC)) (fun t1 => ?_) m_F (0, 0)) (fun t7 => ?_)
  · refine sm_iload_n (i := 2) (j := 1) (pc' := 5) d_Fa_throughSet_4 rfl rfl rfl (sm_aload_n (i := 0) (j := 2) (pc' := 6) d_Fa_throughSet_5 rfl rfl rfl ?_)
    refine sm_getI (pc' := 9) d_Fa_throughSet_6 rfl fl_Fa_48 rfl ⟨by decide, by decide⟩ (fun v2 => ?_)
    refine sm_icmp_ge (tgt := 36) (pc' := 12) d_Fa_throughSet_9 rfl rfl ?_ ?_
    · refine sm_sub [0] rfl ?_
      exact sm_rt rfl
    · refine sm_aload_n (i := 0) (j := 2) (pc' := 13) d_Fa_throughSet_12 rfl rfl rfl ?_
      refine sm_getR (pc' := 16) d_Fa_throughSet_13 rfl fl_Fa_33 rfl rfl (fun v3 => ?_)
      refine sm_iload_n (i := 2) (j := 1) (pc' := 17) d_Fa_throughSet_16 rfl rfl rfl ?_
      refine sm_aald (t := 7) ⟨by decide, by decide⟩ rfl (pc' := 18) d_Fa_throughSet_17 rfl (fun v4 => ?_)
      refine sm_callVi (ci := 5) (x := v4) (av := []) (st := []) (mc := 0) (ms := 0) (pc' := 21) d_Fa_throughSet_18 rfl (sd_Th_isThrough v4) m_lv rfl cv_Th_isThrough w_ml_Fa_110 rfl rfl (by decide) (Nat.le_of_ble_eq_true rfl) rfl rfl (fun v5 => ?_)
      refine sm_bd (mid := fun (t6 : Int32) => .inl (30, [(0, .inr (.inr x0)), (1, .inl t6), (2, .inl t1.2)], [])) ?_ (fun t6 => ?_)
      · refine sm_if_eq (tgt := 30) (pc' := 24) d_Fa_throughSet_21 rfl rfl ?_ ?_
        · refine sm_sub [2, 0, 1] rfl ?_
          exact sm_rt rfl
        · refine sm_iload_n (i := 1) (j := 0) (pc' := 25) d_Fa_throughSet_24 rfl rfl rfl (sm_iconst (pc' := 26) d_Fa_throughSet_25 rfl ic_1 (sm_iload_n (i := 2) (j := 1) (pc' := 27) d_Fa_throughSet_26 rfl rfl rfl (sm_ishl (pc' := 28) d_Fa_throughSet_27 rfl (sm_ior (pc' := 29) d_Fa_throughSet_28 rfl (sm_istore_n (i := 1) (L' := [(1, .inl (t1.1 ||| (1 <<< (t1.2 &&& 31)))), (2, .inl t1.2), (0, .inr (.inr x0))]) (pc' := 30) d_Fa_throughSet_29 rfl rfl (Nat.le_of_ble_eq_true rfl) rfl (sm_sub [2, 0, 1] rfl ?_))))))
          exact sm_rt rfl
      · refine sm_iinc (j := 2) (L' := [(2, .inl (t1.2 + 1)), (0, .inr (.inr x0)), (1, .inl t6)]) (pc' := 33) d_Fa_throughSet_30 rfl (v := (t1.2 + 1)) rfl (ix_1 _) (Nat.le_of_ble_eq_true rfl) rfl (sm_goto (tgt := 4) d_Fa_throughSet_33 rfl (sm_sub [2, 0, 1] rfl ?_))
        exact sm_rt rfl
  · refine sm_iload_n (i := 1) (j := 0) (pc' := 37) d_Fa_throughSet_36 rfl rfl rfl ?_
    exact sm_ireturn d_Fa_throughSet_37 rfl rfl
theorem d_C_many_0 : m_D k_C_many 0 (.aload_n 0) 1 := (by decide +kernel : decode prog_1_method_17_code 0 = .ok (.aload_n 0, 1))
theorem d_C_many_1 : m_D k_C_many 1 (.iconst 0) 1 := (by decide +kernel : decode prog_1_method_17_code 1 = .ok (.iconst 0, 1))
theorem d_C_many_2 : m_D k_C_many 2 (.putfield 9) 3 := (by decide +kernel : decode prog_1_method_17_code 2 = .ok (.putfield 9, 3))
theorem d_C_many_5 : m_D k_C_many 5 (.iload_n 1) 1 := (by decide +kernel : decode prog_1_method_17_code 5 = .ok (.iload_n 1, 1))
theorem d_C_many_6 : m_D k_C_many 6 (.tableswitch 159 0 11 #[62, 70, 78, 86, 94, 102, 110, 118, 126, 135, 143, 151]) 62 := (by decide +kernel : decode prog_1_method_17_code 6 = .ok (.tableswitch 159 0 11 #[62, 70, 78, 86, 94, 102, 110, 118, 126, 135, 143, 151], 62))
theorem d_C_many_68 : m_D k_C_many 68 (.aload_n 0) 1 := (by decide +kernel : decode prog_1_method_17_code 68 = .ok (.aload_n 0, 1))
theorem d_C_many_69 : m_D k_C_many 69 (.getfield 37) 3 := (by decide +kernel : decode prog_1_method_17_code 69 = .ok (.getfield 37, 3))
theorem d_C_many_72 : m_D k_C_many 72 (.getfield 175) 3 := (by decide +kernel : decode prog_1_method_17_code 72 = .ok (.getfield 175, 3))
theorem d_C_many_75 : m_D k_C_many 75 (.ireturn) 1 := (by decide +kernel : decode prog_1_method_17_code 75 = .ok (.ireturn, 1))
theorem d_C_many_76 : m_D k_C_many 76 (.aload_n 0) 1 := (by decide +kernel : decode prog_1_method_17_code 76 = .ok (.aload_n 0, 1))
theorem d_C_many_77 : m_D k_C_many 77 (.getfield 37) 3 := (by decide +kernel : decode prog_1_method_17_code 77 = .ok (.getfield 37, 3))
theorem d_C_many_80 : m_D k_C_many 80 (.getfield 156) 3 := (by decide +kernel : decode prog_1_method_17_code 80 = .ok (.getfield 156, 3))
theorem d_C_many_83 : m_D k_C_many 83 (.ireturn) 1 := (by decide +kernel : decode prog_1_method_17_code 83 = .ok (.ireturn, 1))
theorem d_C_many_84 : m_D k_C_many 84 (.aload_n 0) 1 := (by decide +kernel : decode prog_1_method_17_code 84 = .ok (.aload_n 0, 1))
theorem d_C_many_85 : m_D k_C_many 85 (.getfield 37) 3 := (by decide +kernel : decode prog_1_method_17_code 85 = .ok (.getfield 37, 3))
theorem d_C_many_88 : m_D k_C_many 88 (.getfield 178) 3 := (by decide +kernel : decode prog_1_method_17_code 88 = .ok (.getfield 178, 3))
theorem d_C_many_91 : m_D k_C_many 91 (.ireturn) 1 := (by decide +kernel : decode prog_1_method_17_code 91 = .ok (.ireturn, 1))
theorem d_C_many_92 : m_D k_C_many 92 (.aload_n 0) 1 := (by decide +kernel : decode prog_1_method_17_code 92 = .ok (.aload_n 0, 1))
theorem d_C_many_93 : m_D k_C_many 93 (.getfield 37) 3 := (by decide +kernel : decode prog_1_method_17_code 93 = .ok (.getfield 37, 3))
theorem d_C_many_96 : m_D k_C_many 96 (.getfield 181) 3 := (by decide +kernel : decode prog_1_method_17_code 96 = .ok (.getfield 181, 3))
theorem d_C_many_99 : m_D k_C_many 99 (.ireturn) 1 := (by decide +kernel : decode prog_1_method_17_code 99 = .ok (.ireturn, 1))
theorem d_C_many_100 : m_D k_C_many 100 (.aload_n 0) 1 := (by decide +kernel : decode prog_1_method_17_code 100 = .ok (.aload_n 0, 1))
theorem d_C_many_101 : m_D k_C_many 101 (.getfield 37) 3 := (by decide +kernel : decode prog_1_method_17_code 101 = .ok (.getfield 37, 3))
theorem d_C_many_104 : m_D k_C_many 104 (.getfield 184) 3 := (by decide +kernel : decode prog_1_method_17_code 104 = .ok (.getfield 184, 3))
theorem d_C_many_107 : m_D k_C_many 107 (.ireturn) 1 := (by decide +kernel : decode prog_1_method_17_code 107 = .ok (.ireturn, 1))
theorem d_C_many_108 : m_D k_C_many 108 (.aload_n 0) 1 := (by decide +kernel : decode prog_1_method_17_code 108 = .ok (.aload_n 0, 1))
theorem d_C_many_109 : m_D k_C_many 109 (.getfield 37) 3 := (by decide +kernel : decode prog_1_method_17_code 109 = .ok (.getfield 37, 3))
theorem d_C_many_112 : m_D k_C_many 112 (.getfield 187) 3 := (by decide +kernel : decode prog_1_method_17_code 112 = .ok (.getfield 187, 3))
theorem d_C_many_115 : m_D k_C_many 115 (.ireturn) 1 := (by decide +kernel : decode prog_1_method_17_code 115 = .ok (.ireturn, 1))
theorem d_C_many_116 : m_D k_C_many 116 (.aload_n 0) 1 := (by decide +kernel : decode prog_1_method_17_code 116 = .ok (.aload_n 0, 1))
theorem d_C_many_117 : m_D k_C_many 117 (.getfield 37) 3 := (by decide +kernel : decode prog_1_method_17_code 117 = .ok (.getfield 37, 3))
theorem d_C_many_120 : m_D k_C_many 120 (.getfield 190) 3 := (by decide +kernel : decode prog_1_method_17_code 120 = .ok (.getfield 190, 3))
theorem d_C_many_123 : m_D k_C_many 123 (.ireturn) 1 := (by decide +kernel : decode prog_1_method_17_code 123 = .ok (.ireturn, 1))
theorem d_C_many_124 : m_D k_C_many 124 (.aload_n 0) 1 := (by decide +kernel : decode prog_1_method_17_code 124 = .ok (.aload_n 0, 1))
theorem d_C_many_125 : m_D k_C_many 125 (.getfield 37) 3 := (by decide +kernel : decode prog_1_method_17_code 125 = .ok (.getfield 37, 3))
theorem d_C_many_128 : m_D k_C_many 128 (.invokevirtual 193) 3 := (by decide +kernel : decode prog_1_method_17_code 128 = .ok (.invokevirtual 193, 3))
theorem d_C_many_131 : m_D k_C_many 131 (.ireturn) 1 := (by decide +kernel : decode prog_1_method_17_code 131 = .ok (.ireturn, 1))
theorem d_C_many_132 : m_D k_C_many 132 (.aload_n 0) 1 := (by decide +kernel : decode prog_1_method_17_code 132 = .ok (.aload_n 0, 1))
theorem d_C_many_133 : m_D k_C_many 133 (.getfield 37) 3 := (by decide +kernel : decode prog_1_method_17_code 133 = .ok (.getfield 37, 3))
theorem d_C_many_136 : m_D k_C_many 136 (.iconst 0) 1 := (by decide +kernel : decode prog_1_method_17_code 136 = .ok (.iconst 0, 1))
theorem d_C_many_137 : m_D k_C_many 137 (.invokevirtual 197) 3 := (by decide +kernel : decode prog_1_method_17_code 137 = .ok (.invokevirtual 197, 3))
theorem d_C_many_140 : m_D k_C_many 140 (.ireturn) 1 := (by decide +kernel : decode prog_1_method_17_code 140 = .ok (.ireturn, 1))
theorem d_C_many_141 : m_D k_C_many 141 (.aload_n 0) 1 := (by decide +kernel : decode prog_1_method_17_code 141 = .ok (.aload_n 0, 1))
theorem d_C_many_142 : m_D k_C_many 142 (.getfield 37) 3 := (by decide +kernel : decode prog_1_method_17_code 142 = .ok (.getfield 37, 3))
theorem d_C_many_145 : m_D k_C_many 145 (.invokevirtual 200) 3 := (by decide +kernel : decode prog_1_method_17_code 145 = .ok (.invokevirtual 200, 3))
theorem d_C_many_148 : m_D k_C_many 148 (.ireturn) 1 := (by decide +kernel : decode prog_1_method_17_code 148 = .ok (.ireturn, 1))
theorem d_C_many_149 : m_D k_C_many 149 (.aload_n 0) 1 := (by decide +kernel : decode prog_1_method_17_code 149 = .ok (.aload_n 0, 1))
theorem d_C_many_150 : m_D k_C_many 150 (.getfield 37) 3 := (by decide +kernel : decode prog_1_method_17_code 150 = .ok (.getfield 37, 3))
theorem d_C_many_153 : m_D k_C_many 153 (.invokevirtual 203) 3 := (by decide +kernel : decode prog_1_method_17_code 153 = .ok (.invokevirtual 203, 3))
theorem d_C_many_156 : m_D k_C_many 156 (.ireturn) 1 := (by decide +kernel : decode prog_1_method_17_code 156 = .ok (.ireturn, 1))
theorem d_C_many_157 : m_D k_C_many 157 (.aload_n 0) 1 := (by decide +kernel : decode prog_1_method_17_code 157 = .ok (.aload_n 0, 1))
theorem d_C_many_158 : m_D k_C_many 158 (.getfield 37) 3 := (by decide +kernel : decode prog_1_method_17_code 158 = .ok (.getfield 37, 3))
theorem d_C_many_161 : m_D k_C_many 161 (.invokevirtual 206) 3 := (by decide +kernel : decode prog_1_method_17_code 161 = .ok (.invokevirtual 206, 3))
theorem d_C_many_164 : m_D k_C_many 164 (.ireturn) 1 := (by decide +kernel : decode prog_1_method_17_code 164 = .ok (.ireturn, 1))
theorem d_C_many_165 : m_D k_C_many 165 (.aload_n 0) 1 := (by decide +kernel : decode prog_1_method_17_code 165 = .ok (.aload_n 0, 1))
theorem d_C_many_166 : m_D k_C_many 166 (.iconst 5) 1 := (by decide +kernel : decode prog_1_method_17_code 166 = .ok (.iconst 5, 1))
theorem d_C_many_167 : m_D k_C_many 167 (.putfield 9) 3 := (by decide +kernel : decode prog_1_method_17_code 167 = .ok (.putfield 9, 3))
theorem d_C_many_170 : m_D k_C_many 170 (.iconst (-1)) 1 := (by decide +kernel : decode prog_1_method_17_code 170 = .ok (.iconst (-1), 1))
theorem d_C_many_171 : m_D k_C_many 171 (.ireturn) 1 := (by decide +kernel : decode prog_1_method_17_code 171 = .ok (.ireturn, 1))
def fn_C_many (x0 : Option mA) (x1 : Int32) : mP Int32 :=
  m_th 0 x0 <|
  m_bd (m_pI 0 0 x0 0) fun _ =>
  if x1 = 0 then
    m_bd (m_gR 0 5 x0) fun v1 =>
    m_bd (m_gI 3 0 v1) fun v2 =>
    m_rt v2
  else if x1 = 1 then
    m_bd (m_gR 0 5 x0) fun v3 =>
    m_bd (m_gI 3 1 v3) fun v4 =>
    m_rt v4
  else if x1 = 2 then
    m_bd (m_gR 0 5 x0) fun v5 =>
    m_bd (m_gI 3 2 v5) fun v6 =>
    m_rt v6
  else if x1 = 3 then
    m_bd (m_gR 0 5 x0) fun v7 =>
    m_bd (m_gI 3 3 v7) fun v8 =>
    m_rt v8
  else if x1 = 4 then
    m_bd (m_gR 0 5 x0) fun v9 =>
    m_bd (m_gI 3 4 v9) fun v10 =>
    m_rt v10
  else if x1 = 5 then
    m_bd (m_gR 0 5 x0) fun v11 =>
    m_bd (m_gI 3 5 v11) fun v12 =>
    m_rt v12
  else if x1 = 6 then
    m_bd (m_gR 0 5 x0) fun v13 =>
    m_bd (m_gI 3 6 v13) fun v14 =>
    m_rt v14
  else if x1 = 7 then
    m_bd (m_gR 0 5 x0) fun v15 =>
    m_bd (fn_Fa_livingSet v15) fun v16 =>
    m_rt v16
  else if x1 = 8 then
    m_bd (m_gR 0 5 x0) fun v17 =>
    m_bd (fn_Fa_showingSet v17 0) fun v18 =>
    m_rt v18
  else if x1 = 9 then
    m_bd (m_gR 0 5 x0) fun v19 =>
    m_bd (fn_Fa_throughSet v19) fun v20 =>
    m_rt v20
  else if x1 = 10 then
    m_bd (m_gR 0 5 x0) fun v21 =>
    m_bd (fn_Fa_oiledSet v21) fun v22 =>
    m_rt v22
  else if x1 = 11 then
    m_bd (m_gR 0 5 x0) fun v23 =>
    m_bd (fn_Fa_allRust v23) fun v24 =>
    m_rt v24
  else
    m_bd (m_pI 0 0 x0 5) fun _ =>
    m_rt (-1)
set_option maxHeartbeats 4000000 in
set_option maxRecDepth 100000 in
theorem sd_C_many (x0 : Option mA) (x1 : Int32) : m_Sm k_C_many 3 0 0 [.inr (.inr x0), .inl x1] (fn_C_many x0 x1) (fun b => some (.inl b)) := by
  refine ⟨Nat.le_of_ble_eq_true rfl, ?_⟩
  refine sm_th ?_
  refine sm_aload_n (i := 0) (j := 0) (pc' := 1) d_C_many_0 rfl rfl rfl (sm_iconst (pc' := 2) d_C_many_1 rfl ic_0 (sm_putI (pc' := 5) d_C_many_2 rfl fl_C_9 (Or.inl rfl) rfl (sm_iload_n (i := 1) (j := 1) (pc' := 6) d_C_many_5 rfl rfl rfl ?_)))
  refine sm_ite (fun hs6_0 => ?_) (fun hs6_0 => ?_)
  · refine sm_tabIn (off := 62) (tgt := 68) d_C_many_6 (by rw [hs6_0]; decide) (by rw [hs6_0]; decide) (by rw [hs6_0]; rfl) rfl ?_
    refine sm_aload_n (i := 0) (j := 0) (pc' := 69) d_C_many_68 rfl rfl rfl ?_
    refine sm_getR (pc' := 72) d_C_many_69 rfl fl_C_37 rfl rfl (fun v1 => ?_)
    refine sm_getI (pc' := 75) d_C_many_72 rfl fl_C_175 rfl ⟨by decide, by decide⟩ (fun v2 => ?_)
    exact sm_ireturn d_C_many_75 rfl rfl
  refine sm_ite (fun hs6_1 => ?_) (fun hs6_1 => ?_)
  · refine sm_tabIn (off := 70) (tgt := 76) d_C_many_6 (by rw [hs6_1]; decide) (by rw [hs6_1]; decide) (by rw [hs6_1]; rfl) rfl ?_
    refine sm_aload_n (i := 0) (j := 0) (pc' := 77) d_C_many_76 rfl rfl rfl ?_
    refine sm_getR (pc' := 80) d_C_many_77 rfl fl_C_37 rfl rfl (fun v3 => ?_)
    refine sm_getI (pc' := 83) d_C_many_80 rfl fl_C_156 rfl ⟨by decide, by decide⟩ (fun v4 => ?_)
    exact sm_ireturn d_C_many_83 rfl rfl
  refine sm_ite (fun hs6_2 => ?_) (fun hs6_2 => ?_)
  · refine sm_tabIn (off := 78) (tgt := 84) d_C_many_6 (by rw [hs6_2]; decide) (by rw [hs6_2]; decide) (by rw [hs6_2]; rfl) rfl ?_
    refine sm_aload_n (i := 0) (j := 0) (pc' := 85) d_C_many_84 rfl rfl rfl ?_
    refine sm_getR (pc' := 88) d_C_many_85 rfl fl_C_37 rfl rfl (fun v5 => ?_)
    refine sm_getI (pc' := 91) d_C_many_88 rfl fl_C_178 rfl ⟨by decide, by decide⟩ (fun v6 => ?_)
    exact sm_ireturn d_C_many_91 rfl rfl
  refine sm_ite (fun hs6_3 => ?_) (fun hs6_3 => ?_)
  · refine sm_tabIn (off := 86) (tgt := 92) d_C_many_6 (by rw [hs6_3]; decide) (by rw [hs6_3]; decide) (by rw [hs6_3]; rfl) rfl ?_
    refine sm_aload_n (i := 0) (j := 0) (pc' := 93) d_C_many_92 rfl rfl rfl ?_
    refine sm_getR (pc' := 96) d_C_many_93 rfl fl_C_37 rfl rfl (fun v7 => ?_)
    refine sm_getI (pc' := 99) d_C_many_96 rfl fl_C_181 rfl ⟨by decide, by decide⟩ (fun v8 => ?_)
    exact sm_ireturn d_C_many_99 rfl rfl
  refine sm_ite (fun hs6_4 => ?_) (fun hs6_4 => ?_)
  · refine sm_tabIn (off := 94) (tgt := 100) d_C_many_6 (by rw [hs6_4]; decide) (by rw [hs6_4]; decide) (by rw [hs6_4]; rfl) rfl ?_
    refine sm_aload_n (i := 0) (j := 0) (pc' := 101) d_C_many_100 rfl rfl rfl ?_
    refine sm_getR (pc' := 104) d_C_many_101 rfl fl_C_37 rfl rfl (fun v9 => ?_)
    refine sm_getI (pc' := 107) d_C_many_104 rfl fl_C_184 rfl ⟨by decide, by decide⟩ (fun v10 => ?_)
    exact sm_ireturn d_C_many_107 rfl rfl
  refine sm_ite (fun hs6_5 => ?_) (fun hs6_5 => ?_)
  · refine sm_tabIn (off := 102) (tgt := 108) d_C_many_6 (by rw [hs6_5]; decide) (by rw [hs6_5]; decide) (by rw [hs6_5]; rfl) rfl ?_
    refine sm_aload_n (i := 0) (j := 0) (pc' := 109) d_C_many_108 rfl rfl rfl ?_
    refine sm_getR (pc' := 112) d_C_many_109 rfl fl_C_37 rfl rfl (fun v11 => ?_)
    refine sm_getI (pc' := 115) d_C_many_112 rfl fl_C_187 rfl ⟨by decide, by decide⟩ (fun v12 => ?_)
    exact sm_ireturn d_C_many_115 rfl rfl
  refine sm_ite (fun hs6_6 => ?_) (fun hs6_6 => ?_)
  · refine sm_tabIn (off := 110) (tgt := 116) d_C_many_6 (by rw [hs6_6]; decide) (by rw [hs6_6]; decide) (by rw [hs6_6]; rfl) rfl ?_
    refine sm_aload_n (i := 0) (j := 0) (pc' := 117) d_C_many_116 rfl rfl rfl ?_
    refine sm_getR (pc' := 120) d_C_many_117 rfl fl_C_37 rfl rfl (fun v13 => ?_)
    refine sm_getI (pc' := 123) d_C_many_120 rfl fl_C_190 rfl ⟨by decide, by decide⟩ (fun v14 => ?_)
    exact sm_ireturn d_C_many_123 rfl rfl
  refine sm_ite (fun hs6_7 => ?_) (fun hs6_7 => ?_)
  · refine sm_tabIn (off := 118) (tgt := 124) d_C_many_6 (by rw [hs6_7]; decide) (by rw [hs6_7]; decide) (by rw [hs6_7]; rfl) rfl ?_
    refine sm_aload_n (i := 0) (j := 0) (pc' := 125) d_C_many_124 rfl rfl rfl ?_
    refine sm_getR (pc' := 128) d_C_many_125 rfl fl_C_37 rfl rfl (fun v15 => ?_)
    refine sm_callVi (ci := 3) (x := v15) (av := []) (st := []) (mc := 0) (ms := 0) (pc' := 131) d_C_many_128 rfl (sd_Fa_livingSet v15) m_lv rfl cv_Fa_livingSet w_ml_C_193 rfl rfl (by decide) (Nat.le_of_ble_eq_true rfl) rfl rfl (fun v16 => ?_)
    exact sm_ireturn d_C_many_131 rfl rfl
  refine sm_ite (fun hs6_8 => ?_) (fun hs6_8 => ?_)
  · refine sm_tabIn (off := 126) (tgt := 132) d_C_many_6 (by rw [hs6_8]; decide) (by rw [hs6_8]; decide) (by rw [hs6_8]; rfl) rfl ?_
    refine sm_aload_n (i := 0) (j := 0) (pc' := 133) d_C_many_132 rfl rfl rfl ?_
    refine sm_getR (pc' := 136) d_C_many_133 rfl fl_C_37 rfl rfl (fun v17 => ?_)
    refine sm_iconst (pc' := 137) d_C_many_136 rfl ic_0 ?_
    refine sm_callVi (ci := 3) (x := v17) (av := [.inl 0]) (st := []) (mc := 0) (ms := 0) (pc' := 140) d_C_many_137 rfl (sd_Fa_showingSet v17 0) m_lv rfl cv_Fa_showingSet w_ml_C_197 rfl rfl (by decide) (Nat.le_of_ble_eq_true rfl) rfl rfl (fun v18 => ?_)
    exact sm_ireturn d_C_many_140 rfl rfl
  refine sm_ite (fun hs6_9 => ?_) (fun hs6_9 => ?_)
  · refine sm_tabIn (off := 135) (tgt := 141) d_C_many_6 (by rw [hs6_9]; decide) (by rw [hs6_9]; decide) (by rw [hs6_9]; rfl) rfl ?_
    refine sm_aload_n (i := 0) (j := 0) (pc' := 142) d_C_many_141 rfl rfl rfl ?_
    refine sm_getR (pc' := 145) d_C_many_142 rfl fl_C_37 rfl rfl (fun v19 => ?_)
    refine sm_callVi (ci := 3) (x := v19) (av := []) (st := []) (mc := 0) (ms := 0) (pc' := 148) d_C_many_145 rfl (sd_Fa_throughSet v19) m_lv rfl cv_Fa_throughSet w_ml_C_200 rfl rfl (by decide) (Nat.le_of_ble_eq_true rfl) rfl rfl (fun v20 => ?_)
    exact sm_ireturn d_C_many_148 rfl rfl
  refine sm_ite (fun hs6_10 => ?_) (fun hs6_10 => ?_)
  · refine sm_tabIn (off := 143) (tgt := 149) d_C_many_6 (by rw [hs6_10]; decide) (by rw [hs6_10]; decide) (by rw [hs6_10]; rfl) rfl ?_
    refine sm_aload_n (i := 0) (j := 0) (pc' := 150) d_C_many_149 rfl rfl rfl ?_
    refine sm_getR (pc' := 153) d_C_many_150 rfl fl_C_37 rfl rfl (fun v21 => ?_)
    refine sm_callVi (ci := 3) (x := v21) (av := []) (st := []) (mc := 0) (ms := 0) (pc' := 156) d_C_many_153 rfl (sd_Fa_oiledSet v21) m_lv rfl cv_Fa_oiledSet w_ml_C_203 rfl rfl (by decide) (Nat.le_of_ble_eq_true rfl) rfl rfl (fun v22 => ?_)
    exact sm_ireturn d_C_many_156 rfl rfl
  refine sm_ite (fun hs6_11 => ?_) (fun hs6_11 => ?_)
  · refine sm_tabIn (off := 151) (tgt := 157) d_C_many_6 (by rw [hs6_11]; decide) (by rw [hs6_11]; decide) (by rw [hs6_11]; rfl) rfl ?_
    refine sm_aload_n (i := 0) (j := 0) (pc' := 158) d_C_many_157 rfl rfl rfl ?_
    refine sm_getR (pc' := 161) d_C_many_158 rfl fl_C_37 rfl rfl (fun v23 => ?_)
    refine sm_callVi (ci := 3) (x := v23) (av := []) (st := []) (mc := 0) (ms := 0) (pc' := 164) d_C_many_161 rfl (sd_Fa_allRust v23) m_lv rfl cv_Fa_allRust w_ml_C_206 rfl rfl (by decide) (Nat.le_of_ble_eq_true rfl) rfl rfl (fun v24 => ?_)
    exact sm_ireturn d_C_many_164 rfl rfl
  refine sm_tabOut (tgt := 165) d_C_many_6 (by have z0 : (x1).toInt ≠ 0 := fun e => hs6_0 (Int32.toInt_inj.mp (by rw [e]; rfl)); have z1 : (x1).toInt ≠ 1 := fun e => hs6_1 (Int32.toInt_inj.mp (by rw [e]; rfl)); have z2 : (x1).toInt ≠ 2 := fun e => hs6_2 (Int32.toInt_inj.mp (by rw [e]; rfl)); have z3 : (x1).toInt ≠ 3 := fun e => hs6_3 (Int32.toInt_inj.mp (by rw [e]; rfl)); have z4 : (x1).toInt ≠ 4 := fun e => hs6_4 (Int32.toInt_inj.mp (by rw [e]; rfl)); have z5 : (x1).toInt ≠ 5 := fun e => hs6_5 (Int32.toInt_inj.mp (by rw [e]; rfl)); have z6 : (x1).toInt ≠ 6 := fun e => hs6_6 (Int32.toInt_inj.mp (by rw [e]; rfl)); have z7 : (x1).toInt ≠ 7 := fun e => hs6_7 (Int32.toInt_inj.mp (by rw [e]; rfl)); have z8 : (x1).toInt ≠ 8 := fun e => hs6_8 (Int32.toInt_inj.mp (by rw [e]; rfl)); have z9 : (x1).toInt ≠ 9 := fun e => hs6_9 (Int32.toInt_inj.mp (by rw [e]; rfl)); have z10 : (x1).toInt ≠ 10 := fun e => hs6_10 (Int32.toInt_inj.mp (by rw [e]; rfl)); have z11 : (x1).toInt ≠ 11 := fun e => hs6_11 (Int32.toInt_inj.mp (by rw [e]; rfl)); omega) rfl ?_
  refine sm_aload_n (i := 0) (j := 0) (pc' := 166) d_C_many_165 rfl rfl rfl (sm_iconst (pc' := 167) d_C_many_166 rfl ic_5 (sm_putI (pc' := 170) d_C_many_167 rfl fl_C_9 (Or.inl rfl) rfl (sm_iconst (pc' := 171) d_C_many_170 rfl ic_m1 ?_)))
  exact sm_ireturn d_C_many_171 rfl rfl
theorem d_C_isPerson_0 : m_D k_C_isPerson 0 (.iload_n 1) 1 := (by decide +kernel : decode prog_1_method_22_code 0 = .ok (.iload_n 1, 1))
theorem d_C_isPerson_1 : m_D k_C_isPerson 1 (.ifCond .lt 18) 3 := (by decide +kernel : decode prog_1_method_22_code 1 = .ok (.ifCond .lt 18, 3))
theorem d_C_isPerson_4 : m_D k_C_isPerson 4 (.iload_n 1) 1 := (by decide +kernel : decode prog_1_method_22_code 4 = .ok (.iload_n 1, 1))
theorem d_C_isPerson_5 : m_D k_C_isPerson 5 (.aload_n 0) 1 := (by decide +kernel : decode prog_1_method_22_code 5 = .ok (.aload_n 0, 1))
theorem d_C_isPerson_6 : m_D k_C_isPerson 6 (.getfield 37) 3 := (by decide +kernel : decode prog_1_method_22_code 6 = .ok (.getfield 37, 3))
theorem d_C_isPerson_9 : m_D k_C_isPerson 9 (.getfield 175) 3 := (by decide +kernel : decode prog_1_method_22_code 9 = .ok (.getfield 175, 3))
theorem d_C_isPerson_12 : m_D k_C_isPerson 12 (.if_icmp .ge 7) 3 := (by decide +kernel : decode prog_1_method_22_code 12 = .ok (.if_icmp .ge 7, 3))
theorem d_C_isPerson_15 : m_D k_C_isPerson 15 (.iconst 1) 1 := (by decide +kernel : decode prog_1_method_22_code 15 = .ok (.iconst 1, 1))
theorem d_C_isPerson_16 : m_D k_C_isPerson 16 (.goto 4) 3 := (by decide +kernel : decode prog_1_method_22_code 16 = .ok (.goto 4, 3))
theorem d_C_isPerson_19 : m_D k_C_isPerson 19 (.iconst 0) 1 := (by decide +kernel : decode prog_1_method_22_code 19 = .ok (.iconst 0, 1))
theorem d_C_isPerson_20 : m_D k_C_isPerson 20 (.ireturn) 1 := (by decide +kernel : decode prog_1_method_22_code 20 = .ok (.ireturn, 1))
def fn_C_isPerson (x0 : Option mA) (x1 : Int32) : mP Int32 :=
  m_th 0 x0 <|
  if x1 < 0 then
    m_rt 0
  else
    m_bd (m_gR 0 5 x0) fun v1 =>
    m_bd (m_gI 3 0 v1) fun v2 =>
    if v2 ≤ x1 then
      m_rt 0
    else
      m_rt 1
set_option maxHeartbeats 4000000 in
set_option maxRecDepth 100000 in
theorem sd_C_isPerson (x0 : Option mA) (x1 : Int32) : m_Sm k_C_isPerson 1 0 0 [.inr (.inr x0), .inl x1] (fn_C_isPerson x0 x1) (fun b => some (.inl b)) := by
  refine ⟨Nat.le_of_ble_eq_true rfl, ?_⟩
  refine sm_th ?_
  refine sm_iload_n (i := 1) (j := 1) (pc' := 1) d_C_isPerson_0 rfl rfl rfl ?_
  refine sm_if_lt (tgt := 19) (pc' := 4) d_C_isPerson_1 rfl rfl ?_ ?_
  · refine sm_iconst (pc' := 20) d_C_isPerson_19 rfl ic_0 ?_
    exact sm_zreturn d_C_isPerson_20 rfl (by decide) rfl
  · refine sm_iload_n (i := 1) (j := 1) (pc' := 5) d_C_isPerson_4 rfl rfl rfl (sm_aload_n (i := 0) (j := 0) (pc' := 6) d_C_isPerson_5 rfl rfl rfl ?_)
    refine sm_getR (pc' := 9) d_C_isPerson_6 rfl fl_C_37 rfl rfl (fun v1 => ?_)
    refine sm_getI (pc' := 12) d_C_isPerson_9 rfl fl_C_175 rfl ⟨by decide, by decide⟩ (fun v2 => ?_)
    refine sm_icmp_ge (tgt := 19) (pc' := 15) d_C_isPerson_12 rfl rfl ?_ ?_
    · refine sm_iconst (pc' := 20) d_C_isPerson_19 rfl ic_0 ?_
      exact sm_zreturn d_C_isPerson_20 rfl (by decide) rfl
    · refine sm_iconst (pc' := 16) d_C_isPerson_15 rfl ic_1 (sm_goto (tgt := 20) d_C_isPerson_16 rfl ?_)
      exact sm_zreturn d_C_isPerson_20 rfl (by decide) rfl
theorem d_Pe_lovedSet_0 : m_D k_Pe_lovedSet 0 (.iconst 0) 1 := (by decide +kernel : decode prog_6_method_3_code 0 = .ok (.iconst 0, 1))
theorem d_Pe_lovedSet_1 : m_D k_Pe_lovedSet 1 (.istore_n 2) 1 := (by decide +kernel : decode prog_6_method_3_code 1 = .ok (.istore_n 2, 1))
theorem d_Pe_lovedSet_2 : m_D k_Pe_lovedSet 2 (.iconst 0) 1 := (by decide +kernel : decode prog_6_method_3_code 2 = .ok (.iconst 0, 1))
theorem d_Pe_lovedSet_3 : m_D k_Pe_lovedSet 3 (.istore_n 3) 1 := (by decide +kernel : decode prog_6_method_3_code 3 = .ok (.istore_n 3, 1))
theorem d_Pe_lovedSet_4 : m_D k_Pe_lovedSet 4 (.iload_n 3) 1 := (by decide +kernel : decode prog_6_method_3_code 4 = .ok (.iload_n 3, 1))
theorem d_Pe_lovedSet_5 : m_D k_Pe_lovedSet 5 (.iload_n 1) 1 := (by decide +kernel : decode prog_6_method_3_code 5 = .ok (.iload_n 1, 1))
theorem d_Pe_lovedSet_6 : m_D k_Pe_lovedSet 6 (.if_icmp .ge 24) 3 := (by decide +kernel : decode prog_6_method_3_code 6 = .ok (.if_icmp .ge 24, 3))
theorem d_Pe_lovedSet_9 : m_D k_Pe_lovedSet 9 (.aload_n 0) 1 := (by decide +kernel : decode prog_6_method_3_code 9 = .ok (.aload_n 0, 1))
theorem d_Pe_lovedSet_10 : m_D k_Pe_lovedSet 10 (.getfield 9) 3 := (by decide +kernel : decode prog_6_method_3_code 10 = .ok (.getfield 9, 3))
theorem d_Pe_lovedSet_13 : m_D k_Pe_lovedSet 13 (.iload_n 3) 1 := (by decide +kernel : decode prog_6_method_3_code 13 = .ok (.iload_n 3, 1))
theorem d_Pe_lovedSet_14 : m_D k_Pe_lovedSet 14 (.iaload) 1 := (by decide +kernel : decode prog_6_method_3_code 14 = .ok (.iaload, 1))
theorem d_Pe_lovedSet_15 : m_D k_Pe_lovedSet 15 (.ifCond .le 9) 3 := (by decide +kernel : decode prog_6_method_3_code 15 = .ok (.ifCond .le 9, 3))
theorem d_Pe_lovedSet_18 : m_D k_Pe_lovedSet 18 (.iload_n 2) 1 := (by decide +kernel : decode prog_6_method_3_code 18 = .ok (.iload_n 2, 1))
theorem d_Pe_lovedSet_19 : m_D k_Pe_lovedSet 19 (.iconst 1) 1 := (by decide +kernel : decode prog_6_method_3_code 19 = .ok (.iconst 1, 1))
theorem d_Pe_lovedSet_20 : m_D k_Pe_lovedSet 20 (.iload_n 3) 1 := (by decide +kernel : decode prog_6_method_3_code 20 = .ok (.iload_n 3, 1))
theorem d_Pe_lovedSet_21 : m_D k_Pe_lovedSet 21 (.ishl) 1 := (by decide +kernel : decode prog_6_method_3_code 21 = .ok (.ishl, 1))
theorem d_Pe_lovedSet_22 : m_D k_Pe_lovedSet 22 (.ior) 1 := (by decide +kernel : decode prog_6_method_3_code 22 = .ok (.ior, 1))
theorem d_Pe_lovedSet_23 : m_D k_Pe_lovedSet 23 (.istore_n 2) 1 := (by decide +kernel : decode prog_6_method_3_code 23 = .ok (.istore_n 2, 1))
theorem d_Pe_lovedSet_24 : m_D k_Pe_lovedSet 24 (.iinc 3 1) 3 := (by decide +kernel : decode prog_6_method_3_code 24 = .ok (.iinc 3 1, 3))
theorem d_Pe_lovedSet_27 : m_D k_Pe_lovedSet 27 (.goto (-23)) 3 := (by decide +kernel : decode prog_6_method_3_code 27 = .ok (.goto (-23), 3))
theorem d_Pe_lovedSet_30 : m_D k_Pe_lovedSet 30 (.iload_n 2) 1 := (by decide +kernel : decode prog_6_method_3_code 30 = .ok (.iload_n 2, 1))
theorem d_Pe_lovedSet_31 : m_D k_Pe_lovedSet 31 (.ireturn) 1 := (by decide +kernel : decode prog_6_method_3_code 31 = .ok (.ireturn, 1))
def fn_Pe_lovedSet_l4 (x0 : Option mA) (x1 : Int32) (t1 : Int32 × Int32) : mP ((Int32 × Int32) ⊕ (Int32)) :=
  if x1 ≤ t1.2 then
    m_rt (.inr t1.1)
  else
    m_bd (m_gR 4 4 x0) fun v2 =>
    m_bd (m_aI 0 v2 t1.2) fun v3 =>
    m_bd (α := Int32) (
      if v3 ≤ 0 then
        m_rt t1.1
      else
        m_rt (t1.1 ||| (1 <<< (t1.2 &&& 31)))
      ) fun (t4 : Int32) =>
    m_rt (.inl (t4, (t1.2 + 1)))
def fn_Pe_lovedSet (x0 : Option mA) (x1 : Int32) : mP Int32 :=
  m_th 4 x0 <|
  m_bd (m_lp (fn_Pe_lovedSet_l4 x0 x1) m_F (0, 0)) fun (t5 : Int32) =>
  m_rt t5
set_option maxHeartbeats 4000000 in
set_option maxRecDepth 100000 in
theorem sd_Pe_lovedSet (x0 : Option mA) (x1 : Int32) : m_Sm k_Pe_lovedSet 1 0 0 [.inr (.inr x0), .inl x1] (fn_Pe_lovedSet x0 x1) (fun b => some (.inl b)) := by
  refine ⟨Nat.le_of_ble_eq_true rfl, ?_⟩
  refine sm_th ?_
  refine sm_iconst (pc' := 1) d_Pe_lovedSet_0 rfl ic_0 (sm_istore_n (i := 2) (L' := [(2, .inl 0), (0, .inr (.inr x0)), (1, .inl x1)]) (pc' := 2) d_Pe_lovedSet_1 rfl rfl (Nat.le_of_ble_eq_true rfl) rfl (sm_iconst (pc' := 3) d_Pe_lovedSet_2 rfl ic_0 (sm_istore_n (i := 3) (L' := [(3, .inl 0), (2, .inl 0), (0, .inr (.inr x0)), (1, .inl x1)]) (pc' := 4) d_Pe_lovedSet_3 rfl rfl (Nat.le_of_ble_eq_true rfl) rfl ?_)))
  refine sm_sub [1, 0, 2, 3] rfl ?_
  refine sm_bd (mid := fun (t5 : Int32) => .inl (30, [(2, .inl t5)], [])) (sm_lp (hd := fun (t1 : Int32 × Int32) => (.inl (4, [(2, .inl t1.1), (3, .inl t1.2), (0, .inr (.inr x0)), (1, .inl x1)], []) : mC)) (fun t1 => ?_) m_F (0, 0)) (fun t5 => ?_)
  · refine sm_iload_n (i := 3) (j := 1) (pc' := 5) d_Pe_lovedSet_4 rfl rfl rfl (sm_iload_n (i := 1) (j := 3) (pc' := 6) d_Pe_lovedSet_5 rfl rfl rfl ?_)
    refine sm_icmp_ge (tgt := 30) (pc' := 9) d_Pe_lovedSet_6 rfl rfl ?_ ?_
    · refine sm_sub [0] rfl ?_
      exact sm_rt rfl
    · refine sm_aload_n (i := 0) (j := 2) (pc' := 10) d_Pe_lovedSet_9 rfl rfl rfl ?_
      refine sm_getR (pc' := 13) d_Pe_lovedSet_10 rfl fl_Pe_9 rfl rfl (fun v2 => ?_)
      refine sm_iload_n (i := 3) (j := 1) (pc' := 14) d_Pe_lovedSet_13 rfl rfl rfl ?_
      refine sm_iald (pc' := 15) d_Pe_lovedSet_14 rfl (fun v3 => ?_)
      refine sm_bd (mid := fun (t4 : Int32) => .inl (24, [(0, .inr (.inr x0)), (1, .inl x1), (2, .inl t4), (3, .inl t1.2)], [])) ?_ (fun t4 => ?_)
      · refine sm_if_le (tgt := 24) (pc' := 18) d_Pe_lovedSet_15 rfl rfl ?_ ?_
        · refine sm_sub [2, 3, 0, 1] rfl ?_
          exact sm_rt rfl
        · refine sm_iload_n (i := 2) (j := 0) (pc' := 19) d_Pe_lovedSet_18 rfl rfl rfl (sm_iconst (pc' := 20) d_Pe_lovedSet_19 rfl ic_1 (sm_iload_n (i := 3) (j := 1) (pc' := 21) d_Pe_lovedSet_20 rfl rfl rfl (sm_ishl (pc' := 22) d_Pe_lovedSet_21 rfl (sm_ior (pc' := 23) d_Pe_lovedSet_22 rfl (sm_istore_n (i := 2) (L' := [(2, .inl (t1.1 ||| (1 <<< (t1.2 &&& 31)))), (3, .inl t1.2), (0, .inr (.inr x0)), (1, .inl x1)]) (pc' := 24) d_Pe_lovedSet_23 rfl rfl (Nat.le_of_ble_eq_true rfl) rfl (sm_sub [2, 3, 0, 1] rfl ?_))))))
          exact sm_rt rfl
      · refine sm_iinc (j := 3) (L' := [(3, .inl (t1.2 + 1)), (0, .inr (.inr x0)), (1, .inl x1), (2, .inl t4)]) (pc' := 27) d_Pe_lovedSet_24 rfl (v := (t1.2 + 1)) rfl (ix_1 _) (Nat.le_of_ble_eq_true rfl) rfl (sm_goto (tgt := 4) d_Pe_lovedSet_27 rfl (sm_sub [3, 0, 1, 2] rfl ?_))
        exact sm_rt rfl
  · refine sm_iload_n (i := 2) (j := 0) (pc' := 31) d_Pe_lovedSet_30 rfl rfl rfl ?_
    exact sm_ireturn d_Pe_lovedSet_31 rfl rfl
theorem d_C_person_0 : m_D k_C_person 0 (.aload_n 0) 1 := (by decide +kernel : decode prog_1_method_18_code 0 = .ok (.aload_n 0, 1))
theorem d_C_person_1 : m_D k_C_person 1 (.aload_n 0) 1 := (by decide +kernel : decode prog_1_method_18_code 1 = .ok (.aload_n 0, 1))
theorem d_C_person_2 : m_D k_C_person 2 (.iload_n 1) 1 := (by decide +kernel : decode prog_1_method_18_code 2 = .ok (.iload_n 1, 1))
theorem d_C_person_3 : m_D k_C_person 3 (.invokevirtual 209) 3 := (by decide +kernel : decode prog_1_method_18_code 3 = .ok (.invokevirtual 209, 3))
theorem d_C_person_6 : m_D k_C_person 6 (.ifCond .ne 7) 3 := (by decide +kernel : decode prog_1_method_18_code 6 = .ok (.ifCond .ne 7, 3))
theorem d_C_person_9 : m_D k_C_person 9 (.iconst 2) 1 := (by decide +kernel : decode prog_1_method_18_code 9 = .ok (.iconst 2, 1))
theorem d_C_person_10 : m_D k_C_person 10 (.goto 17) 3 := (by decide +kernel : decode prog_1_method_18_code 10 = .ok (.goto 17, 3))
theorem d_C_person_13 : m_D k_C_person 13 (.iload_n 2) 1 := (by decide +kernel : decode prog_1_method_18_code 13 = .ok (.iload_n 2, 1))
theorem d_C_person_14 : m_D k_C_person 14 (.ifCond .lt 8) 3 := (by decide +kernel : decode prog_1_method_18_code 14 = .ok (.ifCond .lt 8, 3))
theorem d_C_person_17 : m_D k_C_person 17 (.iload_n 2) 1 := (by decide +kernel : decode prog_1_method_18_code 17 = .ok (.iload_n 2, 1))
theorem d_C_person_18 : m_D k_C_person 18 (.iconst 4) 1 := (by decide +kernel : decode prog_1_method_18_code 18 = .ok (.iconst 4, 1))
theorem d_C_person_19 : m_D k_C_person 19 (.if_icmp .le 7) 3 := (by decide +kernel : decode prog_1_method_18_code 19 = .ok (.if_icmp .le 7, 3))
theorem d_C_person_22 : m_D k_C_person 22 (.iconst 5) 1 := (by decide +kernel : decode prog_1_method_18_code 22 = .ok (.iconst 5, 1))
theorem d_C_person_23 : m_D k_C_person 23 (.goto 4) 3 := (by decide +kernel : decode prog_1_method_18_code 23 = .ok (.goto 4, 3))
theorem d_C_person_26 : m_D k_C_person 26 (.iconst 0) 1 := (by decide +kernel : decode prog_1_method_18_code 26 = .ok (.iconst 0, 1))
theorem d_C_person_27 : m_D k_C_person 27 (.putfield 9) 3 := (by decide +kernel : decode prog_1_method_18_code 27 = .ok (.putfield 9, 3))
theorem d_C_person_30 : m_D k_C_person 30 (.aload_n 0) 1 := (by decide +kernel : decode prog_1_method_18_code 30 = .ok (.aload_n 0, 1))
theorem d_C_person_31 : m_D k_C_person 31 (.getfield 9) 3 := (by decide +kernel : decode prog_1_method_18_code 31 = .ok (.getfield 9, 3))
theorem d_C_person_34 : m_D k_C_person 34 (.ifCond .eq 5) 3 := (by decide +kernel : decode prog_1_method_18_code 34 = .ok (.ifCond .eq 5, 3))
theorem d_C_person_37 : m_D k_C_person 37 (.iconst (-1)) 1 := (by decide +kernel : decode prog_1_method_18_code 37 = .ok (.iconst (-1), 1))
theorem d_C_person_38 : m_D k_C_person 38 (.ireturn) 1 := (by decide +kernel : decode prog_1_method_18_code 38 = .ok (.ireturn, 1))
theorem d_C_person_39 : m_D k_C_person 39 (.aload_n 0) 1 := (by decide +kernel : decode prog_1_method_18_code 39 = .ok (.aload_n 0, 1))
theorem d_C_person_40 : m_D k_C_person 40 (.getfield 37) 3 := (by decide +kernel : decode prog_1_method_18_code 40 = .ok (.getfield 37, 3))
theorem d_C_person_43 : m_D k_C_person 43 (.getfield 212) 3 := (by decide +kernel : decode prog_1_method_18_code 43 = .ok (.getfield 212, 3))
theorem d_C_person_46 : m_D k_C_person 46 (.iload_n 1) 1 := (by decide +kernel : decode prog_1_method_18_code 46 = .ok (.iload_n 1, 1))
theorem d_C_person_47 : m_D k_C_person 47 (.aaload) 1 := (by decide +kernel : decode prog_1_method_18_code 47 = .ok (.aaload, 1))
theorem d_C_person_48 : m_D k_C_person 48 (.astore_n 3) 1 := (by decide +kernel : decode prog_1_method_18_code 48 = .ok (.astore_n 3, 1))
theorem d_C_person_49 : m_D k_C_person 49 (.iload_n 2) 1 := (by decide +kernel : decode prog_1_method_18_code 49 = .ok (.iload_n 2, 1))
theorem d_C_person_50 : m_D k_C_person 50 (.tableswitch 79 0 3 #[30, 35, 48, 61]) 30 := (by decide +kernel : decode prog_1_method_18_code 50 = .ok (.tableswitch 79 0 3 #[30, 35, 48, 61], 30))
theorem d_C_person_80 : m_D k_C_person 80 (.aload_n 3) 1 := (by decide +kernel : decode prog_1_method_18_code 80 = .ok (.aload_n 3, 1))
theorem d_C_person_81 : m_D k_C_person 81 (.getfield 216) 3 := (by decide +kernel : decode prog_1_method_18_code 81 = .ok (.getfield 216, 3))
theorem d_C_person_84 : m_D k_C_person 84 (.ireturn) 1 := (by decide +kernel : decode prog_1_method_18_code 84 = .ok (.ireturn, 1))
theorem d_C_person_85 : m_D k_C_person 85 (.aload_n 3) 1 := (by decide +kernel : decode prog_1_method_18_code 85 = .ok (.aload_n 3, 1))
theorem d_C_person_86 : m_D k_C_person 86 (.getfield 221) 3 := (by decide +kernel : decode prog_1_method_18_code 86 = .ok (.getfield 221, 3))
theorem d_C_person_89 : m_D k_C_person 89 (.ifCond .eq 7) 3 := (by decide +kernel : decode prog_1_method_18_code 89 = .ok (.ifCond .eq 7, 3))
theorem d_C_person_92 : m_D k_C_person 92 (.iconst 1) 1 := (by decide +kernel : decode prog_1_method_18_code 92 = .ok (.iconst 1, 1))
theorem d_C_person_93 : m_D k_C_person 93 (.goto 4) 3 := (by decide +kernel : decode prog_1_method_18_code 93 = .ok (.goto 4, 3))
theorem d_C_person_96 : m_D k_C_person 96 (.iconst 0) 1 := (by decide +kernel : decode prog_1_method_18_code 96 = .ok (.iconst 0, 1))
theorem d_C_person_97 : m_D k_C_person 97 (.ireturn) 1 := (by decide +kernel : decode prog_1_method_18_code 97 = .ok (.ireturn, 1))
theorem d_C_person_98 : m_D k_C_person 98 (.aload_n 3) 1 := (by decide +kernel : decode prog_1_method_18_code 98 = .ok (.aload_n 3, 1))
theorem d_C_person_99 : m_D k_C_person 99 (.getfield 224) 3 := (by decide +kernel : decode prog_1_method_18_code 99 = .ok (.getfield 224, 3))
theorem d_C_person_102 : m_D k_C_person 102 (.ifCond .eq 7) 3 := (by decide +kernel : decode prog_1_method_18_code 102 = .ok (.ifCond .eq 7, 3))
theorem d_C_person_105 : m_D k_C_person 105 (.iconst 1) 1 := (by decide +kernel : decode prog_1_method_18_code 105 = .ok (.iconst 1, 1))
theorem d_C_person_106 : m_D k_C_person 106 (.goto 4) 3 := (by decide +kernel : decode prog_1_method_18_code 106 = .ok (.goto 4, 3))
theorem d_C_person_109 : m_D k_C_person 109 (.iconst 0) 1 := (by decide +kernel : decode prog_1_method_18_code 109 = .ok (.iconst 0, 1))
theorem d_C_person_110 : m_D k_C_person 110 (.ireturn) 1 := (by decide +kernel : decode prog_1_method_18_code 110 = .ok (.ireturn, 1))
theorem d_C_person_111 : m_D k_C_person 111 (.aload_n 0) 1 := (by decide +kernel : decode prog_1_method_18_code 111 = .ok (.aload_n 0, 1))
theorem d_C_person_112 : m_D k_C_person 112 (.getfield 37) 3 := (by decide +kernel : decode prog_1_method_18_code 112 = .ok (.getfield 37, 3))
theorem d_C_person_115 : m_D k_C_person 115 (.iload_n 1) 1 := (by decide +kernel : decode prog_1_method_18_code 115 = .ok (.iload_n 1, 1))
theorem d_C_person_116 : m_D k_C_person 116 (.iconst 0) 1 := (by decide +kernel : decode prog_1_method_18_code 116 = .ok (.iconst 0, 1))
theorem d_C_person_117 : m_D k_C_person 117 (.invokevirtual 227) 3 := (by decide +kernel : decode prog_1_method_18_code 117 = .ok (.invokevirtual 227, 3))
theorem d_C_person_120 : m_D k_C_person 120 (.ifCond .eq 7) 3 := (by decide +kernel : decode prog_1_method_18_code 120 = .ok (.ifCond .eq 7, 3))
theorem d_C_person_123 : m_D k_C_person 123 (.iconst 1) 1 := (by decide +kernel : decode prog_1_method_18_code 123 = .ok (.iconst 1, 1))
theorem d_C_person_124 : m_D k_C_person 124 (.goto 4) 3 := (by decide +kernel : decode prog_1_method_18_code 124 = .ok (.goto 4, 3))
theorem d_C_person_127 : m_D k_C_person 127 (.iconst 0) 1 := (by decide +kernel : decode prog_1_method_18_code 127 = .ok (.iconst 0, 1))
theorem d_C_person_128 : m_D k_C_person 128 (.ireturn) 1 := (by decide +kernel : decode prog_1_method_18_code 128 = .ok (.ireturn, 1))
theorem d_C_person_129 : m_D k_C_person 129 (.aload_n 3) 1 := (by decide +kernel : decode prog_1_method_18_code 129 = .ok (.aload_n 3, 1))
theorem d_C_person_130 : m_D k_C_person 130 (.aload_n 0) 1 := (by decide +kernel : decode prog_1_method_18_code 130 = .ok (.aload_n 0, 1))
theorem d_C_person_131 : m_D k_C_person 131 (.getfield 37) 3 := (by decide +kernel : decode prog_1_method_18_code 131 = .ok (.getfield 37, 3))
theorem d_C_person_134 : m_D k_C_person 134 (.getfield 156) 3 := (by decide +kernel : decode prog_1_method_18_code 134 = .ok (.getfield 156, 3))
theorem d_C_person_137 : m_D k_C_person 137 (.invokevirtual 230) 3 := (by decide +kernel : decode prog_1_method_18_code 137 = .ok (.invokevirtual 230, 3))
theorem d_C_person_140 : m_D k_C_person 140 (.ireturn) 1 := (by decide +kernel : decode prog_1_method_18_code 140 = .ok (.ireturn, 1))
def fn_C_person (x0 : Option mA) (x1 : Int32) (x2 : Int32) : mP Int32 :=
  m_th 0 x0 <|
  m_bd (fn_C_isPerson x0 x1) fun v1 =>
  m_bd (α := Int32) (
    if v1 = 0 then
      m_rt 2
    else
      if x2 < 0 then
        m_rt 5
      else
        if x2 ≤ 4 then
          m_rt 0
        else
          m_rt 5
    ) fun (t2 : Int32) =>
  m_bd (m_pI 0 0 x0 t2) fun _ =>
  m_bd (m_gI 0 0 x0) fun v3 =>
  if v3 = 0 then
    m_bd (m_gR 0 5 x0) fun v4 =>
    m_bd (m_gR 3 7 v4) fun v5 =>
    m_bd (m_aR 6 v5 x1) fun v6 =>
    if x2 = 0 then
      m_bd (m_gI 4 1 v6) fun v7 =>
      m_rt v7
    else if x2 = 1 then
      m_bd (m_gI 4 2 v6) fun v8 =>
      if v8 = 0 then
        m_rt 0
      else
        m_rt 1
    else if x2 = 2 then
      m_bd (m_gI 4 3 v6) fun v9 =>
      if v9 = 0 then
        m_rt 0
      else
        m_rt 1
    else if x2 = 3 then
      m_bd (m_gR 0 5 x0) fun v10 =>
      m_bd (fn_Fa_showsAhead v10 x1 0) fun v11 =>
      if v11 = 0 then
        m_rt 0
      else
        m_rt 1
    else
      m_bd (m_gR 0 5 x0) fun v12 =>
      m_bd (m_gI 3 1 v12) fun v13 =>
      m_bd (fn_Pe_lovedSet v6 v13) fun v14 =>
      m_rt v14
  else
    m_rt (-1)
set_option maxHeartbeats 4000000 in
set_option maxRecDepth 100000 in
theorem sd_C_person (x0 : Option mA) (x1 : Int32) (x2 : Int32) : m_Sm k_C_person 2 0 0 [.inr (.inr x0), .inl x1, .inl x2] (fn_C_person x0 x1 x2) (fun b => some (.inl b)) := by
  refine ⟨Nat.le_of_ble_eq_true rfl, ?_⟩
  refine sm_th ?_
  refine sm_aload_n (i := 0) (j := 0) (pc' := 1) d_C_person_0 rfl rfl rfl (sm_aload_n (i := 0) (j := 0) (pc' := 2) d_C_person_1 rfl rfl rfl (sm_iload_n (i := 1) (j := 1) (pc' := 3) d_C_person_2 rfl rfl rfl ?_))
  refine sm_callVi (ci := 0) (x := x0) (av := [.inl x1]) (st := [.inr (.inr x0)]) (mc := 0) (ms := 0) (pc' := 6) d_C_person_3 rfl (sd_C_isPerson x0 x1) m_lv rfl cv_C_isPerson w_ml_C_209 rfl rfl (by decide) (Nat.le_of_ble_eq_true rfl) rfl rfl (fun v1 => ?_)
  refine sm_bd (mid := fun (t2 : Int32) => .inl (27, [(0, .inr (.inr x0)), (1, .inl x1), (2, .inl x2)], [.inl t2, .inr (.inr x0)])) ?_ (fun t2 => ?_)
  · refine sm_if_ne (tgt := 13) (pc' := 9) d_C_person_6 rfl rfl ?_ ?_
    · refine sm_iload_n (i := 2) (j := 2) (pc' := 14) d_C_person_13 rfl rfl rfl ?_
      refine sm_if_lt (tgt := 22) (pc' := 17) d_C_person_14 rfl rfl ?_ ?_
      · refine sm_iconst (pc' := 23) d_C_person_22 rfl ic_5 (sm_goto (tgt := 27) d_C_person_23 rfl (sm_sub [0, 1, 2] rfl ?_))
        exact sm_rt rfl
      · refine sm_iload_n (i := 2) (j := 2) (pc' := 18) d_C_person_17 rfl rfl rfl (sm_iconst (pc' := 19) d_C_person_18 rfl ic_4 ?_)
        refine sm_icmp_le (tgt := 26) (pc' := 22) d_C_person_19 rfl rfl ?_ ?_
        · refine sm_iconst (pc' := 27) d_C_person_26 rfl ic_0 (sm_sub [0, 1, 2] rfl ?_)
          exact sm_rt rfl
        · refine sm_iconst (pc' := 23) d_C_person_22 rfl ic_5 (sm_goto (tgt := 27) d_C_person_23 rfl (sm_sub [0, 1, 2] rfl ?_))
          exact sm_rt rfl
    · refine sm_iconst (pc' := 10) d_C_person_9 rfl ic_2 (sm_goto (tgt := 27) d_C_person_10 rfl (sm_sub [0, 1, 2] rfl ?_))
      exact sm_rt rfl
  · refine sm_putI (pc' := 30) d_C_person_27 rfl fl_C_9 (Or.inl rfl) rfl (sm_aload_n (i := 0) (j := 0) (pc' := 31) d_C_person_30 rfl rfl rfl ?_)
    refine sm_getI (pc' := 34) d_C_person_31 rfl fl_C_9 rfl ⟨by decide, by decide⟩ (fun v3 => ?_)
    refine sm_if_eq (tgt := 39) (pc' := 37) d_C_person_34 rfl rfl ?_ ?_
    · refine sm_aload_n (i := 0) (j := 0) (pc' := 40) d_C_person_39 rfl rfl rfl ?_
      refine sm_getR (pc' := 43) d_C_person_40 rfl fl_C_37 rfl rfl (fun v4 => ?_)
      refine sm_getR (pc' := 46) d_C_person_43 rfl fl_C_212 rfl rfl (fun v5 => ?_)
      refine sm_iload_n (i := 1) (j := 1) (pc' := 47) d_C_person_46 rfl rfl rfl ?_
      refine sm_aald (t := 6) ⟨by decide, by decide⟩ rfl (pc' := 48) d_C_person_47 rfl (fun v6 => ?_)
      refine sm_astore_n (i := 3) (L' := [(3, .inr (.inr v6)), (0, .inr (.inr x0)), (1, .inl x1), (2, .inl x2)]) (pc' := 49) d_C_person_48 rfl rfl (Nat.le_of_ble_eq_true rfl) rfl (sm_iload_n (i := 2) (j := 3) (pc' := 50) d_C_person_49 rfl rfl rfl ?_)
      refine sm_ite (fun hs50_0 => ?_) (fun hs50_0 => ?_)
      · refine sm_tabIn (off := 30) (tgt := 80) d_C_person_50 (by rw [hs50_0]; decide) (by rw [hs50_0]; decide) (by rw [hs50_0]; rfl) rfl ?_
        refine sm_aload_n (i := 3) (j := 0) (pc' := 81) d_C_person_80 rfl rfl rfl ?_
        refine sm_getI (pc' := 84) d_C_person_81 rfl fl_C_216 rfl ⟨by decide, by decide⟩ (fun v7 => ?_)
        exact sm_ireturn d_C_person_84 rfl rfl
      refine sm_ite (fun hs50_1 => ?_) (fun hs50_1 => ?_)
      · refine sm_tabIn (off := 35) (tgt := 85) d_C_person_50 (by rw [hs50_1]; decide) (by rw [hs50_1]; decide) (by rw [hs50_1]; rfl) rfl ?_
        refine sm_aload_n (i := 3) (j := 0) (pc' := 86) d_C_person_85 rfl rfl rfl ?_
        refine sm_getI (pc' := 89) d_C_person_86 rfl fl_C_221 rfl ⟨by decide, by decide⟩ (fun v8 => ?_)
        refine sm_if_eq (tgt := 96) (pc' := 92) d_C_person_89 rfl rfl ?_ ?_
        · refine sm_iconst (pc' := 97) d_C_person_96 rfl ic_0 ?_
          exact sm_ireturn d_C_person_97 rfl rfl
        · refine sm_iconst (pc' := 93) d_C_person_92 rfl ic_1 (sm_goto (tgt := 97) d_C_person_93 rfl ?_)
          exact sm_ireturn d_C_person_97 rfl rfl
      refine sm_ite (fun hs50_2 => ?_) (fun hs50_2 => ?_)
      · refine sm_tabIn (off := 48) (tgt := 98) d_C_person_50 (by rw [hs50_2]; decide) (by rw [hs50_2]; decide) (by rw [hs50_2]; rfl) rfl ?_
        refine sm_aload_n (i := 3) (j := 0) (pc' := 99) d_C_person_98 rfl rfl rfl ?_
        refine sm_getI (pc' := 102) d_C_person_99 rfl fl_C_224 rfl ⟨by decide, by decide⟩ (fun v9 => ?_)
        refine sm_if_eq (tgt := 109) (pc' := 105) d_C_person_102 rfl rfl ?_ ?_
        · refine sm_iconst (pc' := 110) d_C_person_109 rfl ic_0 ?_
          exact sm_ireturn d_C_person_110 rfl rfl
        · refine sm_iconst (pc' := 106) d_C_person_105 rfl ic_1 (sm_goto (tgt := 110) d_C_person_106 rfl ?_)
          exact sm_ireturn d_C_person_110 rfl rfl
      refine sm_ite (fun hs50_3 => ?_) (fun hs50_3 => ?_)
      · refine sm_tabIn (off := 61) (tgt := 111) d_C_person_50 (by rw [hs50_3]; decide) (by rw [hs50_3]; decide) (by rw [hs50_3]; rfl) rfl ?_
        refine sm_aload_n (i := 0) (j := 1) (pc' := 112) d_C_person_111 rfl rfl rfl ?_
        refine sm_getR (pc' := 115) d_C_person_112 rfl fl_C_37 rfl rfl (fun v10 => ?_)
        refine sm_iload_n (i := 1) (j := 2) (pc' := 116) d_C_person_115 rfl rfl rfl (sm_iconst (pc' := 117) d_C_person_116 rfl ic_0 ?_)
        refine sm_callVi (ci := 3) (x := v10) (av := [.inl x1, .inl 0]) (st := []) (mc := 0) (ms := 0) (pc' := 120) d_C_person_117 rfl (sd_Fa_showsAhead v10 x1 0) m_lv rfl cv_Fa_showsAhead w_ml_C_227 rfl rfl (by decide) (Nat.le_of_ble_eq_true rfl) rfl rfl (fun v11 => ?_)
        refine sm_if_eq (tgt := 127) (pc' := 123) d_C_person_120 rfl rfl ?_ ?_
        · refine sm_iconst (pc' := 128) d_C_person_127 rfl ic_0 ?_
          exact sm_ireturn d_C_person_128 rfl rfl
        · refine sm_iconst (pc' := 124) d_C_person_123 rfl ic_1 (sm_goto (tgt := 128) d_C_person_124 rfl ?_)
          exact sm_ireturn d_C_person_128 rfl rfl
      refine sm_tabOut (tgt := 129) d_C_person_50 (by have z0 : (x2).toInt ≠ 0 := fun e => hs50_0 (Int32.toInt_inj.mp (by rw [e]; rfl)); have z1 : (x2).toInt ≠ 1 := fun e => hs50_1 (Int32.toInt_inj.mp (by rw [e]; rfl)); have z2 : (x2).toInt ≠ 2 := fun e => hs50_2 (Int32.toInt_inj.mp (by rw [e]; rfl)); have z3 : (x2).toInt ≠ 3 := fun e => hs50_3 (Int32.toInt_inj.mp (by rw [e]; rfl)); omega) rfl ?_
      refine sm_aload_n (i := 3) (j := 0) (pc' := 130) d_C_person_129 rfl rfl rfl (sm_aload_n (i := 0) (j := 1) (pc' := 131) d_C_person_130 rfl rfl rfl ?_)
      refine sm_getR (pc' := 134) d_C_person_131 rfl fl_C_37 rfl rfl (fun v12 => ?_)
      refine sm_getI (pc' := 137) d_C_person_134 rfl fl_C_156 rfl ⟨by decide, by decide⟩ (fun v13 => ?_)
      refine sm_callVi (ci := 4) (x := v6) (av := [.inl v13]) (st := []) (mc := 0) (ms := 0) (pc' := 140) d_C_person_137 rfl (sd_Pe_lovedSet v6 v13) m_lv rfl cv_Pe_lovedSet w_ml_C_230 rfl rfl (by decide) (Nat.le_of_ble_eq_true rfl) rfl rfl (fun v14 => ?_)
      exact sm_ireturn d_C_person_140 rfl rfl
    · refine sm_iconst (pc' := 38) d_C_person_37 rfl ic_m1 ?_
      exact sm_ireturn d_C_person_38 rfl rfl
theorem d_C_isThing_0 : m_D k_C_isThing 0 (.iload_n 1) 1 := (by decide +kernel : decode prog_1_method_23_code 0 = .ok (.iload_n 1, 1))
theorem d_C_isThing_1 : m_D k_C_isThing 1 (.ifCond .lt 18) 3 := (by decide +kernel : decode prog_1_method_23_code 1 = .ok (.ifCond .lt 18, 3))
theorem d_C_isThing_4 : m_D k_C_isThing 4 (.iload_n 1) 1 := (by decide +kernel : decode prog_1_method_23_code 4 = .ok (.iload_n 1, 1))
theorem d_C_isThing_5 : m_D k_C_isThing 5 (.aload_n 0) 1 := (by decide +kernel : decode prog_1_method_23_code 5 = .ok (.aload_n 0, 1))
theorem d_C_isThing_6 : m_D k_C_isThing 6 (.getfield 37) 3 := (by decide +kernel : decode prog_1_method_23_code 6 = .ok (.getfield 37, 3))
theorem d_C_isThing_9 : m_D k_C_isThing 9 (.getfield 156) 3 := (by decide +kernel : decode prog_1_method_23_code 9 = .ok (.getfield 156, 3))
theorem d_C_isThing_12 : m_D k_C_isThing 12 (.if_icmp .ge 7) 3 := (by decide +kernel : decode prog_1_method_23_code 12 = .ok (.if_icmp .ge 7, 3))
theorem d_C_isThing_15 : m_D k_C_isThing 15 (.iconst 1) 1 := (by decide +kernel : decode prog_1_method_23_code 15 = .ok (.iconst 1, 1))
theorem d_C_isThing_16 : m_D k_C_isThing 16 (.goto 4) 3 := (by decide +kernel : decode prog_1_method_23_code 16 = .ok (.goto 4, 3))
theorem d_C_isThing_19 : m_D k_C_isThing 19 (.iconst 0) 1 := (by decide +kernel : decode prog_1_method_23_code 19 = .ok (.iconst 0, 1))
theorem d_C_isThing_20 : m_D k_C_isThing 20 (.ireturn) 1 := (by decide +kernel : decode prog_1_method_23_code 20 = .ok (.ireturn, 1))
def fn_C_isThing (x0 : Option mA) (x1 : Int32) : mP Int32 :=
  m_th 0 x0 <|
  if x1 < 0 then
    m_rt 0
  else
    m_bd (m_gR 0 5 x0) fun v1 =>
    m_bd (m_gI 3 1 v1) fun v2 =>
    if v2 ≤ x1 then
      m_rt 0
    else
      m_rt 1
set_option maxHeartbeats 4000000 in
set_option maxRecDepth 100000 in
theorem sd_C_isThing (x0 : Option mA) (x1 : Int32) : m_Sm k_C_isThing 1 0 0 [.inr (.inr x0), .inl x1] (fn_C_isThing x0 x1) (fun b => some (.inl b)) := by
  refine ⟨Nat.le_of_ble_eq_true rfl, ?_⟩
  refine sm_th ?_
  refine sm_iload_n (i := 1) (j := 1) (pc' := 1) d_C_isThing_0 rfl rfl rfl ?_
  refine sm_if_lt (tgt := 19) (pc' := 4) d_C_isThing_1 rfl rfl ?_ ?_
  · refine sm_iconst (pc' := 20) d_C_isThing_19 rfl ic_0 ?_
    exact sm_zreturn d_C_isThing_20 rfl (by decide) rfl
  · refine sm_iload_n (i := 1) (j := 1) (pc' := 5) d_C_isThing_4 rfl rfl rfl (sm_aload_n (i := 0) (j := 0) (pc' := 6) d_C_isThing_5 rfl rfl rfl ?_)
    refine sm_getR (pc' := 9) d_C_isThing_6 rfl fl_C_37 rfl rfl (fun v1 => ?_)
    refine sm_getI (pc' := 12) d_C_isThing_9 rfl fl_C_156 rfl ⟨by decide, by decide⟩ (fun v2 => ?_)
    refine sm_icmp_ge (tgt := 19) (pc' := 15) d_C_isThing_12 rfl rfl ?_ ?_
    · refine sm_iconst (pc' := 20) d_C_isThing_19 rfl ic_0 ?_
      exact sm_zreturn d_C_isThing_20 rfl (by decide) rfl
    · refine sm_iconst (pc' := 16) d_C_isThing_15 rfl ic_1 (sm_goto (tgt := 20) d_C_isThing_16 rfl ?_)
      exact sm_zreturn d_C_isThing_20 rfl (by decide) rfl
theorem d_Fa_lovedBy_0 : m_D k_Fa_lovedBy 0 (.iconst 0) 1 := (by decide +kernel : decode prog_3_method_9_code 0 = .ok (.iconst 0, 1))
theorem d_Fa_lovedBy_1 : m_D k_Fa_lovedBy 1 (.istore_n 3) 1 := (by decide +kernel : decode prog_3_method_9_code 1 = .ok (.istore_n 3, 1))
theorem d_Fa_lovedBy_2 : m_D k_Fa_lovedBy 2 (.iconst 0) 1 := (by decide +kernel : decode prog_3_method_9_code 2 = .ok (.iconst 0, 1))
theorem d_Fa_lovedBy_3 : m_D k_Fa_lovedBy 3 (.istore 4) 2 := (by decide +kernel : decode prog_3_method_9_code 3 = .ok (.istore 4, 2))
theorem d_Fa_lovedBy_5 : m_D k_Fa_lovedBy 5 (.iload 4) 2 := (by decide +kernel : decode prog_3_method_9_code 5 = .ok (.iload 4, 2))
theorem d_Fa_lovedBy_7 : m_D k_Fa_lovedBy 7 (.aload_n 0) 1 := (by decide +kernel : decode prog_3_method_9_code 7 = .ok (.aload_n 0, 1))
theorem d_Fa_lovedBy_8 : m_D k_Fa_lovedBy 8 (.getfield 45) 3 := (by decide +kernel : decode prog_3_method_9_code 8 = .ok (.getfield 45, 3))
theorem d_Fa_lovedBy_11 : m_D k_Fa_lovedBy 11 (.if_icmp .ge 33) 3 := (by decide +kernel : decode prog_3_method_9_code 11 = .ok (.if_icmp .ge 33, 3))
theorem d_Fa_lovedBy_14 : m_D k_Fa_lovedBy 14 (.iload_n 2) 1 := (by decide +kernel : decode prog_3_method_9_code 14 = .ok (.iload_n 2, 1))
theorem d_Fa_lovedBy_15 : m_D k_Fa_lovedBy 15 (.iload 4) 2 := (by decide +kernel : decode prog_3_method_9_code 15 = .ok (.iload 4, 2))
theorem d_Fa_lovedBy_17 : m_D k_Fa_lovedBy 17 (.ishr) 1 := (by decide +kernel : decode prog_3_method_9_code 17 = .ok (.ishr, 1))
theorem d_Fa_lovedBy_18 : m_D k_Fa_lovedBy 18 (.iconst 1) 1 := (by decide +kernel : decode prog_3_method_9_code 18 = .ok (.iconst 1, 1))
theorem d_Fa_lovedBy_19 : m_D k_Fa_lovedBy 19 (.iand) 1 := (by decide +kernel : decode prog_3_method_9_code 19 = .ok (.iand, 1))
theorem d_Fa_lovedBy_20 : m_D k_Fa_lovedBy 20 (.ifCond .eq 18) 3 := (by decide +kernel : decode prog_3_method_9_code 20 = .ok (.ifCond .eq 18, 3))
theorem d_Fa_lovedBy_23 : m_D k_Fa_lovedBy 23 (.iload_n 3) 1 := (by decide +kernel : decode prog_3_method_9_code 23 = .ok (.iload_n 3, 1))
theorem d_Fa_lovedBy_24 : m_D k_Fa_lovedBy 24 (.aload_n 0) 1 := (by decide +kernel : decode prog_3_method_9_code 24 = .ok (.aload_n 0, 1))
theorem d_Fa_lovedBy_25 : m_D k_Fa_lovedBy 25 (.getfield 26) 3 := (by decide +kernel : decode prog_3_method_9_code 25 = .ok (.getfield 26, 3))
theorem d_Fa_lovedBy_28 : m_D k_Fa_lovedBy 28 (.iload 4) 2 := (by decide +kernel : decode prog_3_method_9_code 28 = .ok (.iload 4, 2))
theorem d_Fa_lovedBy_30 : m_D k_Fa_lovedBy 30 (.aaload) 1 := (by decide +kernel : decode prog_3_method_9_code 30 = .ok (.aaload, 1))
theorem d_Fa_lovedBy_31 : m_D k_Fa_lovedBy 31 (.getfield 75) 3 := (by decide +kernel : decode prog_3_method_9_code 31 = .ok (.getfield 75, 3))
theorem d_Fa_lovedBy_34 : m_D k_Fa_lovedBy 34 (.iload_n 1) 1 := (by decide +kernel : decode prog_3_method_9_code 34 = .ok (.iload_n 1, 1))
theorem d_Fa_lovedBy_35 : m_D k_Fa_lovedBy 35 (.iaload) 1 := (by decide +kernel : decode prog_3_method_9_code 35 = .ok (.iaload, 1))
theorem d_Fa_lovedBy_36 : m_D k_Fa_lovedBy 36 (.iadd) 1 := (by decide +kernel : decode prog_3_method_9_code 36 = .ok (.iadd, 1))
theorem d_Fa_lovedBy_37 : m_D k_Fa_lovedBy 37 (.istore_n 3) 1 := (by decide +kernel : decode prog_3_method_9_code 37 = .ok (.istore_n 3, 1))
theorem d_Fa_lovedBy_38 : m_D k_Fa_lovedBy 38 (.iinc 4 1) 3 := (by decide +kernel : decode prog_3_method_9_code 38 = .ok (.iinc 4 1, 3))
theorem d_Fa_lovedBy_41 : m_D k_Fa_lovedBy 41 (.goto (-36)) 3 := (by decide +kernel : decode prog_3_method_9_code 41 = .ok (.goto (-36), 3))
theorem d_Fa_lovedBy_44 : m_D k_Fa_lovedBy 44 (.iload_n 3) 1 := (by decide +kernel : decode prog_3_method_9_code 44 = .ok (.iload_n 3, 1))
theorem d_Fa_lovedBy_45 : m_D k_Fa_lovedBy 45 (.ireturn) 1 := (by decide +kernel : decode prog_3_method_9_code 45 = .ok (.ireturn, 1))
def fn_Fa_lovedBy_l5 (x0 : Option mA) (x1 : Int32) (x2 : Int32) (t1 : Int32 × Int32) : mP ((Int32 × Int32) ⊕ (Int32)) :=
  m_bd (m_gI 3 0 x0) fun v2 =>
  if v2 ≤ t1.2 then
    m_rt (.inr t1.1)
  else
    m_bd (α := Int32) (
      if ((x2 >>> (t1.2 &&& 31)) &&& 1) = 0 then
        m_rt t1.1
      else
        m_bd (m_gR 3 7 x0) fun v3 =>
        m_bd (m_aR 6 v3 t1.2) fun v4 =>
        m_bd (m_gR 4 4 v4) fun v5 =>
        m_bd (m_aI 0 v5 x1) fun v6 =>
        m_rt (t1.1 + v6)
      ) fun (t7 : Int32) =>
    m_rt (.inl (t7, (t1.2 + 1)))
def fn_Fa_lovedBy (x0 : Option mA) (x1 : Int32) (x2 : Int32) : mP Int32 :=
  m_th 3 x0 <|
  m_bd (m_lp (fn_Fa_lovedBy_l5 x0 x1 x2) m_F (0, 0)) fun (t8 : Int32) =>
  m_rt t8
set_option maxHeartbeats 4000000 in
set_option maxRecDepth 100000 in
theorem sd_Fa_lovedBy (x0 : Option mA) (x1 : Int32) (x2 : Int32) : m_Sm k_Fa_lovedBy 1 0 0 [.inr (.inr x0), .inl x1, .inl x2] (fn_Fa_lovedBy x0 x1 x2) (fun b => some (.inl b)) := by
  refine ⟨Nat.le_of_ble_eq_true rfl, ?_⟩
  refine sm_th ?_
  refine sm_iconst (pc' := 1) d_Fa_lovedBy_0 rfl ic_0 (sm_istore_n (i := 3) (L' := [(3, .inl 0), (0, .inr (.inr x0)), (1, .inl x1), (2, .inl x2)]) (pc' := 2) d_Fa_lovedBy_1 rfl rfl (Nat.le_of_ble_eq_true rfl) rfl (sm_iconst (pc' := 3) d_Fa_lovedBy_2 rfl ic_0 (sm_istore (L' := [(4, .inl 0), (3, .inl 0), (0, .inr (.inr x0)), (1, .inl x1), (2, .inl x2)]) (pc' := 5) d_Fa_lovedBy_3 rfl (Nat.le_of_ble_eq_true rfl) rfl ?_)))
  refine sm_sub [1, 0, 2, 3, 4] rfl ?_
  refine sm_bd (mid := fun (t8 : Int32) => .inl (44, [(3, .inl t8)], [])) (sm_lp (hd := fun (t1 : Int32 × Int32) => (.inl (5, [(3, .inl t1.1), (4, .inl t1.2), (0, .inr (.inr x0)), (1, .inl x1), (2, .inl x2)], []) : mC)) (fun t1 => ?_) m_F (0, 0)) (fun t8 => ?_)
  · refine sm_iload (j := 1) (pc' := 7) d_Fa_lovedBy_5 rfl rfl (sm_aload_n (i := 0) (j := 2) (pc' := 8) d_Fa_lovedBy_7 rfl rfl rfl ?_)
    refine sm_getI (pc' := 11) d_Fa_lovedBy_8 rfl fl_Fa_45 rfl ⟨by decide, by decide⟩ (fun v2 => ?_)
    refine sm_icmp_ge (tgt := 44) (pc' := 14) d_Fa_lovedBy_11 rfl rfl ?_ ?_
    · refine sm_sub [0] rfl ?_
      exact sm_rt rfl
    · refine sm_iload_n (i := 2) (j := 4) (pc' := 15) d_Fa_lovedBy_14 rfl rfl rfl (sm_iload (j := 1) (pc' := 17) d_Fa_lovedBy_15 rfl rfl (sm_ishr (pc' := 18) d_Fa_lovedBy_17 rfl (sm_iconst (pc' := 19) d_Fa_lovedBy_18 rfl ic_1 (sm_iand (pc' := 20) d_Fa_lovedBy_19 rfl ?_))))
      refine sm_bd (mid := fun (t7 : Int32) => .inl (38, [(0, .inr (.inr x0)), (1, .inl x1), (2, .inl x2), (3, .inl t7), (4, .inl t1.2)], [])) ?_ (fun t7 => ?_)
      · refine sm_if_eq (tgt := 38) (pc' := 23) d_Fa_lovedBy_20 rfl rfl ?_ ?_
        · refine sm_sub [2, 3, 4, 0, 1] rfl ?_
          exact sm_rt rfl
        · refine sm_iload_n (i := 3) (j := 0) (pc' := 24) d_Fa_lovedBy_23 rfl rfl rfl (sm_aload_n (i := 0) (j := 2) (pc' := 25) d_Fa_lovedBy_24 rfl rfl rfl ?_)
          refine sm_getR (pc' := 28) d_Fa_lovedBy_25 rfl fl_Fa_26 rfl rfl (fun v3 => ?_)
          refine sm_iload (j := 1) (pc' := 30) d_Fa_lovedBy_28 rfl rfl ?_
          refine sm_aald (t := 6) ⟨by decide, by decide⟩ rfl (pc' := 31) d_Fa_lovedBy_30 rfl (fun v4 => ?_)
          refine sm_getR (pc' := 34) d_Fa_lovedBy_31 rfl fl_Fa_75 rfl rfl (fun v5 => ?_)
          refine sm_iload_n (i := 1) (j := 3) (pc' := 35) d_Fa_lovedBy_34 rfl rfl rfl ?_
          refine sm_iald (pc' := 36) d_Fa_lovedBy_35 rfl (fun v6 => ?_)
          refine sm_iadd (pc' := 37) d_Fa_lovedBy_36 rfl (sm_istore_n (i := 3) (L' := [(3, .inl (t1.1 + v6)), (4, .inl t1.2), (0, .inr (.inr x0)), (1, .inl x1), (2, .inl x2)]) (pc' := 38) d_Fa_lovedBy_37 rfl rfl (Nat.le_of_ble_eq_true rfl) rfl (sm_sub [2, 3, 4, 0, 1] rfl ?_))
          exact sm_rt rfl
      · refine sm_iinc (j := 4) (L' := [(4, .inl (t1.2 + 1)), (0, .inr (.inr x0)), (1, .inl x1), (2, .inl x2), (3, .inl t7)]) (pc' := 41) d_Fa_lovedBy_38 rfl (v := (t1.2 + 1)) rfl (ix_1 _) (Nat.le_of_ble_eq_true rfl) rfl (sm_goto (tgt := 5) d_Fa_lovedBy_41 rfl (sm_sub [4, 0, 1, 2, 3] rfl ?_))
        exact sm_rt rfl
  · refine sm_iload_n (i := 3) (j := 0) (pc' := 45) d_Fa_lovedBy_44 rfl rfl rfl ?_
    exact sm_ireturn d_Fa_lovedBy_45 rfl rfl
theorem d_Fa_lovedAhead_0 : m_D k_Fa_lovedAhead 0 (.aload_n 0) 1 := (by decide +kernel : decode prog_3_method_10_code 0 = .ok (.aload_n 0, 1))
theorem d_Fa_lovedAhead_1 : m_D k_Fa_lovedAhead 1 (.iload_n 1) 1 := (by decide +kernel : decode prog_3_method_10_code 1 = .ok (.iload_n 1, 1))
theorem d_Fa_lovedAhead_2 : m_D k_Fa_lovedAhead 2 (.aload_n 0) 1 := (by decide +kernel : decode prog_3_method_10_code 2 = .ok (.aload_n 0, 1))
theorem d_Fa_lovedAhead_3 : m_D k_Fa_lovedAhead 3 (.iload_n 2) 1 := (by decide +kernel : decode prog_3_method_10_code 3 = .ok (.iload_n 2, 1))
theorem d_Fa_lovedAhead_4 : m_D k_Fa_lovedAhead 4 (.invokevirtual 102) 3 := (by decide +kernel : decode prog_3_method_10_code 4 = .ok (.invokevirtual 102, 3))
theorem d_Fa_lovedAhead_7 : m_D k_Fa_lovedAhead 7 (.invokevirtual 106) 3 := (by decide +kernel : decode prog_3_method_10_code 7 = .ok (.invokevirtual 106, 3))
theorem d_Fa_lovedAhead_10 : m_D k_Fa_lovedAhead 10 (.ireturn) 1 := (by decide +kernel : decode prog_3_method_10_code 10 = .ok (.ireturn, 1))
def fn_Fa_lovedAhead (x0 : Option mA) (x1 : Int32) (x2 : Int32) : mP Int32 :=
  m_th 3 x0 <|
  m_bd (fn_Fa_showingSet x0 x2) fun v1 =>
  m_bd (fn_Fa_lovedBy x0 x1 v1) fun v2 =>
  m_rt v2
set_option maxHeartbeats 4000000 in
set_option maxRecDepth 100000 in
theorem sd_Fa_lovedAhead (x0 : Option mA) (x1 : Int32) (x2 : Int32) : m_Sm k_Fa_lovedAhead 3 0 0 [.inr (.inr x0), .inl x1, .inl x2] (fn_Fa_lovedAhead x0 x1 x2) (fun b => some (.inl b)) := by
  refine ⟨Nat.le_of_ble_eq_true rfl, ?_⟩
  refine sm_th ?_
  refine sm_aload_n (i := 0) (j := 0) (pc' := 1) d_Fa_lovedAhead_0 rfl rfl rfl (sm_iload_n (i := 1) (j := 1) (pc' := 2) d_Fa_lovedAhead_1 rfl rfl rfl (sm_aload_n (i := 0) (j := 0) (pc' := 3) d_Fa_lovedAhead_2 rfl rfl rfl (sm_iload_n (i := 2) (j := 2) (pc' := 4) d_Fa_lovedAhead_3 rfl rfl rfl ?_)))
  refine sm_callVi (ci := 3) (x := x0) (av := [.inl x2]) (st := [.inl x1, .inr (.inr x0)]) (mc := 0) (ms := 0) (pc' := 7) d_Fa_lovedAhead_4 rfl (sd_Fa_showingSet x0 x2) m_lv rfl cv_Fa_showingSet w_ml_Fa_102 rfl rfl (by decide) (Nat.le_of_ble_eq_true rfl) rfl rfl (fun v1 => ?_)
  refine sm_callVi (ci := 3) (x := x0) (av := [.inl x1, .inl v1]) (st := []) (mc := 0) (ms := 0) (pc' := 10) d_Fa_lovedAhead_7 rfl (sd_Fa_lovedBy x0 x1 v1) m_lv rfl cv_Fa_lovedBy w_ml_Fa_106 rfl rfl (by decide) (Nat.le_of_ble_eq_true rfl) rfl rfl (fun v2 => ?_)
  exact sm_ireturn d_Fa_lovedAhead_10 rfl rfl
theorem d_Th_biteBy_0 : m_D k_Th_biteBy 0 (.iload_n 0) 1 := (by decide +kernel : decode prog_11_method_4_code 0 = .ok (.iload_n 0, 1))
theorem d_Th_biteBy_1 : m_D k_Th_biteBy 1 (.iload_n 1) 1 := (by decide +kernel : decode prog_11_method_4_code 1 = .ok (.iload_n 1, 1))
theorem d_Th_biteBy_2 : m_D k_Th_biteBy 2 (.imul) 1 := (by decide +kernel : decode prog_11_method_4_code 2 = .ok (.imul, 1))
theorem d_Th_biteBy_3 : m_D k_Th_biteBy 3 (.iconst 4) 1 := (by decide +kernel : decode prog_11_method_4_code 3 = .ok (.iconst 4, 1))
theorem d_Th_biteBy_4 : m_D k_Th_biteBy 4 (.idiv) 1 := (by decide +kernel : decode prog_11_method_4_code 4 = .ok (.idiv, 1))
theorem d_Th_biteBy_5 : m_D k_Th_biteBy 5 (.istore_n 3) 1 := (by decide +kernel : decode prog_11_method_4_code 5 = .ok (.istore_n 3, 1))
theorem d_Th_biteBy_6 : m_D k_Th_biteBy 6 (.iload_n 2) 1 := (by decide +kernel : decode prog_11_method_4_code 6 = .ok (.iload_n 2, 1))
theorem d_Th_biteBy_7 : m_D k_Th_biteBy 7 (.ifCond .eq 9) 3 := (by decide +kernel : decode prog_11_method_4_code 7 = .ok (.ifCond .eq 9, 3))
theorem d_Th_biteBy_10 : m_D k_Th_biteBy 10 (.iload_n 3) 1 := (by decide +kernel : decode prog_11_method_4_code 10 = .ok (.iload_n 3, 1))
theorem d_Th_biteBy_11 : m_D k_Th_biteBy 11 (.iconst 2) 1 := (by decide +kernel : decode prog_11_method_4_code 11 = .ok (.iconst 2, 1))
theorem d_Th_biteBy_12 : m_D k_Th_biteBy 12 (.idiv) 1 := (by decide +kernel : decode prog_11_method_4_code 12 = .ok (.idiv, 1))
theorem d_Th_biteBy_13 : m_D k_Th_biteBy 13 (.goto 4) 3 := (by decide +kernel : decode prog_11_method_4_code 13 = .ok (.goto 4, 3))
theorem d_Th_biteBy_16 : m_D k_Th_biteBy 16 (.iload_n 3) 1 := (by decide +kernel : decode prog_11_method_4_code 16 = .ok (.iload_n 3, 1))
theorem d_Th_biteBy_17 : m_D k_Th_biteBy 17 (.ireturn) 1 := (by decide +kernel : decode prog_11_method_4_code 17 = .ok (.ireturn, 1))
def fn_Th_biteBy (x0 : Int32) (x1 : Int32) (x2 : Int32) : mP Int32 :=
  if x2 = 0 then
    m_rt ((x0 * x1) / 4)
  else
    m_rt (((x0 * x1) / 4) / 2)
set_option maxHeartbeats 4000000 in
set_option maxRecDepth 100000 in
theorem sd_Th_biteBy (x0 : Int32) (x1 : Int32) (x2 : Int32) : m_Sm k_Th_biteBy 1 0 0 [.inl x0, .inl x1, .inl x2] (fn_Th_biteBy x0 x1 x2) (fun b => some (.inl b)) := by
  refine ⟨Nat.le_of_ble_eq_true rfl, ?_⟩
  refine sm_iload_n (i := 0) (j := 0) (pc' := 1) d_Th_biteBy_0 rfl rfl rfl (sm_iload_n (i := 1) (j := 1) (pc' := 2) d_Th_biteBy_1 rfl rfl rfl (sm_imul (pc' := 3) d_Th_biteBy_2 rfl (sm_iconst (pc' := 4) d_Th_biteBy_3 rfl ic_4 (sm_idiv (pc' := 5) d_Th_biteBy_4 rfl (by decide) (sm_istore_n (i := 3) (L' := [(3, .inl ((x0 * x1) / 4)), (0, .inl x0), (1, .inl x1), (2, .inl x2)]) (pc' := 6) d_Th_biteBy_5 rfl rfl (Nat.le_of_ble_eq_true rfl) rfl (sm_iload_n (i := 2) (j := 3) (pc' := 7) d_Th_biteBy_6 rfl rfl rfl ?_))))))
  refine sm_if_eq (tgt := 16) (pc' := 10) d_Th_biteBy_7 rfl rfl ?_ ?_
  · refine sm_iload_n (i := 3) (j := 0) (pc' := 17) d_Th_biteBy_16 rfl rfl rfl ?_
    exact sm_ireturn d_Th_biteBy_17 rfl rfl
  · refine sm_iload_n (i := 3) (j := 0) (pc' := 11) d_Th_biteBy_10 rfl rfl rfl (sm_iconst (pc' := 12) d_Th_biteBy_11 rfl ic_2 (sm_idiv (pc' := 13) d_Th_biteBy_12 rfl (by decide) (sm_goto (tgt := 17) d_Th_biteBy_13 rfl ?_)))
    exact sm_ireturn d_Th_biteBy_17 rfl rfl
theorem d_Th_bite_0 : m_D k_Th_bite 0 (.aload_n 0) 1 := (by decide +kernel : decode prog_11_method_5_code 0 = .ok (.aload_n 0, 1))
theorem d_Th_bite_1 : m_D k_Th_bite 1 (.invokevirtual 28) 3 := (by decide +kernel : decode prog_11_method_5_code 1 = .ok (.invokevirtual 28, 3))
theorem d_Th_bite_4 : m_D k_Th_bite 4 (.ifCond .eq 7) 3 := (by decide +kernel : decode prog_11_method_5_code 4 = .ok (.ifCond .eq 7, 3))
theorem d_Th_bite_7 : m_D k_Th_bite 7 (.iconst 0) 1 := (by decide +kernel : decode prog_11_method_5_code 7 = .ok (.iconst 0, 1))
theorem d_Th_bite_8 : m_D k_Th_bite 8 (.goto 20) 3 := (by decide +kernel : decode prog_11_method_5_code 8 = .ok (.goto 20, 3))
theorem d_Th_bite_11 : m_D k_Th_bite 11 (.iload_n 1) 1 := (by decide +kernel : decode prog_11_method_5_code 11 = .ok (.iload_n 1, 1))
theorem d_Th_bite_12 : m_D k_Th_bite 12 (.iload_n 2) 1 := (by decide +kernel : decode prog_11_method_5_code 12 = .ok (.iload_n 2, 1))
theorem d_Th_bite_13 : m_D k_Th_bite 13 (.aload_n 0) 1 := (by decide +kernel : decode prog_11_method_5_code 13 = .ok (.aload_n 0, 1))
theorem d_Th_bite_14 : m_D k_Th_bite 14 (.getfield 25) 3 := (by decide +kernel : decode prog_11_method_5_code 14 = .ok (.getfield 25, 3))
theorem d_Th_bite_17 : m_D k_Th_bite 17 (.ifCond .le 7) 3 := (by decide +kernel : decode prog_11_method_5_code 17 = .ok (.ifCond .le 7, 3))
theorem d_Th_bite_20 : m_D k_Th_bite 20 (.iconst 1) 1 := (by decide +kernel : decode prog_11_method_5_code 20 = .ok (.iconst 1, 1))
theorem d_Th_bite_21 : m_D k_Th_bite 21 (.goto 4) 3 := (by decide +kernel : decode prog_11_method_5_code 21 = .ok (.goto 4, 3))
theorem d_Th_bite_24 : m_D k_Th_bite 24 (.iconst 0) 1 := (by decide +kernel : decode prog_11_method_5_code 24 = .ok (.iconst 0, 1))
theorem d_Th_bite_25 : m_D k_Th_bite 25 (.invokestatic 32) 3 := (by decide +kernel : decode prog_11_method_5_code 25 = .ok (.invokestatic 32, 3))
theorem d_Th_bite_28 : m_D k_Th_bite 28 (.ireturn) 1 := (by decide +kernel : decode prog_11_method_5_code 28 = .ok (.ireturn, 1))
def fn_Th_bite (x0 : Option mA) (x1 : Int32) (x2 : Int32) : mP Int32 :=
  m_th 5 x0 <|
  m_bd (fn_Th_isThrough x0) fun v1 =>
  if v1 = 0 then
    m_bd (m_gI 5 4 x0) fun v2 =>
    m_bd (α := Int32) (
      if v2 ≤ 0 then
        m_rt 0
      else
        m_rt 1
      ) fun (t3 : Int32) =>
    m_bd (fn_Th_biteBy x1 x2 t3) fun v4 =>
    m_rt v4
  else
    m_rt 0
set_option maxHeartbeats 4000000 in
set_option maxRecDepth 100000 in
theorem sd_Th_bite (x0 : Option mA) (x1 : Int32) (x2 : Int32) : m_Sm k_Th_bite 2 0 0 [.inr (.inr x0), .inl x1, .inl x2] (fn_Th_bite x0 x1 x2) (fun b => some (.inl b)) := by
  refine ⟨Nat.le_of_ble_eq_true rfl, ?_⟩
  refine sm_th ?_
  refine sm_aload_n (i := 0) (j := 0) (pc' := 1) d_Th_bite_0 rfl rfl rfl ?_
  refine sm_callVi (ci := 5) (x := x0) (av := []) (st := []) (mc := 0) (ms := 0) (pc' := 4) d_Th_bite_1 rfl (sd_Th_isThrough x0) m_lv rfl cv_Th_isThrough w_ml_Th_28 rfl rfl (by decide) (Nat.le_of_ble_eq_true rfl) rfl rfl (fun v1 => ?_)
  refine sm_if_eq (tgt := 11) (pc' := 7) d_Th_bite_4 rfl rfl ?_ ?_
  · refine sm_iload_n (i := 1) (j := 1) (pc' := 12) d_Th_bite_11 rfl rfl rfl (sm_iload_n (i := 2) (j := 2) (pc' := 13) d_Th_bite_12 rfl rfl rfl (sm_aload_n (i := 0) (j := 0) (pc' := 14) d_Th_bite_13 rfl rfl rfl ?_))
    refine sm_getI (pc' := 17) d_Th_bite_14 rfl fl_Th_25 rfl ⟨by decide, by decide⟩ (fun v2 => ?_)
    refine sm_bd (mid := fun (t3 : Int32) => .inl (25, [], [.inl t3, .inl x2, .inl x1])) ?_ (fun t3 => ?_)
    · refine sm_if_le (tgt := 24) (pc' := 20) d_Th_bite_17 rfl rfl ?_ ?_
      · refine sm_iconst (pc' := 25) d_Th_bite_24 rfl ic_0 (sm_sub [] rfl ?_)
        exact sm_rt rfl
      · refine sm_iconst (pc' := 21) d_Th_bite_20 rfl ic_1 (sm_goto (tgt := 25) d_Th_bite_21 rfl (sm_sub [] rfl ?_))
        exact sm_rt rfl
    · refine sm_callSi (av := [.inl x1, .inl x2, .inl t3]) (st := []) (mc := 0) (ms := 0) (pc' := 28) d_Th_bite_25 rfl (sd_Th_biteBy x1 x2 t3) cs_Th_biteBy w_ml_Th_32 rfl rfl (by decide) (Nat.le_of_ble_eq_true rfl) rfl rfl (fun v4 => ?_)
      exact sm_ireturn d_Th_bite_28 rfl rfl
  · refine sm_iconst (pc' := 8) d_Th_bite_7 rfl ic_0 (sm_goto (tgt := 28) d_Th_bite_8 rfl ?_)
    exact sm_ireturn d_Th_bite_28 rfl rfl
theorem d_C_thing_0 : m_D k_C_thing 0 (.aload_n 0) 1 := (by decide +kernel : decode prog_1_method_19_code 0 = .ok (.aload_n 0, 1))
theorem d_C_thing_1 : m_D k_C_thing 1 (.aload_n 0) 1 := (by decide +kernel : decode prog_1_method_19_code 1 = .ok (.aload_n 0, 1))
theorem d_C_thing_2 : m_D k_C_thing 2 (.iload_n 1) 1 := (by decide +kernel : decode prog_1_method_19_code 2 = .ok (.iload_n 1, 1))
theorem d_C_thing_3 : m_D k_C_thing 3 (.invokevirtual 233) 3 := (by decide +kernel : decode prog_1_method_19_code 3 = .ok (.invokevirtual 233, 3))
theorem d_C_thing_6 : m_D k_C_thing 6 (.ifCond .ne 7) 3 := (by decide +kernel : decode prog_1_method_19_code 6 = .ok (.ifCond .ne 7, 3))
theorem d_C_thing_9 : m_D k_C_thing 9 (.iconst 2) 1 := (by decide +kernel : decode prog_1_method_19_code 9 = .ok (.iconst 2, 1))
theorem d_C_thing_10 : m_D k_C_thing 10 (.goto 18) 3 := (by decide +kernel : decode prog_1_method_19_code 10 = .ok (.goto 18, 3))
theorem d_C_thing_13 : m_D k_C_thing 13 (.iload_n 2) 1 := (by decide +kernel : decode prog_1_method_19_code 13 = .ok (.iload_n 2, 1))
theorem d_C_thing_14 : m_D k_C_thing 14 (.ifCond .lt 9) 3 := (by decide +kernel : decode prog_1_method_19_code 14 = .ok (.ifCond .lt 9, 3))
theorem d_C_thing_17 : m_D k_C_thing 17 (.iload_n 2) 1 := (by decide +kernel : decode prog_1_method_19_code 17 = .ok (.iload_n 2, 1))
theorem d_C_thing_18 : m_D k_C_thing 18 (.bipush 6) 2 := (by decide +kernel : decode prog_1_method_19_code 18 = .ok (.bipush 6, 2))
theorem d_C_thing_20 : m_D k_C_thing 20 (.if_icmp .le 7) 3 := (by decide +kernel : decode prog_1_method_19_code 20 = .ok (.if_icmp .le 7, 3))
theorem d_C_thing_23 : m_D k_C_thing 23 (.iconst 5) 1 := (by decide +kernel : decode prog_1_method_19_code 23 = .ok (.iconst 5, 1))
theorem d_C_thing_24 : m_D k_C_thing 24 (.goto 4) 3 := (by decide +kernel : decode prog_1_method_19_code 24 = .ok (.goto 4, 3))
theorem d_C_thing_27 : m_D k_C_thing 27 (.iconst 0) 1 := (by decide +kernel : decode prog_1_method_19_code 27 = .ok (.iconst 0, 1))
theorem d_C_thing_28 : m_D k_C_thing 28 (.putfield 9) 3 := (by decide +kernel : decode prog_1_method_19_code 28 = .ok (.putfield 9, 3))
theorem d_C_thing_31 : m_D k_C_thing 31 (.aload_n 0) 1 := (by decide +kernel : decode prog_1_method_19_code 31 = .ok (.aload_n 0, 1))
theorem d_C_thing_32 : m_D k_C_thing 32 (.getfield 9) 3 := (by decide +kernel : decode prog_1_method_19_code 32 = .ok (.getfield 9, 3))
theorem d_C_thing_35 : m_D k_C_thing 35 (.ifCond .eq 5) 3 := (by decide +kernel : decode prog_1_method_19_code 35 = .ok (.ifCond .eq 5, 3))
theorem d_C_thing_38 : m_D k_C_thing 38 (.iconst (-1)) 1 := (by decide +kernel : decode prog_1_method_19_code 38 = .ok (.iconst (-1), 1))
theorem d_C_thing_39 : m_D k_C_thing 39 (.ireturn) 1 := (by decide +kernel : decode prog_1_method_19_code 39 = .ok (.ireturn, 1))
theorem d_C_thing_40 : m_D k_C_thing 40 (.aload_n 0) 1 := (by decide +kernel : decode prog_1_method_19_code 40 = .ok (.aload_n 0, 1))
theorem d_C_thing_41 : m_D k_C_thing 41 (.getfield 37) 3 := (by decide +kernel : decode prog_1_method_19_code 41 = .ok (.getfield 37, 3))
theorem d_C_thing_44 : m_D k_C_thing 44 (.getfield 236) 3 := (by decide +kernel : decode prog_1_method_19_code 44 = .ok (.getfield 236, 3))
theorem d_C_thing_47 : m_D k_C_thing 47 (.iload_n 1) 1 := (by decide +kernel : decode prog_1_method_19_code 47 = .ok (.iload_n 1, 1))
theorem d_C_thing_48 : m_D k_C_thing 48 (.aaload) 1 := (by decide +kernel : decode prog_1_method_19_code 48 = .ok (.aaload, 1))
theorem d_C_thing_49 : m_D k_C_thing 49 (.astore_n 3) 1 := (by decide +kernel : decode prog_1_method_19_code 49 = .ok (.astore_n 3, 1))
theorem d_C_thing_50 : m_D k_C_thing 50 (.iload_n 2) 1 := (by decide +kernel : decode prog_1_method_19_code 50 = .ok (.iload_n 2, 1))
theorem d_C_thing_51 : m_D k_C_thing 51 (.tableswitch 88 0 5 #[37, 42, 47, 52, 57, 67]) 37 := (by decide +kernel : decode prog_1_method_19_code 51 = .ok (.tableswitch 88 0 5 #[37, 42, 47, 52, 57, 67], 37))
theorem d_C_thing_88 : m_D k_C_thing 88 (.aload_n 3) 1 := (by decide +kernel : decode prog_1_method_19_code 88 = .ok (.aload_n 3, 1))
theorem d_C_thing_89 : m_D k_C_thing 89 (.getfield 240) 3 := (by decide +kernel : decode prog_1_method_19_code 89 = .ok (.getfield 240, 3))
theorem d_C_thing_92 : m_D k_C_thing 92 (.ireturn) 1 := (by decide +kernel : decode prog_1_method_19_code 92 = .ok (.ireturn, 1))
theorem d_C_thing_93 : m_D k_C_thing 93 (.aload_n 3) 1 := (by decide +kernel : decode prog_1_method_19_code 93 = .ok (.aload_n 3, 1))
theorem d_C_thing_94 : m_D k_C_thing 94 (.getfield 245) 3 := (by decide +kernel : decode prog_1_method_19_code 94 = .ok (.getfield 245, 3))
theorem d_C_thing_97 : m_D k_C_thing 97 (.ireturn) 1 := (by decide +kernel : decode prog_1_method_19_code 97 = .ok (.ireturn, 1))
theorem d_C_thing_98 : m_D k_C_thing 98 (.aload_n 3) 1 := (by decide +kernel : decode prog_1_method_19_code 98 = .ok (.aload_n 3, 1))
theorem d_C_thing_99 : m_D k_C_thing 99 (.getfield 248) 3 := (by decide +kernel : decode prog_1_method_19_code 99 = .ok (.getfield 248, 3))
theorem d_C_thing_102 : m_D k_C_thing 102 (.ireturn) 1 := (by decide +kernel : decode prog_1_method_19_code 102 = .ok (.ireturn, 1))
theorem d_C_thing_103 : m_D k_C_thing 103 (.aload_n 3) 1 := (by decide +kernel : decode prog_1_method_19_code 103 = .ok (.aload_n 3, 1))
theorem d_C_thing_104 : m_D k_C_thing 104 (.getfield 251) 3 := (by decide +kernel : decode prog_1_method_19_code 104 = .ok (.getfield 251, 3))
theorem d_C_thing_107 : m_D k_C_thing 107 (.ireturn) 1 := (by decide +kernel : decode prog_1_method_19_code 107 = .ok (.ireturn, 1))
theorem d_C_thing_108 : m_D k_C_thing 108 (.aload_n 0) 1 := (by decide +kernel : decode prog_1_method_19_code 108 = .ok (.aload_n 0, 1))
theorem d_C_thing_109 : m_D k_C_thing 109 (.getfield 37) 3 := (by decide +kernel : decode prog_1_method_19_code 109 = .ok (.getfield 37, 3))
theorem d_C_thing_112 : m_D k_C_thing 112 (.iload_n 1) 1 := (by decide +kernel : decode prog_1_method_19_code 112 = .ok (.iload_n 1, 1))
theorem d_C_thing_113 : m_D k_C_thing 113 (.iconst 0) 1 := (by decide +kernel : decode prog_1_method_19_code 113 = .ok (.iconst 0, 1))
theorem d_C_thing_114 : m_D k_C_thing 114 (.invokevirtual 254) 3 := (by decide +kernel : decode prog_1_method_19_code 114 = .ok (.invokevirtual 254, 3))
theorem d_C_thing_117 : m_D k_C_thing 117 (.ireturn) 1 := (by decide +kernel : decode prog_1_method_19_code 117 = .ok (.ireturn, 1))
theorem d_C_thing_118 : m_D k_C_thing 118 (.aload_n 3) 1 := (by decide +kernel : decode prog_1_method_19_code 118 = .ok (.aload_n 3, 1))
theorem d_C_thing_119 : m_D k_C_thing 119 (.aload_n 0) 1 := (by decide +kernel : decode prog_1_method_19_code 119 = .ok (.aload_n 0, 1))
theorem d_C_thing_120 : m_D k_C_thing 120 (.getfield 37) 3 := (by decide +kernel : decode prog_1_method_19_code 120 = .ok (.getfield 37, 3))
theorem d_C_thing_123 : m_D k_C_thing 123 (.iload_n 1) 1 := (by decide +kernel : decode prog_1_method_19_code 123 = .ok (.iload_n 1, 1))
theorem d_C_thing_124 : m_D k_C_thing 124 (.iconst 0) 1 := (by decide +kernel : decode prog_1_method_19_code 124 = .ok (.iconst 0, 1))
theorem d_C_thing_125 : m_D k_C_thing 125 (.invokevirtual 254) 3 := (by decide +kernel : decode prog_1_method_19_code 125 = .ok (.invokevirtual 254, 3))
theorem d_C_thing_128 : m_D k_C_thing 128 (.aload_n 0) 1 := (by decide +kernel : decode prog_1_method_19_code 128 = .ok (.aload_n 0, 1))
theorem d_C_thing_129 : m_D k_C_thing 129 (.getfield 37) 3 := (by decide +kernel : decode prog_1_method_19_code 129 = .ok (.getfield 37, 3))
theorem d_C_thing_132 : m_D k_C_thing 132 (.getfield 184) 3 := (by decide +kernel : decode prog_1_method_19_code 132 = .ok (.getfield 184, 3))
theorem d_C_thing_135 : m_D k_C_thing 135 (.invokevirtual 257) 3 := (by decide +kernel : decode prog_1_method_19_code 135 = .ok (.invokevirtual 257, 3))
theorem d_C_thing_138 : m_D k_C_thing 138 (.ireturn) 1 := (by decide +kernel : decode prog_1_method_19_code 138 = .ok (.ireturn, 1))
theorem d_C_thing_139 : m_D k_C_thing 139 (.aload_n 3) 1 := (by decide +kernel : decode prog_1_method_19_code 139 = .ok (.aload_n 3, 1))
theorem d_C_thing_140 : m_D k_C_thing 140 (.invokevirtual 260) 3 := (by decide +kernel : decode prog_1_method_19_code 140 = .ok (.invokevirtual 260, 3))
theorem d_C_thing_143 : m_D k_C_thing 143 (.ifCond .eq 7) 3 := (by decide +kernel : decode prog_1_method_19_code 143 = .ok (.ifCond .eq 7, 3))
theorem d_C_thing_146 : m_D k_C_thing 146 (.iconst 1) 1 := (by decide +kernel : decode prog_1_method_19_code 146 = .ok (.iconst 1, 1))
theorem d_C_thing_147 : m_D k_C_thing 147 (.goto 4) 3 := (by decide +kernel : decode prog_1_method_19_code 147 = .ok (.goto 4, 3))
theorem d_C_thing_150 : m_D k_C_thing 150 (.iconst 0) 1 := (by decide +kernel : decode prog_1_method_19_code 150 = .ok (.iconst 0, 1))
theorem d_C_thing_151 : m_D k_C_thing 151 (.ireturn) 1 := (by decide +kernel : decode prog_1_method_19_code 151 = .ok (.ireturn, 1))
def fn_C_thing (x0 : Option mA) (x1 : Int32) (x2 : Int32) : mP Int32 :=
  m_th 0 x0 <|
  m_bd (fn_C_isThing x0 x1) fun v1 =>
  m_bd (α := Int32) (
    if v1 = 0 then
      m_rt 2
    else
      if x2 < 0 then
        m_rt 5
      else
        if x2 ≤ 6 then
          m_rt 0
        else
          m_rt 5
    ) fun (t2 : Int32) =>
  m_bd (m_pI 0 0 x0 t2) fun _ =>
  m_bd (m_gI 0 0 x0) fun v3 =>
  if v3 = 0 then
    m_bd (m_gR 0 5 x0) fun v4 =>
    m_bd (m_gR 3 8 v4) fun v5 =>
    m_bd (m_aR 7 v5 x1) fun v6 =>
    if x2 = 0 then
      m_bd (m_gI 5 1 v6) fun v7 =>
      m_rt v7
    else if x2 = 1 then
      m_bd (m_gI 5 2 v6) fun v8 =>
      m_rt v8
    else if x2 = 2 then
      m_bd (m_gI 5 3 v6) fun v9 =>
      m_rt v9
    else if x2 = 3 then
      m_bd (m_gI 5 4 v6) fun v10 =>
      m_rt v10
    else if x2 = 4 then
      m_bd (m_gR 0 5 x0) fun v11 =>
      m_bd (fn_Fa_lovedAhead v11 x1 0) fun v12 =>
      m_rt v12
    else if x2 = 5 then
      m_bd (m_gR 0 5 x0) fun v13 =>
      m_bd (fn_Fa_lovedAhead v13 x1 0) fun v14 =>
      m_bd (m_gR 0 5 x0) fun v15 =>
      m_bd (m_gI 3 4 v15) fun v16 =>
      m_bd (fn_Th_bite v6 v14 v16) fun v17 =>
      m_rt v17
    else
      m_bd (fn_Th_isThrough v6) fun v18 =>
      if v18 = 0 then
        m_rt 0
      else
        m_rt 1
  else
    m_rt (-1)
set_option maxHeartbeats 4000000 in
set_option maxRecDepth 100000 in
theorem sd_C_thing (x0 : Option mA) (x1 : Int32) (x2 : Int32) : m_Sm k_C_thing 4 0 0 [.inr (.inr x0), .inl x1, .inl x2] (fn_C_thing x0 x1 x2) (fun b => some (.inl b)) := by
  refine ⟨Nat.le_of_ble_eq_true rfl, ?_⟩
  refine sm_th ?_
  refine sm_aload_n (i := 0) (j := 0) (pc' := 1) d_C_thing_0 rfl rfl rfl (sm_aload_n (i := 0) (j := 0) (pc' := 2) d_C_thing_1 rfl rfl rfl (sm_iload_n (i := 1) (j := 1) (pc' := 3) d_C_thing_2 rfl rfl rfl ?_))
  refine sm_callVi (ci := 0) (x := x0) (av := [.inl x1]) (st := [.inr (.inr x0)]) (mc := 0) (ms := 0) (pc' := 6) d_C_thing_3 rfl (sd_C_isThing x0 x1) m_lv rfl cv_C_isThing w_ml_C_233 rfl rfl (by decide) (Nat.le_of_ble_eq_true rfl) rfl rfl (fun v1 => ?_)
  refine sm_bd (mid := fun (t2 : Int32) => .inl (28, [(0, .inr (.inr x0)), (1, .inl x1), (2, .inl x2)], [.inl t2, .inr (.inr x0)])) ?_ (fun t2 => ?_)
  · refine sm_if_ne (tgt := 13) (pc' := 9) d_C_thing_6 rfl rfl ?_ ?_
    · refine sm_iload_n (i := 2) (j := 2) (pc' := 14) d_C_thing_13 rfl rfl rfl ?_
      refine sm_if_lt (tgt := 23) (pc' := 17) d_C_thing_14 rfl rfl ?_ ?_
      · refine sm_iconst (pc' := 24) d_C_thing_23 rfl ic_5 (sm_goto (tgt := 28) d_C_thing_24 rfl (sm_sub [0, 1, 2] rfl ?_))
        exact sm_rt rfl
      · refine sm_iload_n (i := 2) (j := 2) (pc' := 18) d_C_thing_17 rfl rfl rfl (sm_bipush (pc' := 20) d_C_thing_18 rfl ib_6 ?_)
        refine sm_icmp_le (tgt := 27) (pc' := 23) d_C_thing_20 rfl rfl ?_ ?_
        · refine sm_iconst (pc' := 28) d_C_thing_27 rfl ic_0 (sm_sub [0, 1, 2] rfl ?_)
          exact sm_rt rfl
        · refine sm_iconst (pc' := 24) d_C_thing_23 rfl ic_5 (sm_goto (tgt := 28) d_C_thing_24 rfl (sm_sub [0, 1, 2] rfl ?_))
          exact sm_rt rfl
    · refine sm_iconst (pc' := 10) d_C_thing_9 rfl ic_2 (sm_goto (tgt := 28) d_C_thing_10 rfl (sm_sub [0, 1, 2] rfl ?_))
      exact sm_rt rfl
  · refine sm_putI (pc' := 31) d_C_thing_28 rfl fl_C_9 (Or.inl rfl) rfl (sm_aload_n (i := 0) (j := 0) (pc' := 32) d_C_thing_31 rfl rfl rfl ?_)
    refine sm_getI (pc' := 35) d_C_thing_32 rfl fl_C_9 rfl ⟨by decide, by decide⟩ (fun v3 => ?_)
    refine sm_if_eq (tgt := 40) (pc' := 38) d_C_thing_35 rfl rfl ?_ ?_
    · refine sm_aload_n (i := 0) (j := 0) (pc' := 41) d_C_thing_40 rfl rfl rfl ?_
      refine sm_getR (pc' := 44) d_C_thing_41 rfl fl_C_37 rfl rfl (fun v4 => ?_)
      refine sm_getR (pc' := 47) d_C_thing_44 rfl fl_C_236 rfl rfl (fun v5 => ?_)
      refine sm_iload_n (i := 1) (j := 1) (pc' := 48) d_C_thing_47 rfl rfl rfl ?_
      refine sm_aald (t := 7) ⟨by decide, by decide⟩ rfl (pc' := 49) d_C_thing_48 rfl (fun v6 => ?_)
      refine sm_astore_n (i := 3) (L' := [(3, .inr (.inr v6)), (0, .inr (.inr x0)), (1, .inl x1), (2, .inl x2)]) (pc' := 50) d_C_thing_49 rfl rfl (Nat.le_of_ble_eq_true rfl) rfl (sm_iload_n (i := 2) (j := 3) (pc' := 51) d_C_thing_50 rfl rfl rfl ?_)
      refine sm_ite (fun hs51_0 => ?_) (fun hs51_0 => ?_)
      · refine sm_tabIn (off := 37) (tgt := 88) d_C_thing_51 (by rw [hs51_0]; decide) (by rw [hs51_0]; decide) (by rw [hs51_0]; rfl) rfl ?_
        refine sm_aload_n (i := 3) (j := 0) (pc' := 89) d_C_thing_88 rfl rfl rfl ?_
        refine sm_getI (pc' := 92) d_C_thing_89 rfl fl_C_240 rfl ⟨by decide, by decide⟩ (fun v7 => ?_)
        exact sm_ireturn d_C_thing_92 rfl rfl
      refine sm_ite (fun hs51_1 => ?_) (fun hs51_1 => ?_)
      · refine sm_tabIn (off := 42) (tgt := 93) d_C_thing_51 (by rw [hs51_1]; decide) (by rw [hs51_1]; decide) (by rw [hs51_1]; rfl) rfl ?_
        refine sm_aload_n (i := 3) (j := 0) (pc' := 94) d_C_thing_93 rfl rfl rfl ?_
        refine sm_getI (pc' := 97) d_C_thing_94 rfl fl_C_245 rfl ⟨by decide, by decide⟩ (fun v8 => ?_)
        exact sm_ireturn d_C_thing_97 rfl rfl
      refine sm_ite (fun hs51_2 => ?_) (fun hs51_2 => ?_)
      · refine sm_tabIn (off := 47) (tgt := 98) d_C_thing_51 (by rw [hs51_2]; decide) (by rw [hs51_2]; decide) (by rw [hs51_2]; rfl) rfl ?_
        refine sm_aload_n (i := 3) (j := 0) (pc' := 99) d_C_thing_98 rfl rfl rfl ?_
        refine sm_getI (pc' := 102) d_C_thing_99 rfl fl_C_248 rfl ⟨by decide, by decide⟩ (fun v9 => ?_)
        exact sm_ireturn d_C_thing_102 rfl rfl
      refine sm_ite (fun hs51_3 => ?_) (fun hs51_3 => ?_)
      · refine sm_tabIn (off := 52) (tgt := 103) d_C_thing_51 (by rw [hs51_3]; decide) (by rw [hs51_3]; decide) (by rw [hs51_3]; rfl) rfl ?_
        refine sm_aload_n (i := 3) (j := 0) (pc' := 104) d_C_thing_103 rfl rfl rfl ?_
        refine sm_getI (pc' := 107) d_C_thing_104 rfl fl_C_251 rfl ⟨by decide, by decide⟩ (fun v10 => ?_)
        exact sm_ireturn d_C_thing_107 rfl rfl
      refine sm_ite (fun hs51_4 => ?_) (fun hs51_4 => ?_)
      · refine sm_tabIn (off := 57) (tgt := 108) d_C_thing_51 (by rw [hs51_4]; decide) (by rw [hs51_4]; decide) (by rw [hs51_4]; rfl) rfl ?_
        refine sm_aload_n (i := 0) (j := 1) (pc' := 109) d_C_thing_108 rfl rfl rfl ?_
        refine sm_getR (pc' := 112) d_C_thing_109 rfl fl_C_37 rfl rfl (fun v11 => ?_)
        refine sm_iload_n (i := 1) (j := 2) (pc' := 113) d_C_thing_112 rfl rfl rfl (sm_iconst (pc' := 114) d_C_thing_113 rfl ic_0 ?_)
        refine sm_callVi (ci := 3) (x := v11) (av := [.inl x1, .inl 0]) (st := []) (mc := 0) (ms := 0) (pc' := 117) d_C_thing_114 rfl (sd_Fa_lovedAhead v11 x1 0) m_lv rfl cv_Fa_lovedAhead w_ml_C_254 rfl rfl (by decide) (Nat.le_of_ble_eq_true rfl) rfl rfl (fun v12 => ?_)
        exact sm_ireturn d_C_thing_117 rfl rfl
      refine sm_ite (fun hs51_5 => ?_) (fun hs51_5 => ?_)
      · refine sm_tabIn (off := 67) (tgt := 118) d_C_thing_51 (by rw [hs51_5]; decide) (by rw [hs51_5]; decide) (by rw [hs51_5]; rfl) rfl ?_
        refine sm_aload_n (i := 3) (j := 0) (pc' := 119) d_C_thing_118 rfl rfl rfl (sm_aload_n (i := 0) (j := 1) (pc' := 120) d_C_thing_119 rfl rfl rfl ?_)
        refine sm_getR (pc' := 123) d_C_thing_120 rfl fl_C_37 rfl rfl (fun v13 => ?_)
        refine sm_iload_n (i := 1) (j := 2) (pc' := 124) d_C_thing_123 rfl rfl rfl (sm_iconst (pc' := 125) d_C_thing_124 rfl ic_0 ?_)
        refine sm_callVi (ci := 3) (x := v13) (av := [.inl x1, .inl 0]) (st := [.inr (.inr v6)]) (mc := 0) (ms := 0) (pc' := 128) d_C_thing_125 rfl (sd_Fa_lovedAhead v13 x1 0) m_lv rfl cv_Fa_lovedAhead w_ml_C_254 rfl rfl (by decide) (Nat.le_of_ble_eq_true rfl) rfl rfl (fun v14 => ?_)
        refine sm_aload_n (i := 0) (j := 1) (pc' := 129) d_C_thing_128 rfl rfl rfl ?_
        refine sm_getR (pc' := 132) d_C_thing_129 rfl fl_C_37 rfl rfl (fun v15 => ?_)
        refine sm_getI (pc' := 135) d_C_thing_132 rfl fl_C_184 rfl ⟨by decide, by decide⟩ (fun v16 => ?_)
        refine sm_callVi (ci := 5) (x := v6) (av := [.inl v14, .inl v16]) (st := []) (mc := 0) (ms := 0) (pc' := 138) d_C_thing_135 rfl (sd_Th_bite v6 v14 v16) m_lv rfl cv_Th_bite w_ml_C_257 rfl rfl (by decide) (Nat.le_of_ble_eq_true rfl) rfl rfl (fun v17 => ?_)
        exact sm_ireturn d_C_thing_138 rfl rfl
      refine sm_tabOut (tgt := 139) d_C_thing_51 (by have z0 : (x2).toInt ≠ 0 := fun e => hs51_0 (Int32.toInt_inj.mp (by rw [e]; rfl)); have z1 : (x2).toInt ≠ 1 := fun e => hs51_1 (Int32.toInt_inj.mp (by rw [e]; rfl)); have z2 : (x2).toInt ≠ 2 := fun e => hs51_2 (Int32.toInt_inj.mp (by rw [e]; rfl)); have z3 : (x2).toInt ≠ 3 := fun e => hs51_3 (Int32.toInt_inj.mp (by rw [e]; rfl)); have z4 : (x2).toInt ≠ 4 := fun e => hs51_4 (Int32.toInt_inj.mp (by rw [e]; rfl)); have z5 : (x2).toInt ≠ 5 := fun e => hs51_5 (Int32.toInt_inj.mp (by rw [e]; rfl)); omega) rfl ?_
      refine sm_aload_n (i := 3) (j := 0) (pc' := 140) d_C_thing_139 rfl rfl rfl ?_
      refine sm_callVi (ci := 5) (x := v6) (av := []) (st := []) (mc := 0) (ms := 0) (pc' := 143) d_C_thing_140 rfl (sd_Th_isThrough v6) m_lv rfl cv_Th_isThrough w_ml_C_260 rfl rfl (by decide) (Nat.le_of_ble_eq_true rfl) rfl rfl (fun v18 => ?_)
      refine sm_if_eq (tgt := 150) (pc' := 146) d_C_thing_143 rfl rfl ?_ ?_
      · refine sm_iconst (pc' := 151) d_C_thing_150 rfl ic_0 ?_
        exact sm_ireturn d_C_thing_151 rfl rfl
      · refine sm_iconst (pc' := 147) d_C_thing_146 rfl ic_1 (sm_goto (tgt := 151) d_C_thing_147 rfl ?_)
        exact sm_ireturn d_C_thing_151 rfl rfl
    · refine sm_iconst (pc' := 39) d_C_thing_38 rfl ic_m1 ?_
      exact sm_ireturn d_C_thing_39 rfl rfl
theorem d_C_pairStatus_0 : m_D k_C_pairStatus 0 (.aload_n 0) 1 := (by decide +kernel : decode prog_1_method_24_code 0 = .ok (.aload_n 0, 1))
theorem d_C_pairStatus_1 : m_D k_C_pairStatus 1 (.iload_n 1) 1 := (by decide +kernel : decode prog_1_method_24_code 1 = .ok (.iload_n 1, 1))
theorem d_C_pairStatus_2 : m_D k_C_pairStatus 2 (.invokevirtual 209) 3 := (by decide +kernel : decode prog_1_method_24_code 2 = .ok (.invokevirtual 209, 3))
theorem d_C_pairStatus_5 : m_D k_C_pairStatus 5 (.ifCond .eq 15) 3 := (by decide +kernel : decode prog_1_method_24_code 5 = .ok (.ifCond .eq 15, 3))
theorem d_C_pairStatus_8 : m_D k_C_pairStatus 8 (.aload_n 0) 1 := (by decide +kernel : decode prog_1_method_24_code 8 = .ok (.aload_n 0, 1))
theorem d_C_pairStatus_9 : m_D k_C_pairStatus 9 (.iload_n 2) 1 := (by decide +kernel : decode prog_1_method_24_code 9 = .ok (.iload_n 2, 1))
theorem d_C_pairStatus_10 : m_D k_C_pairStatus 10 (.invokevirtual 233) 3 := (by decide +kernel : decode prog_1_method_24_code 10 = .ok (.invokevirtual 233, 3))
theorem d_C_pairStatus_13 : m_D k_C_pairStatus 13 (.ifCond .eq 7) 3 := (by decide +kernel : decode prog_1_method_24_code 13 = .ok (.ifCond .eq 7, 3))
theorem d_C_pairStatus_16 : m_D k_C_pairStatus 16 (.iconst 0) 1 := (by decide +kernel : decode prog_1_method_24_code 16 = .ok (.iconst 0, 1))
theorem d_C_pairStatus_17 : m_D k_C_pairStatus 17 (.goto 4) 3 := (by decide +kernel : decode prog_1_method_24_code 17 = .ok (.goto 4, 3))
theorem d_C_pairStatus_20 : m_D k_C_pairStatus 20 (.iconst 2) 1 := (by decide +kernel : decode prog_1_method_24_code 20 = .ok (.iconst 2, 1))
theorem d_C_pairStatus_21 : m_D k_C_pairStatus 21 (.ireturn) 1 := (by decide +kernel : decode prog_1_method_24_code 21 = .ok (.ireturn, 1))
def fn_C_pairStatus (x0 : Option mA) (x1 : Int32) (x2 : Int32) : mP Int32 :=
  m_th 0 x0 <|
  m_bd (fn_C_isPerson x0 x1) fun v1 =>
  if v1 = 0 then
    m_rt 2
  else
    m_bd (fn_C_isThing x0 x2) fun v2 =>
    if v2 = 0 then
      m_rt 2
    else
      m_rt 0
set_option maxHeartbeats 4000000 in
set_option maxRecDepth 100000 in
theorem sd_C_pairStatus (x0 : Option mA) (x1 : Int32) (x2 : Int32) : m_Sm k_C_pairStatus 2 0 0 [.inr (.inr x0), .inl x1, .inl x2] (fn_C_pairStatus x0 x1 x2) (fun b => some (.inl b)) := by
  refine ⟨Nat.le_of_ble_eq_true rfl, ?_⟩
  refine sm_th ?_
  refine sm_aload_n (i := 0) (j := 0) (pc' := 1) d_C_pairStatus_0 rfl rfl rfl (sm_iload_n (i := 1) (j := 1) (pc' := 2) d_C_pairStatus_1 rfl rfl rfl ?_)
  refine sm_callVi (ci := 0) (x := x0) (av := [.inl x1]) (st := []) (mc := 0) (ms := 0) (pc' := 5) d_C_pairStatus_2 rfl (sd_C_isPerson x0 x1) m_lv rfl cv_C_isPerson w_ml_C_209 rfl rfl (by decide) (Nat.le_of_ble_eq_true rfl) rfl rfl (fun v1 => ?_)
  refine sm_if_eq (tgt := 20) (pc' := 8) d_C_pairStatus_5 rfl rfl ?_ ?_
  · refine sm_iconst (pc' := 21) d_C_pairStatus_20 rfl ic_2 ?_
    exact sm_ireturn d_C_pairStatus_21 rfl rfl
  · refine sm_aload_n (i := 0) (j := 0) (pc' := 9) d_C_pairStatus_8 rfl rfl rfl (sm_iload_n (i := 2) (j := 2) (pc' := 10) d_C_pairStatus_9 rfl rfl rfl ?_)
    refine sm_callVi (ci := 0) (x := x0) (av := [.inl x2]) (st := []) (mc := 0) (ms := 0) (pc' := 13) d_C_pairStatus_10 rfl (sd_C_isThing x0 x2) m_lv rfl cv_C_isThing w_ml_C_233 rfl rfl (by decide) (Nat.le_of_ble_eq_true rfl) rfl rfl (fun v2 => ?_)
    refine sm_if_eq (tgt := 20) (pc' := 16) d_C_pairStatus_13 rfl rfl ?_ ?_
    · refine sm_iconst (pc' := 21) d_C_pairStatus_20 rfl ic_2 ?_
      exact sm_ireturn d_C_pairStatus_21 rfl rfl
    · refine sm_iconst (pc' := 17) d_C_pairStatus_16 rfl ic_0 (sm_goto (tgt := 21) d_C_pairStatus_17 rfl ?_)
      exact sm_ireturn d_C_pairStatus_21 rfl rfl
theorem d_C_love_0 : m_D k_C_love 0 (.aload_n 0) 1 := (by decide +kernel : decode prog_1_method_20_code 0 = .ok (.aload_n 0, 1))
theorem d_C_love_1 : m_D k_C_love 1 (.aload_n 0) 1 := (by decide +kernel : decode prog_1_method_20_code 1 = .ok (.aload_n 0, 1))
theorem d_C_love_2 : m_D k_C_love 2 (.iload_n 1) 1 := (by decide +kernel : decode prog_1_method_20_code 2 = .ok (.iload_n 1, 1))
theorem d_C_love_3 : m_D k_C_love 3 (.iload_n 2) 1 := (by decide +kernel : decode prog_1_method_20_code 3 = .ok (.iload_n 2, 1))
theorem d_C_love_4 : m_D k_C_love 4 (.invokevirtual 263) 3 := (by decide +kernel : decode prog_1_method_20_code 4 = .ok (.invokevirtual 263, 3))
theorem d_C_love_7 : m_D k_C_love 7 (.putfield 9) 3 := (by decide +kernel : decode prog_1_method_20_code 7 = .ok (.putfield 9, 3))
theorem d_C_love_10 : m_D k_C_love 10 (.aload_n 0) 1 := (by decide +kernel : decode prog_1_method_20_code 10 = .ok (.aload_n 0, 1))
theorem d_C_love_11 : m_D k_C_love 11 (.getfield 9) 3 := (by decide +kernel : decode prog_1_method_20_code 11 = .ok (.getfield 9, 3))
theorem d_C_love_14 : m_D k_C_love 14 (.ifCond .eq 5) 3 := (by decide +kernel : decode prog_1_method_20_code 14 = .ok (.ifCond .eq 5, 3))
theorem d_C_love_17 : m_D k_C_love 17 (.iconst (-1)) 1 := (by decide +kernel : decode prog_1_method_20_code 17 = .ok (.iconst (-1), 1))
theorem d_C_love_18 : m_D k_C_love 18 (.ireturn) 1 := (by decide +kernel : decode prog_1_method_20_code 18 = .ok (.ireturn, 1))
theorem d_C_love_19 : m_D k_C_love 19 (.aload_n 0) 1 := (by decide +kernel : decode prog_1_method_20_code 19 = .ok (.aload_n 0, 1))
theorem d_C_love_20 : m_D k_C_love 20 (.getfield 37) 3 := (by decide +kernel : decode prog_1_method_20_code 20 = .ok (.getfield 37, 3))
theorem d_C_love_23 : m_D k_C_love 23 (.getfield 212) 3 := (by decide +kernel : decode prog_1_method_20_code 23 = .ok (.getfield 212, 3))
theorem d_C_love_26 : m_D k_C_love 26 (.iload_n 1) 1 := (by decide +kernel : decode prog_1_method_20_code 26 = .ok (.iload_n 1, 1))
theorem d_C_love_27 : m_D k_C_love 27 (.aaload) 1 := (by decide +kernel : decode prog_1_method_20_code 27 = .ok (.aaload, 1))
theorem d_C_love_28 : m_D k_C_love 28 (.getfield 266) 3 := (by decide +kernel : decode prog_1_method_20_code 28 = .ok (.getfield 266, 3))
theorem d_C_love_31 : m_D k_C_love 31 (.iload_n 2) 1 := (by decide +kernel : decode prog_1_method_20_code 31 = .ok (.iload_n 2, 1))
theorem d_C_love_32 : m_D k_C_love 32 (.iaload) 1 := (by decide +kernel : decode prog_1_method_20_code 32 = .ok (.iaload, 1))
theorem d_C_love_33 : m_D k_C_love 33 (.ireturn) 1 := (by decide +kernel : decode prog_1_method_20_code 33 = .ok (.ireturn, 1))
def fn_C_love (x0 : Option mA) (x1 : Int32) (x2 : Int32) : mP Int32 :=
  m_th 0 x0 <|
  m_bd (fn_C_pairStatus x0 x1 x2) fun v1 =>
  m_bd (m_pI 0 0 x0 v1) fun _ =>
  m_bd (m_gI 0 0 x0) fun v2 =>
  if v2 = 0 then
    m_bd (m_gR 0 5 x0) fun v3 =>
    m_bd (m_gR 3 7 v3) fun v4 =>
    m_bd (m_aR 6 v4 x1) fun v5 =>
    m_bd (m_gR 4 4 v5) fun v6 =>
    m_bd (m_aI 0 v6 x2) fun v7 =>
    m_rt v7
  else
    m_rt (-1)
set_option maxHeartbeats 4000000 in
set_option maxRecDepth 100000 in
theorem sd_C_love (x0 : Option mA) (x1 : Int32) (x2 : Int32) : m_Sm k_C_love 3 0 0 [.inr (.inr x0), .inl x1, .inl x2] (fn_C_love x0 x1 x2) (fun b => some (.inl b)) := by
  refine ⟨Nat.le_of_ble_eq_true rfl, ?_⟩
  refine sm_th ?_
  refine sm_aload_n (i := 0) (j := 0) (pc' := 1) d_C_love_0 rfl rfl rfl (sm_aload_n (i := 0) (j := 0) (pc' := 2) d_C_love_1 rfl rfl rfl (sm_iload_n (i := 1) (j := 1) (pc' := 3) d_C_love_2 rfl rfl rfl (sm_iload_n (i := 2) (j := 2) (pc' := 4) d_C_love_3 rfl rfl rfl ?_)))
  refine sm_callVi (ci := 0) (x := x0) (av := [.inl x1, .inl x2]) (st := [.inr (.inr x0)]) (mc := 0) (ms := 0) (pc' := 7) d_C_love_4 rfl (sd_C_pairStatus x0 x1 x2) m_lv rfl cv_C_pairStatus w_ml_C_263 rfl rfl (by decide) (Nat.le_of_ble_eq_true rfl) rfl rfl (fun v1 => ?_)
  refine sm_putI (pc' := 10) d_C_love_7 rfl fl_C_9 (Or.inl rfl) rfl (sm_aload_n (i := 0) (j := 0) (pc' := 11) d_C_love_10 rfl rfl rfl ?_)
  refine sm_getI (pc' := 14) d_C_love_11 rfl fl_C_9 rfl ⟨by decide, by decide⟩ (fun v2 => ?_)
  refine sm_if_eq (tgt := 19) (pc' := 17) d_C_love_14 rfl rfl ?_ ?_
  · refine sm_aload_n (i := 0) (j := 0) (pc' := 20) d_C_love_19 rfl rfl rfl ?_
    refine sm_getR (pc' := 23) d_C_love_20 rfl fl_C_37 rfl rfl (fun v3 => ?_)
    refine sm_getR (pc' := 26) d_C_love_23 rfl fl_C_212 rfl rfl (fun v4 => ?_)
    refine sm_iload_n (i := 1) (j := 1) (pc' := 27) d_C_love_26 rfl rfl rfl ?_
    refine sm_aald (t := 6) ⟨by decide, by decide⟩ rfl (pc' := 28) d_C_love_27 rfl (fun v5 => ?_)
    refine sm_getR (pc' := 31) d_C_love_28 rfl fl_C_266 rfl rfl (fun v6 => ?_)
    refine sm_iload_n (i := 2) (j := 2) (pc' := 32) d_C_love_31 rfl rfl rfl ?_
    refine sm_iald (pc' := 33) d_C_love_32 rfl (fun v7 => ?_)
    exact sm_ireturn d_C_love_33 rfl rfl
  · refine sm_iconst (pc' := 18) d_C_love_17 rfl ic_m1 ?_
    exact sm_ireturn d_C_love_18 rfl rfl
theorem d_C_copyRust_0 : m_D k_C_copyRust 0 (.aload_n 0) 1 := (by decide +kernel : decode prog_1_method_21_code 0 = .ok (.aload_n 0, 1))
theorem d_C_copyRust_1 : m_D k_C_copyRust 1 (.iload_n 1) 1 := (by decide +kernel : decode prog_1_method_21_code 1 = .ok (.iload_n 1, 1))
theorem d_C_copyRust_2 : m_D k_C_copyRust 2 (.invokevirtual 137) 3 := (by decide +kernel : decode prog_1_method_21_code 2 = .ok (.invokevirtual 137, 3))
theorem d_C_copyRust_5 : m_D k_C_copyRust 5 (.istore_n 2) 1 := (by decide +kernel : decode prog_1_method_21_code 5 = .ok (.istore_n 2, 1))
theorem d_C_copyRust_6 : m_D k_C_copyRust 6 (.aload_n 0) 1 := (by decide +kernel : decode prog_1_method_21_code 6 = .ok (.aload_n 0, 1))
theorem d_C_copyRust_7 : m_D k_C_copyRust 7 (.iload_n 2) 1 := (by decide +kernel : decode prog_1_method_21_code 7 = .ok (.iload_n 2, 1))
theorem d_C_copyRust_8 : m_D k_C_copyRust 8 (.ifCond .eq 7) 3 := (by decide +kernel : decode prog_1_method_21_code 8 = .ok (.ifCond .eq 7, 3))
theorem d_C_copyRust_11 : m_D k_C_copyRust 11 (.iload_n 2) 1 := (by decide +kernel : decode prog_1_method_21_code 11 = .ok (.iload_n 2, 1))
theorem d_C_copyRust_12 : m_D k_C_copyRust 12 (.goto 28) 3 := (by decide +kernel : decode prog_1_method_21_code 12 = .ok (.goto 28, 3))
theorem d_C_copyRust_15 : m_D k_C_copyRust 15 (.aload_n 0) 1 := (by decide +kernel : decode prog_1_method_21_code 15 = .ok (.aload_n 0, 1))
theorem d_C_copyRust_16 : m_D k_C_copyRust 16 (.getfield 22) 3 := (by decide +kernel : decode prog_1_method_21_code 16 = .ok (.getfield 22, 3))
theorem d_C_copyRust_19 : m_D k_C_copyRust 19 (.iload_n 1) 1 := (by decide +kernel : decode prog_1_method_21_code 19 = .ok (.iload_n 1, 1))
theorem d_C_copyRust_20 : m_D k_C_copyRust 20 (.aaload) 1 := (by decide +kernel : decode prog_1_method_21_code 20 = .ok (.aaload, 1))
theorem d_C_copyRust_21 : m_D k_C_copyRust 21 (.iconst 0) 1 := (by decide +kernel : decode prog_1_method_21_code 21 = .ok (.iconst 0, 1))
theorem d_C_copyRust_22 : m_D k_C_copyRust 22 (.aload_n 0) 1 := (by decide +kernel : decode prog_1_method_21_code 22 = .ok (.aload_n 0, 1))
theorem d_C_copyRust_23 : m_D k_C_copyRust 23 (.getfield 37) 3 := (by decide +kernel : decode prog_1_method_21_code 23 = .ok (.getfield 37, 3))
theorem d_C_copyRust_26 : m_D k_C_copyRust 26 (.getfield 156) 3 := (by decide +kernel : decode prog_1_method_21_code 26 = .ok (.getfield 156, 3))
theorem d_C_copyRust_29 : m_D k_C_copyRust 29 (.invokevirtual 133) 3 := (by decide +kernel : decode prog_1_method_21_code 29 = .ok (.invokevirtual 133, 3))
theorem d_C_copyRust_32 : m_D k_C_copyRust 32 (.ifCond .eq 7) 3 := (by decide +kernel : decode prog_1_method_21_code 32 = .ok (.ifCond .eq 7, 3))
theorem d_C_copyRust_35 : m_D k_C_copyRust 35 (.iconst 0) 1 := (by decide +kernel : decode prog_1_method_21_code 35 = .ok (.iconst 0, 1))
theorem d_C_copyRust_36 : m_D k_C_copyRust 36 (.goto 4) 3 := (by decide +kernel : decode prog_1_method_21_code 36 = .ok (.goto 4, 3))
theorem d_C_copyRust_39 : m_D k_C_copyRust 39 (.iconst 4) 1 := (by decide +kernel : decode prog_1_method_21_code 39 = .ok (.iconst 4, 1))
theorem d_C_copyRust_40 : m_D k_C_copyRust 40 (.putfield 9) 3 := (by decide +kernel : decode prog_1_method_21_code 40 = .ok (.putfield 9, 3))
theorem d_C_copyRust_43 : m_D k_C_copyRust 43 (.aload_n 0) 1 := (by decide +kernel : decode prog_1_method_21_code 43 = .ok (.aload_n 0, 1))
theorem d_C_copyRust_44 : m_D k_C_copyRust 44 (.getfield 9) 3 := (by decide +kernel : decode prog_1_method_21_code 44 = .ok (.getfield 9, 3))
theorem d_C_copyRust_47 : m_D k_C_copyRust 47 (.ifCond .eq 5) 3 := (by decide +kernel : decode prog_1_method_21_code 47 = .ok (.ifCond .eq 5, 3))
theorem d_C_copyRust_50 : m_D k_C_copyRust 50 (.iconst (-1)) 1 := (by decide +kernel : decode prog_1_method_21_code 50 = .ok (.iconst (-1), 1))
theorem d_C_copyRust_51 : m_D k_C_copyRust 51 (.ireturn) 1 := (by decide +kernel : decode prog_1_method_21_code 51 = .ok (.ireturn, 1))
theorem d_C_copyRust_52 : m_D k_C_copyRust 52 (.iconst 0) 1 := (by decide +kernel : decode prog_1_method_21_code 52 = .ok (.iconst 0, 1))
theorem d_C_copyRust_53 : m_D k_C_copyRust 53 (.istore_n 3) 1 := (by decide +kernel : decode prog_1_method_21_code 53 = .ok (.istore_n 3, 1))
theorem d_C_copyRust_54 : m_D k_C_copyRust 54 (.iload_n 3) 1 := (by decide +kernel : decode prog_1_method_21_code 54 = .ok (.iload_n 3, 1))
theorem d_C_copyRust_55 : m_D k_C_copyRust 55 (.aload_n 0) 1 := (by decide +kernel : decode prog_1_method_21_code 55 = .ok (.aload_n 0, 1))
theorem d_C_copyRust_56 : m_D k_C_copyRust 56 (.getfield 37) 3 := (by decide +kernel : decode prog_1_method_21_code 56 = .ok (.getfield 37, 3))
theorem d_C_copyRust_59 : m_D k_C_copyRust 59 (.getfield 156) 3 := (by decide +kernel : decode prog_1_method_21_code 59 = .ok (.getfield 156, 3))
theorem d_C_copyRust_62 : m_D k_C_copyRust 62 (.if_icmp .ge 32) 3 := (by decide +kernel : decode prog_1_method_21_code 62 = .ok (.if_icmp .ge 32, 3))
theorem d_C_copyRust_65 : m_D k_C_copyRust 65 (.aload_n 0) 1 := (by decide +kernel : decode prog_1_method_21_code 65 = .ok (.aload_n 0, 1))
theorem d_C_copyRust_66 : m_D k_C_copyRust 66 (.getfield 22) 3 := (by decide +kernel : decode prog_1_method_21_code 66 = .ok (.getfield 22, 3))
theorem d_C_copyRust_69 : m_D k_C_copyRust 69 (.iload_n 1) 1 := (by decide +kernel : decode prog_1_method_21_code 69 = .ok (.iload_n 1, 1))
theorem d_C_copyRust_70 : m_D k_C_copyRust 70 (.aaload) 1 := (by decide +kernel : decode prog_1_method_21_code 70 = .ok (.aaload, 1))
theorem d_C_copyRust_71 : m_D k_C_copyRust 71 (.iload_n 3) 1 := (by decide +kernel : decode prog_1_method_21_code 71 = .ok (.iload_n 3, 1))
theorem d_C_copyRust_72 : m_D k_C_copyRust 72 (.aload_n 0) 1 := (by decide +kernel : decode prog_1_method_21_code 72 = .ok (.aload_n 0, 1))
theorem d_C_copyRust_73 : m_D k_C_copyRust 73 (.getfield 37) 3 := (by decide +kernel : decode prog_1_method_21_code 73 = .ok (.getfield 37, 3))
theorem d_C_copyRust_76 : m_D k_C_copyRust 76 (.getfield 236) 3 := (by decide +kernel : decode prog_1_method_21_code 76 = .ok (.getfield 236, 3))
theorem d_C_copyRust_79 : m_D k_C_copyRust 79 (.iload_n 3) 1 := (by decide +kernel : decode prog_1_method_21_code 79 = .ok (.iload_n 3, 1))
theorem d_C_copyRust_80 : m_D k_C_copyRust 80 (.aaload) 1 := (by decide +kernel : decode prog_1_method_21_code 80 = .ok (.aaload, 1))
theorem d_C_copyRust_81 : m_D k_C_copyRust 81 (.getfield 248) 3 := (by decide +kernel : decode prog_1_method_21_code 81 = .ok (.getfield 248, 3))
theorem d_C_copyRust_84 : m_D k_C_copyRust 84 (.i2l) 1 := (by decide +kernel : decode prog_1_method_21_code 84 = .ok (.i2l, 1))
theorem d_C_copyRust_85 : m_D k_C_copyRust 85 (.invokevirtual 106) 3 := (by decide +kernel : decode prog_1_method_21_code 85 = .ok (.invokevirtual 106, 3))
theorem d_C_copyRust_88 : m_D k_C_copyRust 88 (.iinc 3 1) 3 := (by decide +kernel : decode prog_1_method_21_code 88 = .ok (.iinc 3 1, 3))
theorem d_C_copyRust_91 : m_D k_C_copyRust 91 (.goto (-37)) 3 := (by decide +kernel : decode prog_1_method_21_code 91 = .ok (.goto (-37), 3))
theorem d_C_copyRust_94 : m_D k_C_copyRust 94 (.aload_n 0) 1 := (by decide +kernel : decode prog_1_method_21_code 94 = .ok (.aload_n 0, 1))
theorem d_C_copyRust_95 : m_D k_C_copyRust 95 (.getfield 37) 3 := (by decide +kernel : decode prog_1_method_21_code 95 = .ok (.getfield 37, 3))
theorem d_C_copyRust_98 : m_D k_C_copyRust 98 (.getfield 156) 3 := (by decide +kernel : decode prog_1_method_21_code 98 = .ok (.getfield 156, 3))
theorem d_C_copyRust_101 : m_D k_C_copyRust 101 (.ireturn) 1 := (by decide +kernel : decode prog_1_method_21_code 101 = .ok (.ireturn, 1))
def fn_C_copyRust_l54 (x0 : Option mA) (x1 : Int32) (t9 : Int32) : mP ((Int32) ⊕ (Unit)) :=
  m_bd (m_gR 0 5 x0) fun v10 =>
  m_bd (m_gI 3 1 v10) fun v11 =>
  if v11 ≤ t9 then
    m_rt (.inr ())
  else
    m_bd (m_gR 0 3 x0) fun v12 =>
    m_bd (m_aR 4 v12 x1) fun v13 =>
    m_bd (m_gR 0 5 x0) fun v14 =>
    m_bd (m_gR 3 8 v14) fun v15 =>
    m_bd (m_aR 7 v15 t9) fun v16 =>
    m_bd (m_gI 5 3 v16) fun v17 =>
    m_bd (fn_Tr_put v13 t9 (v17).toInt64) fun _ =>
    m_rt (.inl (t9 + 1))
def fn_C_copyRust (x0 : Option mA) (x1 : Int32) : mP Int32 :=
  m_th 0 x0 <|
  m_bd (fn_C_trayStatus x0 x1) fun v1 =>
  m_bd (α := Int32) (
    if v1 = 0 then
      m_bd (m_gR 0 3 x0) fun v2 =>
      m_bd (m_aR 4 v2 x1) fun v3 =>
      m_bd (m_gR 0 5 x0) fun v4 =>
      m_bd (m_gI 3 1 v4) fun v5 =>
      m_bd (fn_Tr_holds v3 0 v5) fun v6 =>
      if v6 = 0 then
        m_rt 4
      else
        m_rt 0
    else
      m_rt v1
    ) fun (t7 : Int32) =>
  m_bd (m_pI 0 0 x0 t7) fun _ =>
  m_bd (m_gI 0 0 x0) fun v8 =>
  if v8 = 0 then
    m_bd (m_lp (fn_C_copyRust_l54 x0 x1) m_F 0) fun (t18 : Unit) =>
    m_bd (m_gR 0 5 x0) fun v19 =>
    m_bd (m_gI 3 1 v19) fun v20 =>
    m_rt v20
  else
    m_rt (-1)
set_option maxHeartbeats 4000000 in
set_option maxRecDepth 100000 in
theorem sd_C_copyRust (x0 : Option mA) (x1 : Int32) : m_Sm k_C_copyRust 3 0 0 [.inr (.inr x0), .inl x1] (fn_C_copyRust x0 x1) (fun b => some (.inl b)) := by
  refine ⟨Nat.le_of_ble_eq_true rfl, ?_⟩
  refine sm_th ?_
  refine sm_aload_n (i := 0) (j := 0) (pc' := 1) d_C_copyRust_0 rfl rfl rfl (sm_iload_n (i := 1) (j := 1) (pc' := 2) d_C_copyRust_1 rfl rfl rfl ?_)
  refine sm_callVi (ci := 0) (x := x0) (av := [.inl x1]) (st := []) (mc := 0) (ms := 0) (pc' := 5) d_C_copyRust_2 rfl (sd_C_trayStatus x0 x1) m_lv rfl cv_C_trayStatus w_ml_C_137 rfl rfl (by decide) (Nat.le_of_ble_eq_true rfl) rfl rfl (fun v1 => ?_)
  refine sm_istore_n (i := 2) (L' := [(2, .inl v1), (0, .inr (.inr x0)), (1, .inl x1)]) (pc' := 6) d_C_copyRust_5 rfl rfl (Nat.le_of_ble_eq_true rfl) rfl (sm_aload_n (i := 0) (j := 1) (pc' := 7) d_C_copyRust_6 rfl rfl rfl (sm_iload_n (i := 2) (j := 0) (pc' := 8) d_C_copyRust_7 rfl rfl rfl ?_))
  refine sm_bd (mid := fun (t7 : Int32) => .inl (40, [(0, .inr (.inr x0)), (1, .inl x1)], [.inl t7, .inr (.inr x0)])) ?_ (fun t7 => ?_)
  · refine sm_if_eq (tgt := 15) (pc' := 11) d_C_copyRust_8 rfl rfl ?_ ?_
    · refine sm_aload_n (i := 0) (j := 1) (pc' := 16) d_C_copyRust_15 rfl rfl rfl ?_
      refine sm_getR (pc' := 19) d_C_copyRust_16 rfl fl_C_22 rfl rfl (fun v2 => ?_)
      refine sm_iload_n (i := 1) (j := 2) (pc' := 20) d_C_copyRust_19 rfl rfl rfl ?_
      refine sm_aald (t := 4) ⟨by decide, by decide⟩ rfl (pc' := 21) d_C_copyRust_20 rfl (fun v3 => ?_)
      refine sm_iconst (pc' := 22) d_C_copyRust_21 rfl ic_0 (sm_aload_n (i := 0) (j := 1) (pc' := 23) d_C_copyRust_22 rfl rfl rfl ?_)
      refine sm_getR (pc' := 26) d_C_copyRust_23 rfl fl_C_37 rfl rfl (fun v4 => ?_)
      refine sm_getI (pc' := 29) d_C_copyRust_26 rfl fl_C_156 rfl ⟨by decide, by decide⟩ (fun v5 => ?_)
      refine sm_callVi (ci := 1) (x := v3) (av := [.inl 0, .inl v5]) (st := [.inr (.inr x0)]) (mc := 0) (ms := 0) (pc' := 32) d_C_copyRust_29 rfl (sd_Tr_holds v3 0 v5) m_lv rfl cv_Tr_holds w_ml_C_133 rfl rfl (by decide) (Nat.le_of_ble_eq_true rfl) rfl rfl (fun v6 => ?_)
      refine sm_if_eq (tgt := 39) (pc' := 35) d_C_copyRust_32 rfl rfl ?_ ?_
      · refine sm_iconst (pc' := 40) d_C_copyRust_39 rfl ic_4 (sm_sub [1, 2] rfl ?_)
        exact sm_rt rfl
      · refine sm_iconst (pc' := 36) d_C_copyRust_35 rfl ic_0 (sm_goto (tgt := 40) d_C_copyRust_36 rfl (sm_sub [1, 2] rfl ?_))
        exact sm_rt rfl
    · refine sm_iload_n (i := 2) (j := 0) (pc' := 12) d_C_copyRust_11 rfl rfl rfl (sm_goto (tgt := 40) d_C_copyRust_12 rfl (sm_sub [1, 2] rfl ?_))
      exact sm_rt rfl
  · refine sm_putI (pc' := 43) d_C_copyRust_40 rfl fl_C_9 (Or.inl rfl) rfl (sm_aload_n (i := 0) (j := 0) (pc' := 44) d_C_copyRust_43 rfl rfl rfl ?_)
    refine sm_getI (pc' := 47) d_C_copyRust_44 rfl fl_C_9 rfl ⟨by decide, by decide⟩ (fun v8 => ?_)
    refine sm_if_eq (tgt := 52) (pc' := 50) d_C_copyRust_47 rfl rfl ?_ ?_
    · refine sm_iconst (pc' := 53) d_C_copyRust_52 rfl ic_0 (sm_istore_n (i := 3) (L' := [(3, .inl 0), (0, .inr (.inr x0)), (1, .inl x1)]) (pc' := 54) d_C_copyRust_53 rfl rfl (Nat.le_of_ble_eq_true rfl) rfl ?_)
      refine sm_sub [0, 1, 2] rfl ?_
      refine sm_bd (mid := fun (t18 : Unit) => .inl (94, [(0, .inr (.inr x0))], [])) (sm_lp (hd := fun (t9 : Int32) => (.inl (54, [(3, .inl t9), (0, .inr (.inr x0)), (1, .inl x1)], []) : mC)) (fun t9 => ?_) m_F 0) (fun t18 => ?_)
      · refine sm_iload_n (i := 3) (j := 0) (pc' := 55) d_C_copyRust_54 rfl rfl rfl (sm_aload_n (i := 0) (j := 1) (pc' := 56) d_C_copyRust_55 rfl rfl rfl ?_)
        refine sm_getR (pc' := 59) d_C_copyRust_56 rfl fl_C_37 rfl rfl (fun v10 => ?_)
        refine sm_getI (pc' := 62) d_C_copyRust_59 rfl fl_C_156 rfl ⟨by decide, by decide⟩ (fun v11 => ?_)
        refine sm_icmp_ge (tgt := 94) (pc' := 65) d_C_copyRust_62 rfl rfl ?_ ?_
        · refine sm_sub [1] rfl ?_
          exact sm_rt rfl
        · refine sm_aload_n (i := 0) (j := 1) (pc' := 66) d_C_copyRust_65 rfl rfl rfl ?_
          refine sm_getR (pc' := 69) d_C_copyRust_66 rfl fl_C_22 rfl rfl (fun v12 => ?_)
          refine sm_iload_n (i := 1) (j := 2) (pc' := 70) d_C_copyRust_69 rfl rfl rfl ?_
          refine sm_aald (t := 4) ⟨by decide, by decide⟩ rfl (pc' := 71) d_C_copyRust_70 rfl (fun v13 => ?_)
          refine sm_iload_n (i := 3) (j := 0) (pc' := 72) d_C_copyRust_71 rfl rfl rfl (sm_aload_n (i := 0) (j := 1) (pc' := 73) d_C_copyRust_72 rfl rfl rfl ?_)
          refine sm_getR (pc' := 76) d_C_copyRust_73 rfl fl_C_37 rfl rfl (fun v14 => ?_)
          refine sm_getR (pc' := 79) d_C_copyRust_76 rfl fl_C_236 rfl rfl (fun v15 => ?_)
          refine sm_iload_n (i := 3) (j := 0) (pc' := 80) d_C_copyRust_79 rfl rfl rfl ?_
          refine sm_aald (t := 7) ⟨by decide, by decide⟩ rfl (pc' := 81) d_C_copyRust_80 rfl (fun v16 => ?_)
          refine sm_getI (pc' := 84) d_C_copyRust_81 rfl fl_C_248 rfl ⟨by decide, by decide⟩ (fun v17 => ?_)
          refine sm_i2l (pc' := 85) d_C_copyRust_84 rfl ?_
          refine sm_callVv (ci := 1) (x := v13) (av := [.inl t9, .inr (.inl (v17).toInt64)]) (st := []) (mc := 0) (ms := 0) (pc' := 88) d_C_copyRust_85 rfl (sd_Tr_put v13 t9 (v17).toInt64) m_lv rfl cv_Tr_put w_ml_C_106 rfl rfl (by decide) (Nat.le_of_ble_eq_true rfl) rfl rfl ?_
          refine sm_iinc (j := 0) (L' := [(3, .inl (t9 + 1)), (0, .inr (.inr x0)), (1, .inl x1)]) (pc' := 91) d_C_copyRust_88 rfl (v := (t9 + 1)) rfl (ix_1 _) (Nat.le_of_ble_eq_true rfl) rfl (sm_goto (tgt := 54) d_C_copyRust_91 rfl (sm_sub [0, 1, 2] rfl ?_))
          exact sm_rt rfl
      · refine sm_aload_n (i := 0) (j := 0) (pc' := 95) d_C_copyRust_94 rfl rfl rfl ?_
        refine sm_getR (pc' := 98) d_C_copyRust_95 rfl fl_C_37 rfl rfl (fun v19 => ?_)
        refine sm_getI (pc' := 101) d_C_copyRust_98 rfl fl_C_156 rfl ⟨by decide, by decide⟩ (fun v20 => ?_)
        exact sm_ireturn d_C_copyRust_101 rfl rfl
    · refine sm_iconst (pc' := 51) d_C_copyRust_50 rfl ic_m1 ?_
      exact sm_ireturn d_C_copyRust_51 rfl rfl
theorem d_Th_passYear_0 : m_D k_Th_passYear 0 (.aload_n 0) 1 := (by decide +kernel : decode prog_11_method_6_code 0 = .ok (.aload_n 0, 1))
theorem d_Th_passYear_1 : m_D k_Th_passYear 1 (.iload_n 1) 1 := (by decide +kernel : decode prog_11_method_6_code 1 = .ok (.iload_n 1, 1))
theorem d_Th_passYear_2 : m_D k_Th_passYear 2 (.iload_n 2) 1 := (by decide +kernel : decode prog_11_method_6_code 2 = .ok (.iload_n 2, 1))
theorem d_Th_passYear_3 : m_D k_Th_passYear 3 (.invokevirtual 36) 3 := (by decide +kernel : decode prog_11_method_6_code 3 = .ok (.invokevirtual 36, 3))
theorem d_Th_passYear_6 : m_D k_Th_passYear 6 (.istore_n 3) 1 := (by decide +kernel : decode prog_11_method_6_code 6 = .ok (.istore_n 3, 1))
theorem d_Th_passYear_7 : m_D k_Th_passYear 7 (.aload_n 0) 1 := (by decide +kernel : decode prog_11_method_6_code 7 = .ok (.aload_n 0, 1))
theorem d_Th_passYear_8 : m_D k_Th_passYear 8 (.getfield 19) 3 := (by decide +kernel : decode prog_11_method_6_code 8 = .ok (.getfield 19, 3))
theorem d_Th_passYear_11 : m_D k_Th_passYear 11 (.iload_n 3) 1 := (by decide +kernel : decode prog_11_method_6_code 11 = .ok (.iload_n 3, 1))
theorem d_Th_passYear_12 : m_D k_Th_passYear 12 (.invokestatic 40) 3 := (by decide +kernel : decode prog_11_method_6_code 12 = .ok (.invokestatic 40, 3))
theorem d_Th_passYear_15 : m_D k_Th_passYear 15 (.istore 4) 2 := (by decide +kernel : decode prog_11_method_6_code 15 = .ok (.istore 4, 2))
theorem d_Th_passYear_17 : m_D k_Th_passYear 17 (.aload_n 0) 1 := (by decide +kernel : decode prog_11_method_6_code 17 = .ok (.aload_n 0, 1))
theorem d_Th_passYear_18 : m_D k_Th_passYear 18 (.dup) 1 := (by decide +kernel : decode prog_11_method_6_code 18 = .ok (.dup, 1))
theorem d_Th_passYear_19 : m_D k_Th_passYear 19 (.getfield 19) 3 := (by decide +kernel : decode prog_11_method_6_code 19 = .ok (.getfield 19, 3))
theorem d_Th_passYear_22 : m_D k_Th_passYear 22 (.iload 4) 2 := (by decide +kernel : decode prog_11_method_6_code 22 = .ok (.iload 4, 2))
theorem d_Th_passYear_24 : m_D k_Th_passYear 24 (.isub) 1 := (by decide +kernel : decode prog_11_method_6_code 24 = .ok (.isub, 1))
theorem d_Th_passYear_25 : m_D k_Th_passYear 25 (.putfield 19) 3 := (by decide +kernel : decode prog_11_method_6_code 25 = .ok (.putfield 19, 3))
theorem d_Th_passYear_28 : m_D k_Th_passYear 28 (.aload_n 0) 1 := (by decide +kernel : decode prog_11_method_6_code 28 = .ok (.aload_n 0, 1))
theorem d_Th_passYear_29 : m_D k_Th_passYear 29 (.sipush 999) 3 := (by decide +kernel : decode prog_11_method_6_code 29 = .ok (.sipush 999, 3))
theorem d_Th_passYear_32 : m_D k_Th_passYear 32 (.aload_n 0) 1 := (by decide +kernel : decode prog_11_method_6_code 32 = .ok (.aload_n 0, 1))
theorem d_Th_passYear_33 : m_D k_Th_passYear 33 (.getfield 22) 3 := (by decide +kernel : decode prog_11_method_6_code 33 = .ok (.getfield 22, 3))
theorem d_Th_passYear_36 : m_D k_Th_passYear 36 (.iload_n 3) 1 := (by decide +kernel : decode prog_11_method_6_code 36 = .ok (.iload_n 3, 1))
theorem d_Th_passYear_37 : m_D k_Th_passYear 37 (.iadd) 1 := (by decide +kernel : decode prog_11_method_6_code 37 = .ok (.iadd, 1))
theorem d_Th_passYear_38 : m_D k_Th_passYear 38 (.iload 4) 2 := (by decide +kernel : decode prog_11_method_6_code 38 = .ok (.iload 4, 2))
theorem d_Th_passYear_40 : m_D k_Th_passYear 40 (.isub) 1 := (by decide +kernel : decode prog_11_method_6_code 40 = .ok (.isub, 1))
theorem d_Th_passYear_41 : m_D k_Th_passYear 41 (.invokestatic 40) 3 := (by decide +kernel : decode prog_11_method_6_code 41 = .ok (.invokestatic 40, 3))
theorem d_Th_passYear_44 : m_D k_Th_passYear 44 (.putfield 22) 3 := (by decide +kernel : decode prog_11_method_6_code 44 = .ok (.putfield 22, 3))
theorem d_Th_passYear_47 : m_D k_Th_passYear 47 (.aload_n 0) 1 := (by decide +kernel : decode prog_11_method_6_code 47 = .ok (.aload_n 0, 1))
theorem d_Th_passYear_48 : m_D k_Th_passYear 48 (.iconst 0) 1 := (by decide +kernel : decode prog_11_method_6_code 48 = .ok (.iconst 0, 1))
theorem d_Th_passYear_49 : m_D k_Th_passYear 49 (.aload_n 0) 1 := (by decide +kernel : decode prog_11_method_6_code 49 = .ok (.aload_n 0, 1))
theorem d_Th_passYear_50 : m_D k_Th_passYear 50 (.getfield 25) 3 := (by decide +kernel : decode prog_11_method_6_code 50 = .ok (.getfield 25, 3))
theorem d_Th_passYear_53 : m_D k_Th_passYear 53 (.iconst 1) 1 := (by decide +kernel : decode prog_11_method_6_code 53 = .ok (.iconst 1, 1))
theorem d_Th_passYear_54 : m_D k_Th_passYear 54 (.isub) 1 := (by decide +kernel : decode prog_11_method_6_code 54 = .ok (.isub, 1))
theorem d_Th_passYear_55 : m_D k_Th_passYear 55 (.invokestatic 45) 3 := (by decide +kernel : decode prog_11_method_6_code 55 = .ok (.invokestatic 45, 3))
theorem d_Th_passYear_58 : m_D k_Th_passYear 58 (.putfield 25) 3 := (by decide +kernel : decode prog_11_method_6_code 58 = .ok (.putfield 25, 3))
theorem d_Th_passYear_61 : m_D k_Th_passYear 61 (.return_) 1 := (by decide +kernel : decode prog_11_method_6_code 61 = .ok (.return_, 1))
def fn_Th_passYear (x0 : Option mA) (x1 : Int32) (x2 : Int32) : mP Unit :=
  m_th 5 x0 <|
  m_bd (fn_Th_bite x0 x1 x2) fun v1 =>
  m_bd (m_gI 5 2 x0) fun v2 =>
  m_bd (m_gI 5 2 x0) fun v3 =>
  m_bd (m_pI 5 2 x0 (v3 - (iMin v2 v1))) fun _ =>
  m_bd (m_gI 5 3 x0) fun v4 =>
  m_bd (m_pI 5 3 x0 (iMin 999 ((v4 + v1) - (iMin v2 v1)))) fun _ =>
  m_bd (m_gI 5 4 x0) fun v5 =>
  m_bd (m_pI 5 4 x0 (iMax 0 (v5 - 1))) fun _ =>
  m_rt ()
set_option maxHeartbeats 4000000 in
set_option maxRecDepth 100000 in
theorem sd_Th_passYear (x0 : Option mA) (x1 : Int32) (x2 : Int32) : m_Sm k_Th_passYear 3 0 0 [.inr (.inr x0), .inl x1, .inl x2] (fn_Th_passYear x0 x1 x2) (fun _ => none) := by
  refine ⟨Nat.le_of_ble_eq_true rfl, ?_⟩
  refine sm_th ?_
  refine sm_aload_n (i := 0) (j := 0) (pc' := 1) d_Th_passYear_0 rfl rfl rfl (sm_iload_n (i := 1) (j := 1) (pc' := 2) d_Th_passYear_1 rfl rfl rfl (sm_iload_n (i := 2) (j := 2) (pc' := 3) d_Th_passYear_2 rfl rfl rfl ?_))
  refine sm_callVi (ci := 5) (x := x0) (av := [.inl x1, .inl x2]) (st := []) (mc := 0) (ms := 0) (pc' := 6) d_Th_passYear_3 rfl (sd_Th_bite x0 x1 x2) m_lv rfl cv_Th_bite w_ml_Th_36 rfl rfl (by decide) (Nat.le_of_ble_eq_true rfl) rfl rfl (fun v1 => ?_)
  refine sm_istore_n (i := 3) (L' := [(3, .inl v1), (0, .inr (.inr x0)), (1, .inl x1), (2, .inl x2)]) (pc' := 7) d_Th_passYear_6 rfl rfl (Nat.le_of_ble_eq_true rfl) rfl (sm_aload_n (i := 0) (j := 1) (pc' := 8) d_Th_passYear_7 rfl rfl rfl ?_)
  refine sm_getI (pc' := 11) d_Th_passYear_8 rfl fl_Th_19 rfl ⟨by decide, by decide⟩ (fun v2 => ?_)
  refine sm_iload_n (i := 3) (j := 0) (pc' := 12) d_Th_passYear_11 rfl rfl rfl (sm_mmin (pc' := 15) d_Th_passYear_12 rfl w_ml_Th_40 (by decide) (Nat.le_of_ble_eq_true rfl) (sm_istore (L' := [(4, .inl (iMin v2 v1)), (3, .inl v1), (0, .inr (.inr x0)), (1, .inl x1), (2, .inl x2)]) (pc' := 17) d_Th_passYear_15 rfl (Nat.le_of_ble_eq_true rfl) rfl (sm_aload_n (i := 0) (j := 2) (pc' := 18) d_Th_passYear_17 rfl rfl rfl (sm_dup (pc' := 19) d_Th_passYear_18 rfl rfl ?_))))
  refine sm_getI (pc' := 22) d_Th_passYear_19 rfl fl_Th_19 rfl ⟨by decide, by decide⟩ (fun v3 => ?_)
  refine sm_iload (j := 0) (pc' := 24) d_Th_passYear_22 rfl rfl (sm_isub (pc' := 25) d_Th_passYear_24 rfl (sm_putI (pc' := 28) d_Th_passYear_25 rfl fl_Th_19 (Or.inl rfl) rfl (sm_aload_n (i := 0) (j := 2) (pc' := 29) d_Th_passYear_28 rfl rfl rfl (sm_sipush (pc' := 32) d_Th_passYear_29 rfl is_999 (sm_aload_n (i := 0) (j := 2) (pc' := 33) d_Th_passYear_32 rfl rfl rfl ?_)))))
  refine sm_getI (pc' := 36) d_Th_passYear_33 rfl fl_Th_22 rfl ⟨by decide, by decide⟩ (fun v4 => ?_)
  refine sm_iload_n (i := 3) (j := 1) (pc' := 37) d_Th_passYear_36 rfl rfl rfl (sm_iadd (pc' := 38) d_Th_passYear_37 rfl (sm_iload (j := 0) (pc' := 40) d_Th_passYear_38 rfl rfl (sm_isub (pc' := 41) d_Th_passYear_40 rfl (sm_mmin (pc' := 44) d_Th_passYear_41 rfl w_ml_Th_40 (by decide) (Nat.le_of_ble_eq_true rfl) (sm_putI (pc' := 47) d_Th_passYear_44 rfl fl_Th_22 (Or.inl rfl) rfl (sm_aload_n (i := 0) (j := 2) (pc' := 48) d_Th_passYear_47 rfl rfl rfl (sm_iconst (pc' := 49) d_Th_passYear_48 rfl ic_0 (sm_aload_n (i := 0) (j := 2) (pc' := 50) d_Th_passYear_49 rfl rfl rfl ?_))))))))
  refine sm_getI (pc' := 53) d_Th_passYear_50 rfl fl_Th_25 rfl ⟨by decide, by decide⟩ (fun v5 => ?_)
  refine sm_iconst (pc' := 54) d_Th_passYear_53 rfl ic_1 (sm_isub (pc' := 55) d_Th_passYear_54 rfl (sm_mmax (pc' := 58) d_Th_passYear_55 rfl w_ml_Th_45 (by decide) (Nat.le_of_ble_eq_true rfl) (sm_putI (pc' := 61) d_Th_passYear_58 rfl fl_Th_25 (Or.inl rfl) rfl ?_)))
  exact sm_return d_Th_passYear_61 rfl rfl
theorem d_Fa_passYear_0 : m_D k_Fa_passYear 0 (.iconst 0) 1 := (by decide +kernel : decode prog_3_method_16_code 0 = .ok (.iconst 0, 1))
theorem d_Fa_passYear_1 : m_D k_Fa_passYear 1 (.istore_n 1) 1 := (by decide +kernel : decode prog_3_method_16_code 1 = .ok (.istore_n 1, 1))
theorem d_Fa_passYear_2 : m_D k_Fa_passYear 2 (.iload_n 1) 1 := (by decide +kernel : decode prog_3_method_16_code 2 = .ok (.iload_n 1, 1))
theorem d_Fa_passYear_3 : m_D k_Fa_passYear 3 (.aload_n 0) 1 := (by decide +kernel : decode prog_3_method_16_code 3 = .ok (.aload_n 0, 1))
theorem d_Fa_passYear_4 : m_D k_Fa_passYear 4 (.getfield 45) 3 := (by decide +kernel : decode prog_3_method_16_code 4 = .ok (.getfield 45, 3))
theorem d_Fa_passYear_7 : m_D k_Fa_passYear 7 (.if_icmp .ge 66) 3 := (by decide +kernel : decode prog_3_method_16_code 7 = .ok (.if_icmp .ge 66, 3))
theorem d_Fa_passYear_10 : m_D k_Fa_passYear 10 (.aload_n 0) 1 := (by decide +kernel : decode prog_3_method_16_code 10 = .ok (.aload_n 0, 1))
theorem d_Fa_passYear_11 : m_D k_Fa_passYear 11 (.getfield 26) 3 := (by decide +kernel : decode prog_3_method_16_code 11 = .ok (.getfield 26, 3))
theorem d_Fa_passYear_14 : m_D k_Fa_passYear 14 (.iload_n 1) 1 := (by decide +kernel : decode prog_3_method_16_code 14 = .ok (.iload_n 1, 1))
theorem d_Fa_passYear_15 : m_D k_Fa_passYear 15 (.aaload) 1 := (by decide +kernel : decode prog_3_method_16_code 15 = .ok (.aaload, 1))
theorem d_Fa_passYear_16 : m_D k_Fa_passYear 16 (.getfield 72) 3 := (by decide +kernel : decode prog_3_method_16_code 16 = .ok (.getfield 72, 3))
theorem d_Fa_passYear_19 : m_D k_Fa_passYear 19 (.ifCond .eq 48) 3 := (by decide +kernel : decode prog_3_method_16_code 19 = .ok (.ifCond .eq 48, 3))
theorem d_Fa_passYear_22 : m_D k_Fa_passYear 22 (.aload_n 0) 1 := (by decide +kernel : decode prog_3_method_16_code 22 = .ok (.aload_n 0, 1))
theorem d_Fa_passYear_23 : m_D k_Fa_passYear 23 (.getfield 26) 3 := (by decide +kernel : decode prog_3_method_16_code 23 = .ok (.getfield 26, 3))
theorem d_Fa_passYear_26 : m_D k_Fa_passYear 26 (.iload_n 1) 1 := (by decide +kernel : decode prog_3_method_16_code 26 = .ok (.iload_n 1, 1))
theorem d_Fa_passYear_27 : m_D k_Fa_passYear 27 (.aaload) 1 := (by decide +kernel : decode prog_3_method_16_code 27 = .ok (.aaload, 1))
theorem d_Fa_passYear_28 : m_D k_Fa_passYear 28 (.dup) 1 := (by decide +kernel : decode prog_3_method_16_code 28 = .ok (.dup, 1))
theorem d_Fa_passYear_29 : m_D k_Fa_passYear 29 (.getfield 65) 3 := (by decide +kernel : decode prog_3_method_16_code 29 = .ok (.getfield 65, 3))
theorem d_Fa_passYear_32 : m_D k_Fa_passYear 32 (.iconst 1) 1 := (by decide +kernel : decode prog_3_method_16_code 32 = .ok (.iconst 1, 1))
theorem d_Fa_passYear_33 : m_D k_Fa_passYear 33 (.iadd) 1 := (by decide +kernel : decode prog_3_method_16_code 33 = .ok (.iadd, 1))
theorem d_Fa_passYear_34 : m_D k_Fa_passYear 34 (.putfield 65) 3 := (by decide +kernel : decode prog_3_method_16_code 34 = .ok (.putfield 65, 3))
theorem d_Fa_passYear_37 : m_D k_Fa_passYear 37 (.aload_n 0) 1 := (by decide +kernel : decode prog_3_method_16_code 37 = .ok (.aload_n 0, 1))
theorem d_Fa_passYear_38 : m_D k_Fa_passYear 38 (.getfield 26) 3 := (by decide +kernel : decode prog_3_method_16_code 38 = .ok (.getfield 26, 3))
theorem d_Fa_passYear_41 : m_D k_Fa_passYear 41 (.iload_n 1) 1 := (by decide +kernel : decode prog_3_method_16_code 41 = .ok (.iload_n 1, 1))
theorem d_Fa_passYear_42 : m_D k_Fa_passYear 42 (.aaload) 1 := (by decide +kernel : decode prog_3_method_16_code 42 = .ok (.aaload, 1))
theorem d_Fa_passYear_43 : m_D k_Fa_passYear 43 (.aload_n 0) 1 := (by decide +kernel : decode prog_3_method_16_code 43 = .ok (.aload_n 0, 1))
theorem d_Fa_passYear_44 : m_D k_Fa_passYear 44 (.getfield 26) 3 := (by decide +kernel : decode prog_3_method_16_code 44 = .ok (.getfield 26, 3))
theorem d_Fa_passYear_47 : m_D k_Fa_passYear 47 (.iload_n 1) 1 := (by decide +kernel : decode prog_3_method_16_code 47 = .ok (.iload_n 1, 1))
theorem d_Fa_passYear_48 : m_D k_Fa_passYear 48 (.aaload) 1 := (by decide +kernel : decode prog_3_method_16_code 48 = .ok (.aaload, 1))
theorem d_Fa_passYear_49 : m_D k_Fa_passYear 49 (.getfield 65) 3 := (by decide +kernel : decode prog_3_method_16_code 49 = .ok (.getfield 65, 3))
theorem d_Fa_passYear_52 : m_D k_Fa_passYear 52 (.aload_n 0) 1 := (by decide +kernel : decode prog_3_method_16_code 52 = .ok (.aload_n 0, 1))
theorem d_Fa_passYear_53 : m_D k_Fa_passYear 53 (.getfield 15) 3 := (by decide +kernel : decode prog_3_method_16_code 53 = .ok (.getfield 15, 3))
theorem d_Fa_passYear_56 : m_D k_Fa_passYear 56 (.if_icmp .ge 7) 3 := (by decide +kernel : decode prog_3_method_16_code 56 = .ok (.if_icmp .ge 7, 3))
theorem d_Fa_passYear_59 : m_D k_Fa_passYear 59 (.iconst 1) 1 := (by decide +kernel : decode prog_3_method_16_code 59 = .ok (.iconst 1, 1))
theorem d_Fa_passYear_60 : m_D k_Fa_passYear 60 (.goto 4) 3 := (by decide +kernel : decode prog_3_method_16_code 60 = .ok (.goto 4, 3))
theorem d_Fa_passYear_63 : m_D k_Fa_passYear 63 (.iconst 0) 1 := (by decide +kernel : decode prog_3_method_16_code 63 = .ok (.iconst 0, 1))
theorem d_Fa_passYear_64 : m_D k_Fa_passYear 64 (.putfield 72) 3 := (by decide +kernel : decode prog_3_method_16_code 64 = .ok (.putfield 72, 3))
theorem d_Fa_passYear_67 : m_D k_Fa_passYear 67 (.iinc 1 1) 3 := (by decide +kernel : decode prog_3_method_16_code 67 = .ok (.iinc 1 1, 3))
theorem d_Fa_passYear_70 : m_D k_Fa_passYear 70 (.goto (-68)) 3 := (by decide +kernel : decode prog_3_method_16_code 70 = .ok (.goto (-68), 3))
theorem d_Fa_passYear_73 : m_D k_Fa_passYear 73 (.aload_n 0) 1 := (by decide +kernel : decode prog_3_method_16_code 73 = .ok (.aload_n 0, 1))
theorem d_Fa_passYear_74 : m_D k_Fa_passYear 74 (.iconst 0) 1 := (by decide +kernel : decode prog_3_method_16_code 74 = .ok (.iconst 0, 1))
theorem d_Fa_passYear_75 : m_D k_Fa_passYear 75 (.invokevirtual 102) 3 := (by decide +kernel : decode prog_3_method_16_code 75 = .ok (.invokevirtual 102, 3))
theorem d_Fa_passYear_78 : m_D k_Fa_passYear 78 (.istore_n 1) 1 := (by decide +kernel : decode prog_3_method_16_code 78 = .ok (.istore_n 1, 1))
theorem d_Fa_passYear_79 : m_D k_Fa_passYear 79 (.iconst 0) 1 := (by decide +kernel : decode prog_3_method_16_code 79 = .ok (.iconst 0, 1))
theorem d_Fa_passYear_80 : m_D k_Fa_passYear 80 (.istore_n 2) 1 := (by decide +kernel : decode prog_3_method_16_code 80 = .ok (.istore_n 2, 1))
theorem d_Fa_passYear_81 : m_D k_Fa_passYear 81 (.iload_n 2) 1 := (by decide +kernel : decode prog_3_method_16_code 81 = .ok (.iload_n 2, 1))
theorem d_Fa_passYear_82 : m_D k_Fa_passYear 82 (.aload_n 0) 1 := (by decide +kernel : decode prog_3_method_16_code 82 = .ok (.aload_n 0, 1))
theorem d_Fa_passYear_83 : m_D k_Fa_passYear 83 (.getfield 48) 3 := (by decide +kernel : decode prog_3_method_16_code 83 = .ok (.getfield 48, 3))
theorem d_Fa_passYear_86 : m_D k_Fa_passYear 86 (.if_icmp .ge 28) 3 := (by decide +kernel : decode prog_3_method_16_code 86 = .ok (.if_icmp .ge 28, 3))
theorem d_Fa_passYear_89 : m_D k_Fa_passYear 89 (.aload_n 0) 1 := (by decide +kernel : decode prog_3_method_16_code 89 = .ok (.aload_n 0, 1))
theorem d_Fa_passYear_90 : m_D k_Fa_passYear 90 (.getfield 33) 3 := (by decide +kernel : decode prog_3_method_16_code 90 = .ok (.getfield 33, 3))
theorem d_Fa_passYear_93 : m_D k_Fa_passYear 93 (.iload_n 2) 1 := (by decide +kernel : decode prog_3_method_16_code 93 = .ok (.iload_n 2, 1))
theorem d_Fa_passYear_94 : m_D k_Fa_passYear 94 (.aaload) 1 := (by decide +kernel : decode prog_3_method_16_code 94 = .ok (.aaload, 1))
theorem d_Fa_passYear_95 : m_D k_Fa_passYear 95 (.aload_n 0) 1 := (by decide +kernel : decode prog_3_method_16_code 95 = .ok (.aload_n 0, 1))
theorem d_Fa_passYear_96 : m_D k_Fa_passYear 96 (.iload_n 2) 1 := (by decide +kernel : decode prog_3_method_16_code 96 = .ok (.iload_n 2, 1))
theorem d_Fa_passYear_97 : m_D k_Fa_passYear 97 (.iload_n 1) 1 := (by decide +kernel : decode prog_3_method_16_code 97 = .ok (.iload_n 1, 1))
theorem d_Fa_passYear_98 : m_D k_Fa_passYear 98 (.invokevirtual 106) 3 := (by decide +kernel : decode prog_3_method_16_code 98 = .ok (.invokevirtual 106, 3))
theorem d_Fa_passYear_101 : m_D k_Fa_passYear 101 (.aload_n 0) 1 := (by decide +kernel : decode prog_3_method_16_code 101 = .ok (.aload_n 0, 1))
theorem d_Fa_passYear_102 : m_D k_Fa_passYear 102 (.getfield 18) 3 := (by decide +kernel : decode prog_3_method_16_code 102 = .ok (.getfield 18, 3))
theorem d_Fa_passYear_105 : m_D k_Fa_passYear 105 (.invokevirtual 126) 3 := (by decide +kernel : decode prog_3_method_16_code 105 = .ok (.invokevirtual 126, 3))
theorem d_Fa_passYear_108 : m_D k_Fa_passYear 108 (.iinc 2 1) 3 := (by decide +kernel : decode prog_3_method_16_code 108 = .ok (.iinc 2 1, 3))
theorem d_Fa_passYear_111 : m_D k_Fa_passYear 111 (.goto (-30)) 3 := (by decide +kernel : decode prog_3_method_16_code 111 = .ok (.goto (-30), 3))
theorem d_Fa_passYear_114 : m_D k_Fa_passYear 114 (.return_) 1 := (by decide +kernel : decode prog_3_method_16_code 114 = .ok (.return_, 1))
def fn_Fa_passYear_l2 (x0 : Option mA) (t1 : Int32) : mP ((Int32) ⊕ (Unit)) :=
  m_bd (m_gI 3 0 x0) fun v2 =>
  if v2 ≤ t1 then
    m_rt (.inr ())
  else
    m_bd (m_gR 3 7 x0) fun v3 =>
    m_bd (m_aR 6 v3 t1) fun v4 =>
    m_bd (m_gI 4 3 v4) fun v5 =>
    m_bd (α := Unit) (
      if v5 = 0 then
        m_rt ()
      else
        m_bd (m_gR 3 7 x0) fun v6 =>
        m_bd (m_aR 6 v6 t1) fun v7 =>
        m_bd (m_gI 4 1 v7) fun v8 =>
        m_bd (m_pI 4 1 v7 (v8 + 1)) fun _ =>
        m_bd (m_gR 3 7 x0) fun v9 =>
        m_bd (m_aR 6 v9 t1) fun v10 =>
        m_bd (m_gR 3 7 x0) fun v11 =>
        m_bd (m_aR 6 v11 t1) fun v12 =>
        m_bd (m_gI 4 1 v12) fun v13 =>
        m_bd (m_gI 3 3 x0) fun v14 =>
        m_bd (α := Int32) (
          if v14 ≤ v13 then
            m_rt 0
          else
            m_rt 1
          ) fun (t15 : Int32) =>
        m_bd (m_pZ 4 3 v10 t15) fun _ =>
        m_rt ()
      ) fun (t16 : Unit) =>
    m_rt (.inl (t1 + 1))
def fn_Fa_passYear_l81 (x0 : Option mA) (v18 : Int32) (t19 : Int32) : mP ((Int32) ⊕ (Unit)) :=
  m_bd (m_gI 3 1 x0) fun v20 =>
  if v20 ≤ t19 then
    m_rt (.inr ())
  else
    m_bd (m_gR 3 8 x0) fun v21 =>
    m_bd (m_aR 7 v21 t19) fun v22 =>
    m_bd (fn_Fa_lovedBy x0 t19 v18) fun v23 =>
    m_bd (m_gI 3 4 x0) fun v24 =>
    m_bd (fn_Th_passYear v22 v23 v24) fun _ =>
    m_rt (.inl (t19 + 1))
def fn_Fa_passYear (x0 : Option mA) : mP Unit :=
  m_th 3 x0 <|
  m_bd (m_lp (fn_Fa_passYear_l2 x0) m_F 0) fun (t17 : Unit) =>
  m_bd (fn_Fa_showingSet x0 0) fun v18 =>
  m_bd (m_lp (fn_Fa_passYear_l81 x0 v18) m_F 0) fun (t25 : Unit) =>
  m_rt ()
set_option maxHeartbeats 4000000 in
set_option maxRecDepth 100000 in
theorem sd_Fa_passYear (x0 : Option mA) : m_Sm k_Fa_passYear 4 0 0 [.inr (.inr x0)] (fn_Fa_passYear x0) (fun _ => none) := by
  refine ⟨Nat.le_of_ble_eq_true rfl, ?_⟩
  refine sm_th ?_
  refine sm_iconst (pc' := 1) d_Fa_passYear_0 rfl ic_0 (sm_istore_n (i := 1) (L' := [(1, .inl 0), (0, .inr (.inr x0))]) (pc' := 2) d_Fa_passYear_1 rfl rfl (Nat.le_of_ble_eq_true rfl) rfl ?_)
  refine sm_sub [0, 1] rfl ?_
  refine sm_bd (mid := fun (t17 : Unit) => .inl (73, [(0, .inr (.inr x0))], [])) (sm_lp (hd := fun (t1 : Int32) => (.inl (2, [(1, .inl t1), (0, .inr (.inr x0))], []) : mC)) (fun t1 => ?_) m_F 0) (fun t17 => ?_)
  · refine sm_iload_n (i := 1) (j := 0) (pc' := 3) d_Fa_passYear_2 rfl rfl rfl (sm_aload_n (i := 0) (j := 1) (pc' := 4) d_Fa_passYear_3 rfl rfl rfl ?_)
    refine sm_getI (pc' := 7) d_Fa_passYear_4 rfl fl_Fa_45 rfl ⟨by decide, by decide⟩ (fun v2 => ?_)
    refine sm_icmp_ge (tgt := 73) (pc' := 10) d_Fa_passYear_7 rfl rfl ?_ ?_
    · refine sm_sub [1] rfl ?_
      exact sm_rt rfl
    · refine sm_aload_n (i := 0) (j := 1) (pc' := 11) d_Fa_passYear_10 rfl rfl rfl ?_
      refine sm_getR (pc' := 14) d_Fa_passYear_11 rfl fl_Fa_26 rfl rfl (fun v3 => ?_)
      refine sm_iload_n (i := 1) (j := 0) (pc' := 15) d_Fa_passYear_14 rfl rfl rfl ?_
      refine sm_aald (t := 6) ⟨by decide, by decide⟩ rfl (pc' := 16) d_Fa_passYear_15 rfl (fun v4 => ?_)
      refine sm_getI (pc' := 19) d_Fa_passYear_16 rfl fl_Fa_72 rfl ⟨by decide, by decide⟩ (fun v5 => ?_)
      refine sm_bd (mid := fun (t16 : Unit) => .inl (67, [(0, .inr (.inr x0)), (1, .inl t1)], [])) ?_ (fun t16 => ?_)
      · refine sm_if_eq (tgt := 67) (pc' := 22) d_Fa_passYear_19 rfl rfl ?_ ?_
        · refine sm_sub [1, 0] rfl ?_
          exact sm_rt rfl
        · refine sm_aload_n (i := 0) (j := 1) (pc' := 23) d_Fa_passYear_22 rfl rfl rfl ?_
          refine sm_getR (pc' := 26) d_Fa_passYear_23 rfl fl_Fa_26 rfl rfl (fun v6 => ?_)
          refine sm_iload_n (i := 1) (j := 0) (pc' := 27) d_Fa_passYear_26 rfl rfl rfl ?_
          refine sm_aald (t := 6) ⟨by decide, by decide⟩ rfl (pc' := 28) d_Fa_passYear_27 rfl (fun v7 => ?_)
          refine sm_dup (pc' := 29) d_Fa_passYear_28 rfl rfl ?_
          refine sm_getI (pc' := 32) d_Fa_passYear_29 rfl fl_Fa_65 rfl ⟨by decide, by decide⟩ (fun v8 => ?_)
          refine sm_iconst (pc' := 33) d_Fa_passYear_32 rfl ic_1 (sm_iadd (pc' := 34) d_Fa_passYear_33 rfl (sm_putI (pc' := 37) d_Fa_passYear_34 rfl fl_Fa_65 (Or.inl rfl) rfl (sm_aload_n (i := 0) (j := 1) (pc' := 38) d_Fa_passYear_37 rfl rfl rfl ?_)))
          refine sm_getR (pc' := 41) d_Fa_passYear_38 rfl fl_Fa_26 rfl rfl (fun v9 => ?_)
          refine sm_iload_n (i := 1) (j := 0) (pc' := 42) d_Fa_passYear_41 rfl rfl rfl ?_
          refine sm_aald (t := 6) ⟨by decide, by decide⟩ rfl (pc' := 43) d_Fa_passYear_42 rfl (fun v10 => ?_)
          refine sm_aload_n (i := 0) (j := 1) (pc' := 44) d_Fa_passYear_43 rfl rfl rfl ?_
          refine sm_getR (pc' := 47) d_Fa_passYear_44 rfl fl_Fa_26 rfl rfl (fun v11 => ?_)
          refine sm_iload_n (i := 1) (j := 0) (pc' := 48) d_Fa_passYear_47 rfl rfl rfl ?_
          refine sm_aald (t := 6) ⟨by decide, by decide⟩ rfl (pc' := 49) d_Fa_passYear_48 rfl (fun v12 => ?_)
          refine sm_getI (pc' := 52) d_Fa_passYear_49 rfl fl_Fa_65 rfl ⟨by decide, by decide⟩ (fun v13 => ?_)
          refine sm_aload_n (i := 0) (j := 1) (pc' := 53) d_Fa_passYear_52 rfl rfl rfl ?_
          refine sm_getI (pc' := 56) d_Fa_passYear_53 rfl fl_Fa_15 rfl ⟨by decide, by decide⟩ (fun v14 => ?_)
          refine sm_bd (mid := fun (t15 : Int32) => .inl (64, [(0, .inr (.inr x0)), (1, .inl t1)], [.inl t15, .inr (.inr v10)])) ?_ (fun t15 => ?_)
          · refine sm_icmp_ge (tgt := 63) (pc' := 59) d_Fa_passYear_56 rfl rfl ?_ ?_
            · refine sm_iconst (pc' := 64) d_Fa_passYear_63 rfl ic_0 (sm_sub [1, 0] rfl ?_)
              exact sm_rt rfl
            · refine sm_iconst (pc' := 60) d_Fa_passYear_59 rfl ic_1 (sm_goto (tgt := 64) d_Fa_passYear_60 rfl (sm_sub [1, 0] rfl ?_))
              exact sm_rt rfl
          · refine sm_putZ (pc' := 67) d_Fa_passYear_64 rfl fl_Fa_72 (Or.inl rfl) rfl (sm_sub [0, 1] rfl ?_)
            exact sm_rt rfl
      · refine sm_iinc (j := 1) (L' := [(1, .inl (t1 + 1)), (0, .inr (.inr x0))]) (pc' := 70) d_Fa_passYear_67 rfl (v := (t1 + 1)) rfl (ix_1 _) (Nat.le_of_ble_eq_true rfl) rfl (sm_goto (tgt := 2) d_Fa_passYear_70 rfl (sm_sub [0, 1] rfl ?_))
        exact sm_rt rfl
  · refine sm_aload_n (i := 0) (j := 0) (pc' := 74) d_Fa_passYear_73 rfl rfl rfl (sm_iconst (pc' := 75) d_Fa_passYear_74 rfl ic_0 ?_)
    refine sm_callVi (ci := 3) (x := x0) (av := [.inl 0]) (st := []) (mc := 0) (ms := 0) (pc' := 78) d_Fa_passYear_75 rfl (sd_Fa_showingSet x0 0) m_lv rfl cv_Fa_showingSet w_ml_Fa_102 rfl rfl (by decide) (Nat.le_of_ble_eq_true rfl) rfl rfl (fun v18 => ?_)
    refine sm_istore_n (i := 1) (L' := [(1, .inl v18), (0, .inr (.inr x0))]) (pc' := 79) d_Fa_passYear_78 rfl rfl (Nat.le_of_ble_eq_true rfl) rfl (sm_iconst (pc' := 80) d_Fa_passYear_79 rfl ic_0 (sm_istore_n (i := 2) (L' := [(2, .inl 0), (1, .inl v18), (0, .inr (.inr x0))]) (pc' := 81) d_Fa_passYear_80 rfl rfl (Nat.le_of_ble_eq_true rfl) rfl ?_))
    refine sm_sub [0, 2, 1] rfl ?_
    refine sm_bd (mid := fun (t25 : Unit) => .inl (114, [], [])) (sm_lp (hd := fun (t19 : Int32) => (.inl (81, [(2, .inl t19), (0, .inr (.inr x0)), (1, .inl v18)], []) : mC)) (fun t19 => ?_) m_F 0) (fun t25 => ?_)
    · refine sm_iload_n (i := 2) (j := 0) (pc' := 82) d_Fa_passYear_81 rfl rfl rfl (sm_aload_n (i := 0) (j := 1) (pc' := 83) d_Fa_passYear_82 rfl rfl rfl ?_)
      refine sm_getI (pc' := 86) d_Fa_passYear_83 rfl fl_Fa_48 rfl ⟨by decide, by decide⟩ (fun v20 => ?_)
      refine sm_icmp_ge (tgt := 114) (pc' := 89) d_Fa_passYear_86 rfl rfl ?_ ?_
      · refine sm_sub [] rfl ?_
        exact sm_rt rfl
      · refine sm_aload_n (i := 0) (j := 1) (pc' := 90) d_Fa_passYear_89 rfl rfl rfl ?_
        refine sm_getR (pc' := 93) d_Fa_passYear_90 rfl fl_Fa_33 rfl rfl (fun v21 => ?_)
        refine sm_iload_n (i := 2) (j := 0) (pc' := 94) d_Fa_passYear_93 rfl rfl rfl ?_
        refine sm_aald (t := 7) ⟨by decide, by decide⟩ rfl (pc' := 95) d_Fa_passYear_94 rfl (fun v22 => ?_)
        refine sm_aload_n (i := 0) (j := 1) (pc' := 96) d_Fa_passYear_95 rfl rfl rfl (sm_iload_n (i := 2) (j := 0) (pc' := 97) d_Fa_passYear_96 rfl rfl rfl (sm_iload_n (i := 1) (j := 2) (pc' := 98) d_Fa_passYear_97 rfl rfl rfl ?_))
        refine sm_callVi (ci := 3) (x := x0) (av := [.inl t19, .inl v18]) (st := [.inr (.inr v22)]) (mc := 0) (ms := 0) (pc' := 101) d_Fa_passYear_98 rfl (sd_Fa_lovedBy x0 t19 v18) m_lv rfl cv_Fa_lovedBy w_ml_Fa_106 rfl rfl (by decide) (Nat.le_of_ble_eq_true rfl) rfl rfl (fun v23 => ?_)
        refine sm_aload_n (i := 0) (j := 1) (pc' := 102) d_Fa_passYear_101 rfl rfl rfl ?_
        refine sm_getI (pc' := 105) d_Fa_passYear_102 rfl fl_Fa_18 rfl ⟨by decide, by decide⟩ (fun v24 => ?_)
        refine sm_callVv (ci := 5) (x := v22) (av := [.inl v23, .inl v24]) (st := []) (mc := 0) (ms := 0) (pc' := 108) d_Fa_passYear_105 rfl (sd_Th_passYear v22 v23 v24) m_lv rfl cv_Th_passYear w_ml_Fa_126 rfl rfl (by decide) (Nat.le_of_ble_eq_true rfl) rfl rfl ?_
        refine sm_iinc (j := 0) (L' := [(2, .inl (t19 + 1)), (0, .inr (.inr x0)), (1, .inl v18)]) (pc' := 111) d_Fa_passYear_108 rfl (v := (t19 + 1)) rfl (ix_1 _) (Nat.le_of_ble_eq_true rfl) rfl (sm_goto (tgt := 81) d_Fa_passYear_111 rfl (sm_sub [0, 1, 2] rfl ?_))
        exact sm_rt rfl
    · exact sm_return d_Fa_passYear_114 rfl rfl
theorem d_Fa_passYears_0 : m_D k_Fa_passYears 0 (.aload_n 0) 1 := (by decide +kernel : decode prog_3_method_15_code 0 = .ok (.aload_n 0, 1))
theorem d_Fa_passYears_1 : m_D k_Fa_passYears 1 (.getfield 51) 3 := (by decide +kernel : decode prog_3_method_15_code 1 = .ok (.getfield 51, 3))
theorem d_Fa_passYears_4 : m_D k_Fa_passYears 4 (.iload_n 1) 1 := (by decide +kernel : decode prog_3_method_15_code 4 = .ok (.iload_n 1, 1))
theorem d_Fa_passYears_5 : m_D k_Fa_passYears 5 (.iadd) 1 := (by decide +kernel : decode prog_3_method_15_code 5 = .ok (.iadd, 1))
theorem d_Fa_passYears_6 : m_D k_Fa_passYears 6 (.sipush 9999) 3 := (by decide +kernel : decode prog_3_method_15_code 6 = .ok (.sipush 9999, 3))
theorem d_Fa_passYears_9 : m_D k_Fa_passYears 9 (.if_icmp .le 5) 3 := (by decide +kernel : decode prog_3_method_15_code 9 = .ok (.if_icmp .le 5, 3))
theorem d_Fa_passYears_12 : m_D k_Fa_passYears 12 (.iconst 0) 1 := (by decide +kernel : decode prog_3_method_15_code 12 = .ok (.iconst 0, 1))
theorem d_Fa_passYears_13 : m_D k_Fa_passYears 13 (.ireturn) 1 := (by decide +kernel : decode prog_3_method_15_code 13 = .ok (.ireturn, 1))
theorem d_Fa_passYears_14 : m_D k_Fa_passYears 14 (.iload_n 1) 1 := (by decide +kernel : decode prog_3_method_15_code 14 = .ok (.iload_n 1, 1))
theorem d_Fa_passYears_15 : m_D k_Fa_passYears 15 (.istore_n 2) 1 := (by decide +kernel : decode prog_3_method_15_code 15 = .ok (.istore_n 2, 1))
theorem d_Fa_passYears_16 : m_D k_Fa_passYears 16 (.iconst 0) 1 := (by decide +kernel : decode prog_3_method_15_code 16 = .ok (.iconst 0, 1))
theorem d_Fa_passYears_17 : m_D k_Fa_passYears 17 (.istore_n 3) 1 := (by decide +kernel : decode prog_3_method_15_code 17 = .ok (.istore_n 3, 1))
theorem d_Fa_passYears_18 : m_D k_Fa_passYears 18 (.iload_n 3) 1 := (by decide +kernel : decode prog_3_method_15_code 18 = .ok (.iload_n 3, 1))
theorem d_Fa_passYears_19 : m_D k_Fa_passYears 19 (.iload_n 1) 1 := (by decide +kernel : decode prog_3_method_15_code 19 = .ok (.iload_n 1, 1))
theorem d_Fa_passYears_20 : m_D k_Fa_passYears 20 (.if_icmp .ge 23) 3 := (by decide +kernel : decode prog_3_method_15_code 20 = .ok (.if_icmp .ge 23, 3))
theorem d_Fa_passYears_23 : m_D k_Fa_passYears 23 (.aload_n 0) 1 := (by decide +kernel : decode prog_3_method_15_code 23 = .ok (.aload_n 0, 1))
theorem d_Fa_passYears_24 : m_D k_Fa_passYears 24 (.invokevirtual 114) 3 := (by decide +kernel : decode prog_3_method_15_code 24 = .ok (.invokevirtual 114, 3))
theorem d_Fa_passYears_27 : m_D k_Fa_passYears 27 (.ifCond .eq 16) 3 := (by decide +kernel : decode prog_3_method_15_code 27 = .ok (.ifCond .eq 16, 3))
theorem d_Fa_passYears_30 : m_D k_Fa_passYears 30 (.aload_n 0) 1 := (by decide +kernel : decode prog_3_method_15_code 30 = .ok (.aload_n 0, 1))
theorem d_Fa_passYears_31 : m_D k_Fa_passYears 31 (.invokevirtual 118) 3 := (by decide +kernel : decode prog_3_method_15_code 31 = .ok (.invokevirtual 118, 3))
theorem d_Fa_passYears_34 : m_D k_Fa_passYears 34 (.iinc 2 (-1)) 3 := (by decide +kernel : decode prog_3_method_15_code 34 = .ok (.iinc 2 (-1), 3))
theorem d_Fa_passYears_37 : m_D k_Fa_passYears 37 (.iinc 3 1) 3 := (by decide +kernel : decode prog_3_method_15_code 37 = .ok (.iinc 3 1, 3))
theorem d_Fa_passYears_40 : m_D k_Fa_passYears 40 (.goto (-22)) 3 := (by decide +kernel : decode prog_3_method_15_code 40 = .ok (.goto (-22), 3))
theorem d_Fa_passYears_43 : m_D k_Fa_passYears 43 (.iconst 0) 1 := (by decide +kernel : decode prog_3_method_15_code 43 = .ok (.iconst 0, 1))
theorem d_Fa_passYears_44 : m_D k_Fa_passYears 44 (.istore_n 3) 1 := (by decide +kernel : decode prog_3_method_15_code 44 = .ok (.istore_n 3, 1))
theorem d_Fa_passYears_45 : m_D k_Fa_passYears 45 (.iload_n 3) 1 := (by decide +kernel : decode prog_3_method_15_code 45 = .ok (.iload_n 3, 1))
theorem d_Fa_passYears_46 : m_D k_Fa_passYears 46 (.aload_n 0) 1 := (by decide +kernel : decode prog_3_method_15_code 46 = .ok (.aload_n 0, 1))
theorem d_Fa_passYears_47 : m_D k_Fa_passYears 47 (.getfield 48) 3 := (by decide +kernel : decode prog_3_method_15_code 47 = .ok (.getfield 48, 3))
theorem d_Fa_passYears_50 : m_D k_Fa_passYears 50 (.if_icmp .ge 33) 3 := (by decide +kernel : decode prog_3_method_15_code 50 = .ok (.if_icmp .ge 33, 3))
theorem d_Fa_passYears_53 : m_D k_Fa_passYears 53 (.aload_n 0) 1 := (by decide +kernel : decode prog_3_method_15_code 53 = .ok (.aload_n 0, 1))
theorem d_Fa_passYears_54 : m_D k_Fa_passYears 54 (.getfield 33) 3 := (by decide +kernel : decode prog_3_method_15_code 54 = .ok (.getfield 33, 3))
theorem d_Fa_passYears_57 : m_D k_Fa_passYears 57 (.iload_n 3) 1 := (by decide +kernel : decode prog_3_method_15_code 57 = .ok (.iload_n 3, 1))
theorem d_Fa_passYears_58 : m_D k_Fa_passYears 58 (.aaload) 1 := (by decide +kernel : decode prog_3_method_15_code 58 = .ok (.aaload, 1))
theorem d_Fa_passYears_59 : m_D k_Fa_passYears 59 (.iconst 0) 1 := (by decide +kernel : decode prog_3_method_15_code 59 = .ok (.iconst 0, 1))
theorem d_Fa_passYears_60 : m_D k_Fa_passYears 60 (.aload_n 0) 1 := (by decide +kernel : decode prog_3_method_15_code 60 = .ok (.aload_n 0, 1))
theorem d_Fa_passYears_61 : m_D k_Fa_passYears 61 (.getfield 33) 3 := (by decide +kernel : decode prog_3_method_15_code 61 = .ok (.getfield 33, 3))
theorem d_Fa_passYears_64 : m_D k_Fa_passYears 64 (.iload_n 3) 1 := (by decide +kernel : decode prog_3_method_15_code 64 = .ok (.iload_n 3, 1))
theorem d_Fa_passYears_65 : m_D k_Fa_passYears 65 (.aaload) 1 := (by decide +kernel : decode prog_3_method_15_code 65 = .ok (.aaload, 1))
theorem d_Fa_passYears_66 : m_D k_Fa_passYears 66 (.getfield 95) 3 := (by decide +kernel : decode prog_3_method_15_code 66 = .ok (.getfield 95, 3))
theorem d_Fa_passYears_69 : m_D k_Fa_passYears 69 (.iload_n 2) 1 := (by decide +kernel : decode prog_3_method_15_code 69 = .ok (.iload_n 2, 1))
theorem d_Fa_passYears_70 : m_D k_Fa_passYears 70 (.isub) 1 := (by decide +kernel : decode prog_3_method_15_code 70 = .ok (.isub, 1))
theorem d_Fa_passYears_71 : m_D k_Fa_passYears 71 (.invokestatic 121) 3 := (by decide +kernel : decode prog_3_method_15_code 71 = .ok (.invokestatic 121, 3))
theorem d_Fa_passYears_74 : m_D k_Fa_passYears 74 (.putfield 95) 3 := (by decide +kernel : decode prog_3_method_15_code 74 = .ok (.putfield 95, 3))
theorem d_Fa_passYears_77 : m_D k_Fa_passYears 77 (.iinc 3 1) 3 := (by decide +kernel : decode prog_3_method_15_code 77 = .ok (.iinc 3 1, 3))
theorem d_Fa_passYears_80 : m_D k_Fa_passYears 80 (.goto (-35)) 3 := (by decide +kernel : decode prog_3_method_15_code 80 = .ok (.goto (-35), 3))
theorem d_Fa_passYears_83 : m_D k_Fa_passYears 83 (.aload_n 0) 1 := (by decide +kernel : decode prog_3_method_15_code 83 = .ok (.aload_n 0, 1))
theorem d_Fa_passYears_84 : m_D k_Fa_passYears 84 (.dup) 1 := (by decide +kernel : decode prog_3_method_15_code 84 = .ok (.dup, 1))
theorem d_Fa_passYears_85 : m_D k_Fa_passYears 85 (.getfield 51) 3 := (by decide +kernel : decode prog_3_method_15_code 85 = .ok (.getfield 51, 3))
theorem d_Fa_passYears_88 : m_D k_Fa_passYears 88 (.iload_n 1) 1 := (by decide +kernel : decode prog_3_method_15_code 88 = .ok (.iload_n 1, 1))
theorem d_Fa_passYears_89 : m_D k_Fa_passYears 89 (.iadd) 1 := (by decide +kernel : decode prog_3_method_15_code 89 = .ok (.iadd, 1))
theorem d_Fa_passYears_90 : m_D k_Fa_passYears 90 (.putfield 51) 3 := (by decide +kernel : decode prog_3_method_15_code 90 = .ok (.putfield 51, 3))
theorem d_Fa_passYears_93 : m_D k_Fa_passYears 93 (.iconst 1) 1 := (by decide +kernel : decode prog_3_method_15_code 93 = .ok (.iconst 1, 1))
theorem d_Fa_passYears_94 : m_D k_Fa_passYears 94 (.ireturn) 1 := (by decide +kernel : decode prog_3_method_15_code 94 = .ok (.ireturn, 1))
def fn_Fa_passYears_l18 (x0 : Option mA) (x1 : Int32) (t2 : Int32 × Int32) : mP ((Int32 × Int32) ⊕ (Int32)) :=
  if x1 ≤ t2.2 then
    m_rt (.inr t2.1)
  else
    m_bd (fn_Fa_livingSet x0) fun v3 =>
    if v3 = 0 then
      m_rt (.inr t2.1)
    else
      m_bd (fn_Fa_passYear x0) fun _ =>
      m_rt (.inl ((t2.1 + (-1)), (t2.2 + 1)))
def fn_Fa_passYears_l45 (x0 : Option mA) (t4 : Int32) (t5 : Int32) : mP ((Int32) ⊕ (Unit)) :=
  m_bd (m_gI 3 1 x0) fun v6 =>
  if v6 ≤ t5 then
    m_rt (.inr ())
  else
    m_bd (m_gR 3 8 x0) fun v7 =>
    m_bd (m_aR 7 v7 t5) fun v8 =>
    m_bd (m_gR 3 8 x0) fun v9 =>
    m_bd (m_aR 7 v9 t5) fun v10 =>
    m_bd (m_gI 5 4 v10) fun v11 =>
    m_bd (m_pI 5 4 v8 (iMax 0 (v11 - t4))) fun _ =>
    m_rt (.inl (t5 + 1))
def fn_Fa_passYears (x0 : Option mA) (x1 : Int32) : mP Int32 :=
  m_th 3 x0 <|
  m_bd (m_gI 3 6 x0) fun v1 =>
  if (v1 + x1) ≤ 9999 then
    m_bd (m_lp (fn_Fa_passYears_l18 x0 x1) m_F (x1, 0)) fun (t4 : Int32) =>
    m_bd (m_lp (fn_Fa_passYears_l45 x0 t4) m_F 0) fun (t12 : Unit) =>
    m_bd (m_gI 3 6 x0) fun v13 =>
    m_bd (m_pI 3 6 x0 (v13 + x1)) fun _ =>
    m_rt 1
  else
    m_rt 0
set_option maxHeartbeats 4000000 in
set_option maxRecDepth 100000 in
theorem sd_Fa_passYears (x0 : Option mA) (x1 : Int32) : m_Sm k_Fa_passYears 5 0 0 [.inr (.inr x0), .inl x1] (fn_Fa_passYears x0 x1) (fun b => some (.inl b)) := by
  refine ⟨Nat.le_of_ble_eq_true rfl, ?_⟩
  refine sm_th ?_
  refine sm_aload_n (i := 0) (j := 0) (pc' := 1) d_Fa_passYears_0 rfl rfl rfl ?_
  refine sm_getI (pc' := 4) d_Fa_passYears_1 rfl fl_Fa_51 rfl ⟨by decide, by decide⟩ (fun v1 => ?_)
  refine sm_iload_n (i := 1) (j := 1) (pc' := 5) d_Fa_passYears_4 rfl rfl rfl (sm_iadd (pc' := 6) d_Fa_passYears_5 rfl (sm_sipush (pc' := 9) d_Fa_passYears_6 rfl is_9999 ?_))
  refine sm_icmp_le (tgt := 14) (pc' := 12) d_Fa_passYears_9 rfl rfl ?_ ?_
  · refine sm_iload_n (i := 1) (j := 1) (pc' := 15) d_Fa_passYears_14 rfl rfl rfl (sm_istore_n (i := 2) (L' := [(2, .inl x1), (0, .inr (.inr x0)), (1, .inl x1)]) (pc' := 16) d_Fa_passYears_15 rfl rfl (Nat.le_of_ble_eq_true rfl) rfl (sm_iconst (pc' := 17) d_Fa_passYears_16 rfl ic_0 (sm_istore_n (i := 3) (L' := [(3, .inl 0), (2, .inl x1), (0, .inr (.inr x0)), (1, .inl x1)]) (pc' := 18) d_Fa_passYears_17 rfl rfl (Nat.le_of_ble_eq_true rfl) rfl ?_)))
    refine sm_sub [1, 0, 2, 3] rfl ?_
    refine sm_bd (mid := fun (t4 : Int32) => .inl (43, [(2, .inl t4), (0, .inr (.inr x0)), (1, .inl x1)], [])) (sm_lp (hd := fun (t2 : Int32 × Int32) => (.inl (18, [(2, .inl t2.1), (3, .inl t2.2), (0, .inr (.inr x0)), (1, .inl x1)], []) : mC)) (fun t2 => ?_) m_F (x1, 0)) (fun t4 => ?_)
    · refine sm_iload_n (i := 3) (j := 1) (pc' := 19) d_Fa_passYears_18 rfl rfl rfl (sm_iload_n (i := 1) (j := 3) (pc' := 20) d_Fa_passYears_19 rfl rfl rfl ?_)
      refine sm_icmp_ge (tgt := 43) (pc' := 23) d_Fa_passYears_20 rfl rfl ?_ ?_
      · refine sm_sub [0, 2, 3] rfl ?_
        exact sm_rt rfl
      · refine sm_aload_n (i := 0) (j := 2) (pc' := 24) d_Fa_passYears_23 rfl rfl rfl ?_
        refine sm_callVi (ci := 3) (x := x0) (av := []) (st := []) (mc := 0) (ms := 0) (pc' := 27) d_Fa_passYears_24 rfl (sd_Fa_livingSet x0) m_lv rfl cv_Fa_livingSet w_ml_Fa_114 rfl rfl (by decide) (Nat.le_of_ble_eq_true rfl) rfl rfl (fun v3 => ?_)
        refine sm_if_eq (tgt := 43) (pc' := 30) d_Fa_passYears_27 rfl rfl ?_ ?_
        · refine sm_sub [0, 2, 3] rfl ?_
          exact sm_rt rfl
        · refine sm_aload_n (i := 0) (j := 2) (pc' := 31) d_Fa_passYears_30 rfl rfl rfl ?_
          refine sm_callVv (ci := 3) (x := x0) (av := []) (st := []) (mc := 0) (ms := 0) (pc' := 34) d_Fa_passYears_31 rfl (sd_Fa_passYear x0) m_lv rfl cv_Fa_passYear w_ml_Fa_118 rfl rfl (by decide) (Nat.le_of_ble_eq_true rfl) rfl rfl ?_
          refine sm_iinc (j := 0) (L' := [(2, .inl (t2.1 + (-1))), (3, .inl t2.2), (0, .inr (.inr x0)), (1, .inl x1)]) (pc' := 37) d_Fa_passYears_34 rfl (v := (t2.1 + (-1))) rfl (ix_m1 _) (Nat.le_of_ble_eq_true rfl) rfl (sm_iinc (j := 1) (L' := [(3, .inl (t2.2 + 1)), (2, .inl (t2.1 + (-1))), (0, .inr (.inr x0)), (1, .inl x1)]) (pc' := 40) d_Fa_passYears_37 rfl (v := (t2.2 + 1)) rfl (ix_1 _) (Nat.le_of_ble_eq_true rfl) rfl (sm_goto (tgt := 18) d_Fa_passYears_40 rfl (sm_sub [1, 0, 2, 3] rfl ?_)))
          exact sm_rt rfl
    · refine sm_iconst (pc' := 44) d_Fa_passYears_43 rfl ic_0 (sm_istore_n (i := 3) (L' := [(3, .inl 0), (2, .inl t4), (0, .inr (.inr x0)), (1, .inl x1)]) (pc' := 45) d_Fa_passYears_44 rfl rfl (Nat.le_of_ble_eq_true rfl) rfl ?_)
      refine sm_sub [0, 2, 3, 1] rfl ?_
      refine sm_bd (mid := fun (t12 : Unit) => .inl (83, [(0, .inr (.inr x0)), (1, .inl x1)], [])) (sm_lp (hd := fun (t5 : Int32) => (.inl (45, [(3, .inl t5), (0, .inr (.inr x0)), (1, .inl x1), (2, .inl t4)], []) : mC)) (fun t5 => ?_) m_F 0) (fun t12 => ?_)
      · refine sm_iload_n (i := 3) (j := 0) (pc' := 46) d_Fa_passYears_45 rfl rfl rfl (sm_aload_n (i := 0) (j := 1) (pc' := 47) d_Fa_passYears_46 rfl rfl rfl ?_)
        refine sm_getI (pc' := 50) d_Fa_passYears_47 rfl fl_Fa_48 rfl ⟨by decide, by decide⟩ (fun v6 => ?_)
        refine sm_icmp_ge (tgt := 83) (pc' := 53) d_Fa_passYears_50 rfl rfl ?_ ?_
        · refine sm_sub [1, 2] rfl ?_
          exact sm_rt rfl
        · refine sm_aload_n (i := 0) (j := 1) (pc' := 54) d_Fa_passYears_53 rfl rfl rfl ?_
          refine sm_getR (pc' := 57) d_Fa_passYears_54 rfl fl_Fa_33 rfl rfl (fun v7 => ?_)
          refine sm_iload_n (i := 3) (j := 0) (pc' := 58) d_Fa_passYears_57 rfl rfl rfl ?_
          refine sm_aald (t := 7) ⟨by decide, by decide⟩ rfl (pc' := 59) d_Fa_passYears_58 rfl (fun v8 => ?_)
          refine sm_iconst (pc' := 60) d_Fa_passYears_59 rfl ic_0 (sm_aload_n (i := 0) (j := 1) (pc' := 61) d_Fa_passYears_60 rfl rfl rfl ?_)
          refine sm_getR (pc' := 64) d_Fa_passYears_61 rfl fl_Fa_33 rfl rfl (fun v9 => ?_)
          refine sm_iload_n (i := 3) (j := 0) (pc' := 65) d_Fa_passYears_64 rfl rfl rfl ?_
          refine sm_aald (t := 7) ⟨by decide, by decide⟩ rfl (pc' := 66) d_Fa_passYears_65 rfl (fun v10 => ?_)
          refine sm_getI (pc' := 69) d_Fa_passYears_66 rfl fl_Fa_95 rfl ⟨by decide, by decide⟩ (fun v11 => ?_)
          refine sm_iload_n (i := 2) (j := 3) (pc' := 70) d_Fa_passYears_69 rfl rfl rfl (sm_isub (pc' := 71) d_Fa_passYears_70 rfl (sm_mmax (pc' := 74) d_Fa_passYears_71 rfl w_ml_Fa_121 (by decide) (Nat.le_of_ble_eq_true rfl) (sm_putI (pc' := 77) d_Fa_passYears_74 rfl fl_Fa_95 (Or.inl rfl) rfl (sm_iinc (j := 0) (L' := [(3, .inl (t5 + 1)), (0, .inr (.inr x0)), (1, .inl x1), (2, .inl t4)]) (pc' := 80) d_Fa_passYears_77 rfl (v := (t5 + 1)) rfl (ix_1 _) (Nat.le_of_ble_eq_true rfl) rfl (sm_goto (tgt := 45) d_Fa_passYears_80 rfl (sm_sub [0, 1, 2, 3] rfl ?_))))))
          exact sm_rt rfl
      · refine sm_aload_n (i := 0) (j := 0) (pc' := 84) d_Fa_passYears_83 rfl rfl rfl (sm_dup (pc' := 85) d_Fa_passYears_84 rfl rfl ?_)
        refine sm_getI (pc' := 88) d_Fa_passYears_85 rfl fl_Fa_51 rfl ⟨by decide, by decide⟩ (fun v13 => ?_)
        refine sm_iload_n (i := 1) (j := 1) (pc' := 89) d_Fa_passYears_88 rfl rfl rfl (sm_iadd (pc' := 90) d_Fa_passYears_89 rfl (sm_putI (pc' := 93) d_Fa_passYears_90 rfl fl_Fa_51 (Or.inl rfl) rfl (sm_iconst (pc' := 94) d_Fa_passYears_93 rfl ic_1 ?_)))
        exact sm_zreturn d_Fa_passYears_94 rfl (by decide) rfl
  · refine sm_iconst (pc' := 13) d_Fa_passYears_12 rfl ic_0 ?_
    exact sm_zreturn d_Fa_passYears_13 rfl (by decide) rfl
theorem d_C_year_0 : m_D k_C_year 0 (.aload_n 0) 1 := (by decide +kernel : decode prog_1_method_26_code 0 = .ok (.aload_n 0, 1))
theorem d_C_year_1 : m_D k_C_year 1 (.iload_n 1) 1 := (by decide +kernel : decode prog_1_method_26_code 1 = .ok (.iload_n 1, 1))
theorem d_C_year_2 : m_D k_C_year 2 (.iconst 1) 1 := (by decide +kernel : decode prog_1_method_26_code 2 = .ok (.iconst 1, 1))
theorem d_C_year_3 : m_D k_C_year 3 (.bipush 99) 2 := (by decide +kernel : decode prog_1_method_26_code 3 = .ok (.bipush 99, 2))
theorem d_C_year_5 : m_D k_C_year 5 (.invokestatic 269) 3 := (by decide +kernel : decode prog_1_method_26_code 5 = .ok (.invokestatic 269, 3))
theorem d_C_year_8 : m_D k_C_year 8 (.ifCond .ne 7) 3 := (by decide +kernel : decode prog_1_method_26_code 8 = .ok (.ifCond .ne 7, 3))
theorem d_C_year_11 : m_D k_C_year 11 (.iconst 5) 1 := (by decide +kernel : decode prog_1_method_26_code 11 = .ok (.iconst 5, 1))
theorem d_C_year_12 : m_D k_C_year 12 (.goto 24) 3 := (by decide +kernel : decode prog_1_method_26_code 12 = .ok (.goto 24, 3))
theorem d_C_year_15 : m_D k_C_year 15 (.aload_n 0) 1 := (by decide +kernel : decode prog_1_method_26_code 15 = .ok (.aload_n 0, 1))
theorem d_C_year_16 : m_D k_C_year 16 (.getfield 37) 3 := (by decide +kernel : decode prog_1_method_26_code 16 = .ok (.getfield 37, 3))
theorem d_C_year_19 : m_D k_C_year 19 (.getfield 190) 3 := (by decide +kernel : decode prog_1_method_26_code 19 = .ok (.getfield 190, 3))
theorem d_C_year_22 : m_D k_C_year 22 (.iload_n 1) 1 := (by decide +kernel : decode prog_1_method_26_code 22 = .ok (.iload_n 1, 1))
theorem d_C_year_23 : m_D k_C_year 23 (.iadd) 1 := (by decide +kernel : decode prog_1_method_26_code 23 = .ok (.iadd, 1))
theorem d_C_year_24 : m_D k_C_year 24 (.sipush 9999) 3 := (by decide +kernel : decode prog_1_method_26_code 24 = .ok (.sipush 9999, 3))
theorem d_C_year_27 : m_D k_C_year 27 (.if_icmp .le 8) 3 := (by decide +kernel : decode prog_1_method_26_code 27 = .ok (.if_icmp .le 8, 3))
theorem d_C_year_30 : m_D k_C_year 30 (.bipush 7) 2 := (by decide +kernel : decode prog_1_method_26_code 30 = .ok (.bipush 7, 2))
theorem d_C_year_32 : m_D k_C_year 32 (.goto 4) 3 := (by decide +kernel : decode prog_1_method_26_code 32 = .ok (.goto 4, 3))
theorem d_C_year_35 : m_D k_C_year 35 (.iconst 0) 1 := (by decide +kernel : decode prog_1_method_26_code 35 = .ok (.iconst 0, 1))
theorem d_C_year_36 : m_D k_C_year 36 (.putfield 9) 3 := (by decide +kernel : decode prog_1_method_26_code 36 = .ok (.putfield 9, 3))
theorem d_C_year_39 : m_D k_C_year 39 (.aload_n 0) 1 := (by decide +kernel : decode prog_1_method_26_code 39 = .ok (.aload_n 0, 1))
theorem d_C_year_40 : m_D k_C_year 40 (.getfield 9) 3 := (by decide +kernel : decode prog_1_method_26_code 40 = .ok (.getfield 9, 3))
theorem d_C_year_43 : m_D k_C_year 43 (.ifCond .eq 5) 3 := (by decide +kernel : decode prog_1_method_26_code 43 = .ok (.ifCond .eq 5, 3))
theorem d_C_year_46 : m_D k_C_year 46 (.iconst (-1)) 1 := (by decide +kernel : decode prog_1_method_26_code 46 = .ok (.iconst (-1), 1))
theorem d_C_year_47 : m_D k_C_year 47 (.ireturn) 1 := (by decide +kernel : decode prog_1_method_26_code 47 = .ok (.ireturn, 1))
theorem d_C_year_48 : m_D k_C_year 48 (.aload_n 0) 1 := (by decide +kernel : decode prog_1_method_26_code 48 = .ok (.aload_n 0, 1))
theorem d_C_year_49 : m_D k_C_year 49 (.getfield 37) 3 := (by decide +kernel : decode prog_1_method_26_code 49 = .ok (.getfield 37, 3))
theorem d_C_year_52 : m_D k_C_year 52 (.invokevirtual 200) 3 := (by decide +kernel : decode prog_1_method_26_code 52 = .ok (.invokevirtual 200, 3))
theorem d_C_year_55 : m_D k_C_year 55 (.istore_n 2) 1 := (by decide +kernel : decode prog_1_method_26_code 55 = .ok (.istore_n 2, 1))
theorem d_C_year_56 : m_D k_C_year 56 (.aload_n 0) 1 := (by decide +kernel : decode prog_1_method_26_code 56 = .ok (.aload_n 0, 1))
theorem d_C_year_57 : m_D k_C_year 57 (.getfield 37) 3 := (by decide +kernel : decode prog_1_method_26_code 57 = .ok (.getfield 37, 3))
theorem d_C_year_60 : m_D k_C_year 60 (.iload_n 1) 1 := (by decide +kernel : decode prog_1_method_26_code 60 = .ok (.iload_n 1, 1))
theorem d_C_year_61 : m_D k_C_year 61 (.invokevirtual 273) 3 := (by decide +kernel : decode prog_1_method_26_code 61 = .ok (.invokevirtual 273, 3))
theorem d_C_year_64 : m_D k_C_year 64 (.pop) 1 := (by decide +kernel : decode prog_1_method_26_code 64 = .ok (.pop, 1))
theorem d_C_year_65 : m_D k_C_year 65 (.aload_n 0) 1 := (by decide +kernel : decode prog_1_method_26_code 65 = .ok (.aload_n 0, 1))
theorem d_C_year_66 : m_D k_C_year 66 (.getfield 37) 3 := (by decide +kernel : decode prog_1_method_26_code 66 = .ok (.getfield 37, 3))
theorem d_C_year_69 : m_D k_C_year 69 (.invokevirtual 200) 3 := (by decide +kernel : decode prog_1_method_26_code 69 = .ok (.invokevirtual 200, 3))
theorem d_C_year_72 : m_D k_C_year 72 (.iload_n 2) 1 := (by decide +kernel : decode prog_1_method_26_code 72 = .ok (.iload_n 2, 1))
theorem d_C_year_73 : m_D k_C_year 73 (.iconst (-1)) 1 := (by decide +kernel : decode prog_1_method_26_code 73 = .ok (.iconst (-1), 1))
theorem d_C_year_74 : m_D k_C_year 74 (.ixor) 1 := (by decide +kernel : decode prog_1_method_26_code 74 = .ok (.ixor, 1))
theorem d_C_year_75 : m_D k_C_year 75 (.iand) 1 := (by decide +kernel : decode prog_1_method_26_code 75 = .ok (.iand, 1))
theorem d_C_year_76 : m_D k_C_year 76 (.ireturn) 1 := (by decide +kernel : decode prog_1_method_26_code 76 = .ok (.ireturn, 1))
def fn_C_year (x0 : Option mA) (x1 : Int32) : mP Int32 :=
  m_th 0 x0 <|
  m_bd (fn_C_isWithin x1 1 99) fun v1 =>
  m_bd (α := Int32) (
    if v1 = 0 then
      m_rt 5
    else
      m_bd (m_gR 0 5 x0) fun v2 =>
      m_bd (m_gI 3 6 v2) fun v3 =>
      if (v3 + x1) ≤ 9999 then
        m_rt 0
      else
        m_rt 7
    ) fun (t4 : Int32) =>
  m_bd (m_pI 0 0 x0 t4) fun _ =>
  m_bd (m_gI 0 0 x0) fun v5 =>
  if v5 = 0 then
    m_bd (m_gR 0 5 x0) fun v6 =>
    m_bd (fn_Fa_throughSet v6) fun v7 =>
    m_bd (m_gR 0 5 x0) fun v8 =>
    m_bd (fn_Fa_passYears v8 x1) fun v9 =>
    m_bd (m_gR 0 5 x0) fun v10 =>
    m_bd (fn_Fa_throughSet v10) fun v11 =>
    m_rt (v11 &&& (v7 ^^^ (-1)))
  else
    m_rt (-1)
set_option maxHeartbeats 4000000 in
set_option maxRecDepth 100000 in
theorem sd_C_year (x0 : Option mA) (x1 : Int32) : m_Sm k_C_year 6 0 0 [.inr (.inr x0), .inl x1] (fn_C_year x0 x1) (fun b => some (.inl b)) := by
  refine ⟨Nat.le_of_ble_eq_true rfl, ?_⟩
  refine sm_th ?_
  refine sm_aload_n (i := 0) (j := 0) (pc' := 1) d_C_year_0 rfl rfl rfl (sm_iload_n (i := 1) (j := 1) (pc' := 2) d_C_year_1 rfl rfl rfl (sm_iconst (pc' := 3) d_C_year_2 rfl ic_1 (sm_bipush (pc' := 5) d_C_year_3 rfl ib_99 ?_)))
  refine sm_callSi (av := [.inl x1, .inl 1, .inl 99]) (st := [.inr (.inr x0)]) (mc := 0) (ms := 0) (pc' := 8) d_C_year_5 rfl (sd_C_isWithin x1 1 99) cs_C_isWithin w_ml_C_269 rfl rfl (by decide) (Nat.le_of_ble_eq_true rfl) rfl rfl (fun v1 => ?_)
  refine sm_bd (mid := fun (t4 : Int32) => .inl (36, [(0, .inr (.inr x0)), (1, .inl x1)], [.inl t4, .inr (.inr x0)])) ?_ (fun t4 => ?_)
  · refine sm_if_ne (tgt := 15) (pc' := 11) d_C_year_8 rfl rfl ?_ ?_
    · refine sm_aload_n (i := 0) (j := 0) (pc' := 16) d_C_year_15 rfl rfl rfl ?_
      refine sm_getR (pc' := 19) d_C_year_16 rfl fl_C_37 rfl rfl (fun v2 => ?_)
      refine sm_getI (pc' := 22) d_C_year_19 rfl fl_C_190 rfl ⟨by decide, by decide⟩ (fun v3 => ?_)
      refine sm_iload_n (i := 1) (j := 1) (pc' := 23) d_C_year_22 rfl rfl rfl (sm_iadd (pc' := 24) d_C_year_23 rfl (sm_sipush (pc' := 27) d_C_year_24 rfl is_9999 ?_))
      refine sm_icmp_le (tgt := 35) (pc' := 30) d_C_year_27 rfl rfl ?_ ?_
      · refine sm_iconst (pc' := 36) d_C_year_35 rfl ic_0 (sm_sub [0, 1] rfl ?_)
        exact sm_rt rfl
      · refine sm_bipush (pc' := 32) d_C_year_30 rfl ib_7 (sm_goto (tgt := 36) d_C_year_32 rfl (sm_sub [0, 1] rfl ?_))
        exact sm_rt rfl
    · refine sm_iconst (pc' := 12) d_C_year_11 rfl ic_5 (sm_goto (tgt := 36) d_C_year_12 rfl (sm_sub [0, 1] rfl ?_))
      exact sm_rt rfl
  · refine sm_putI (pc' := 39) d_C_year_36 rfl fl_C_9 (Or.inl rfl) rfl (sm_aload_n (i := 0) (j := 0) (pc' := 40) d_C_year_39 rfl rfl rfl ?_)
    refine sm_getI (pc' := 43) d_C_year_40 rfl fl_C_9 rfl ⟨by decide, by decide⟩ (fun v5 => ?_)
    refine sm_if_eq (tgt := 48) (pc' := 46) d_C_year_43 rfl rfl ?_ ?_
    · refine sm_aload_n (i := 0) (j := 0) (pc' := 49) d_C_year_48 rfl rfl rfl ?_
      refine sm_getR (pc' := 52) d_C_year_49 rfl fl_C_37 rfl rfl (fun v6 => ?_)
      refine sm_callVi (ci := 3) (x := v6) (av := []) (st := []) (mc := 0) (ms := 0) (pc' := 55) d_C_year_52 rfl (sd_Fa_throughSet v6) m_lv rfl cv_Fa_throughSet w_ml_C_200 rfl rfl (by decide) (Nat.le_of_ble_eq_true rfl) rfl rfl (fun v7 => ?_)
      refine sm_istore_n (i := 2) (L' := [(2, .inl v7), (0, .inr (.inr x0)), (1, .inl x1)]) (pc' := 56) d_C_year_55 rfl rfl (Nat.le_of_ble_eq_true rfl) rfl (sm_aload_n (i := 0) (j := 1) (pc' := 57) d_C_year_56 rfl rfl rfl ?_)
      refine sm_getR (pc' := 60) d_C_year_57 rfl fl_C_37 rfl rfl (fun v8 => ?_)
      refine sm_iload_n (i := 1) (j := 2) (pc' := 61) d_C_year_60 rfl rfl rfl ?_
      refine sm_callVi (ci := 3) (x := v8) (av := [.inl x1]) (st := []) (mc := 0) (ms := 0) (pc' := 64) d_C_year_61 rfl (sd_Fa_passYears v8 x1) m_lv rfl cv_Fa_passYears w_ml_C_273 rfl rfl (by decide) (Nat.le_of_ble_eq_true rfl) rfl rfl (fun v9 => ?_)
      refine sm_pop (pc' := 65) d_C_year_64 rfl rfl (sm_aload_n (i := 0) (j := 1) (pc' := 66) d_C_year_65 rfl rfl rfl ?_)
      refine sm_getR (pc' := 69) d_C_year_66 rfl fl_C_37 rfl rfl (fun v10 => ?_)
      refine sm_callVi (ci := 3) (x := v10) (av := []) (st := []) (mc := 0) (ms := 0) (pc' := 72) d_C_year_69 rfl (sd_Fa_throughSet v10) m_lv rfl cv_Fa_throughSet w_ml_C_200 rfl rfl (by decide) (Nat.le_of_ble_eq_true rfl) rfl rfl (fun v11 => ?_)
      refine sm_iload_n (i := 2) (j := 0) (pc' := 73) d_C_year_72 rfl rfl rfl (sm_iconst (pc' := 74) d_C_year_73 rfl ic_m1 (sm_ixor (pc' := 75) d_C_year_74 rfl (sm_iand (pc' := 76) d_C_year_75 rfl ?_)))
      exact sm_ireturn d_C_year_76 rfl rfl
    · refine sm_iconst (pc' := 47) d_C_year_46 rfl ic_m1 ?_
      exact sm_ireturn d_C_year_47 rfl rfl
