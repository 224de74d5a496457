/-! 10.ref7, laid by wip/whole/gen.py -/
theorem d_M_fraction_0 : m_D k_M_fraction 0 (.lload_n 1) 1 := (by decide +kernel : decode prog_14_method_9_code 0 = .ok (.lload_n 1, 1))
theorem d_M_fraction_1 : m_D k_M_fraction 1 (.invokestatic 90) 3 := (by decide +kernel : decode prog_14_method_9_code 1 = .ok (.invokestatic 90, 3))
theorem d_M_fraction_4 : m_D k_M_fraction 4 (.lstore 5) 2 := (by decide +kernel : decode prog_14_method_9_code 4 = .ok (.lstore 5, 2))
theorem d_M_fraction_6 : m_D k_M_fraction 6 (.lload_n 3) 1 := (by decide +kernel : decode prog_14_method_9_code 6 = .ok (.lload_n 3, 1))
theorem d_M_fraction_7 : m_D k_M_fraction 7 (.lstore 7) 2 := (by decide +kernel : decode prog_14_method_9_code 7 = .ok (.lstore 7, 2))
theorem d_M_fraction_9 : m_D k_M_fraction 9 (.lload 7) 2 := (by decide +kernel : decode prog_14_method_9_code 9 = .ok (.lload 7, 2))
theorem d_M_fraction_11 : m_D k_M_fraction 11 (.lconst 0) 1 := (by decide +kernel : decode prog_14_method_9_code 11 = .ok (.lconst 0, 1))
theorem d_M_fraction_12 : m_D k_M_fraction 12 (.lcmp) 1 := (by decide +kernel : decode prog_14_method_9_code 12 = .ok (.lcmp, 1))
theorem d_M_fraction_13 : m_D k_M_fraction 13 (.ifCond .eq 21) 3 := (by decide +kernel : decode prog_14_method_9_code 13 = .ok (.ifCond .eq 21, 3))
theorem d_M_fraction_16 : m_D k_M_fraction 16 (.lload 5) 2 := (by decide +kernel : decode prog_14_method_9_code 16 = .ok (.lload 5, 2))
theorem d_M_fraction_18 : m_D k_M_fraction 18 (.lload 7) 2 := (by decide +kernel : decode prog_14_method_9_code 18 = .ok (.lload 7, 2))
theorem d_M_fraction_20 : m_D k_M_fraction 20 (.lrem) 1 := (by decide +kernel : decode prog_14_method_9_code 20 = .ok (.lrem, 1))
theorem d_M_fraction_21 : m_D k_M_fraction 21 (.lstore 9) 2 := (by decide +kernel : decode prog_14_method_9_code 21 = .ok (.lstore 9, 2))
theorem d_M_fraction_23 : m_D k_M_fraction 23 (.lload 7) 2 := (by decide +kernel : decode prog_14_method_9_code 23 = .ok (.lload 7, 2))
theorem d_M_fraction_25 : m_D k_M_fraction 25 (.lstore 5) 2 := (by decide +kernel : decode prog_14_method_9_code 25 = .ok (.lstore 5, 2))
theorem d_M_fraction_27 : m_D k_M_fraction 27 (.lload 9) 2 := (by decide +kernel : decode prog_14_method_9_code 27 = .ok (.lload 9, 2))
theorem d_M_fraction_29 : m_D k_M_fraction 29 (.lstore 7) 2 := (by decide +kernel : decode prog_14_method_9_code 29 = .ok (.lstore 7, 2))
theorem d_M_fraction_31 : m_D k_M_fraction 31 (.goto (-22)) 3 := (by decide +kernel : decode prog_14_method_9_code 31 = .ok (.goto (-22), 3))
theorem d_M_fraction_34 : m_D k_M_fraction 34 (.aload_n 0) 1 := (by decide +kernel : decode prog_14_method_9_code 34 = .ok (.aload_n 0, 1))
theorem d_M_fraction_35 : m_D k_M_fraction 35 (.lload_n 1) 1 := (by decide +kernel : decode prog_14_method_9_code 35 = .ok (.lload_n 1, 1))
theorem d_M_fraction_36 : m_D k_M_fraction 36 (.lload 5) 2 := (by decide +kernel : decode prog_14_method_9_code 36 = .ok (.lload 5, 2))
theorem d_M_fraction_38 : m_D k_M_fraction 38 (.ldiv) 1 := (by decide +kernel : decode prog_14_method_9_code 38 = .ok (.ldiv, 1))
theorem d_M_fraction_39 : m_D k_M_fraction 39 (.putfield 87) 3 := (by decide +kernel : decode prog_14_method_9_code 39 = .ok (.putfield 87, 3))
theorem d_M_fraction_42 : m_D k_M_fraction 42 (.aload_n 0) 1 := (by decide +kernel : decode prog_14_method_9_code 42 = .ok (.aload_n 0, 1))
theorem d_M_fraction_43 : m_D k_M_fraction 43 (.lload_n 3) 1 := (by decide +kernel : decode prog_14_method_9_code 43 = .ok (.lload_n 3, 1))
theorem d_M_fraction_44 : m_D k_M_fraction 44 (.lload 5) 2 := (by decide +kernel : decode prog_14_method_9_code 44 = .ok (.lload 5, 2))
theorem d_M_fraction_46 : m_D k_M_fraction 46 (.ldiv) 1 := (by decide +kernel : decode prog_14_method_9_code 46 = .ok (.ldiv, 1))
theorem d_M_fraction_47 : m_D k_M_fraction 47 (.putfield 7) 3 := (by decide +kernel : decode prog_14_method_9_code 47 = .ok (.putfield 7, 3))
theorem d_M_fraction_50 : m_D k_M_fraction 50 (.iconst 1) 1 := (by decide +kernel : decode prog_14_method_9_code 50 = .ok (.iconst 1, 1))
theorem d_M_fraction_51 : m_D k_M_fraction 51 (.ireturn) 1 := (by decide +kernel : decode prog_14_method_9_code 51 = .ok (.ireturn, 1))
def fn_M_fraction_l9 (t1 : Int64 × Int64) : mP ((Int64 × Int64) ⊕ (Int64)) :=
  if (lg_cmp t1.2 0) = 0 then
    m_rt (.inr t1.1)
  else
    m_bd (m_nzJ t1.2) fun _ =>
    m_rt (.inl (t1.2, (jR t1.1 t1.2)))
def fn_M_fraction (x0 : Option mA) (x1 : Int64) (x3 : Int64) : mP Int32 :=
  m_th 11 x0 <|
  m_bd (m_lp fn_M_fraction_l9 m_F ((jAbs x1), x3)) fun (t2 : Int64) =>
  m_bd (m_nzJ t2) fun _ =>
  m_bd (m_pJ 11 2 x0 (x1 / t2)) fun _ =>
  m_bd (m_nzJ t2) fun _ =>
  m_bd (m_pJ 11 3 x0 (x3 / t2)) fun _ =>
  m_rt 1
set_option maxHeartbeats 4000000 in
set_option maxRecDepth 100000 in
theorem sd_M_fraction (x0 : Option mA) (x1 : Int64) (x3 : Int64) : m_Sm k_M_fraction 1 0 0 [.inr (.inr x0), .inr (.inl x1), .inr (.inl x3)] (fn_M_fraction x0 x1 x3) (fun b => some (.inl b)) := by
  refine ⟨Nat.le_of_ble_eq_true rfl, ?_⟩
  refine sm_th ?_
  refine sm_lload_n (i := 1) (j := 1) (pc' := 1) d_M_fraction_0 rfl rfl rfl (sm_mabsJ (pc' := 4) d_M_fraction_1 rfl w_ml_M_90 (by decide) (Nat.le_of_ble_eq_true rfl) (sm_lstore (L' := [(5, .inr (.inl (jAbs x1))), (0, .inr (.inr x0)), (1, .inr (.inl x1)), (3, .inr (.inl x3))]) (pc' := 6) d_M_fraction_4 rfl (Nat.le_of_ble_eq_true rfl) rfl (sm_lload_n (i := 3) (j := 3) (pc' := 7) d_M_fraction_6 rfl rfl rfl (sm_lstore (L' := [(7, .inr (.inl x3)), (5, .inr (.inl (jAbs x1))), (0, .inr (.inr x0)), (1, .inr (.inl x1)), (3, .inr (.inl x3))]) (pc' := 9) d_M_fraction_7 rfl (Nat.le_of_ble_eq_true rfl) rfl ?_))))
  refine sm_sub [1, 0, 2, 3, 4] rfl ?_
  refine sm_bd (mid := fun (t2 : Int64) => .inl (34, [(5, .inr (.inl t2)), (0, .inr (.inr x0)), (1, .inr (.inl x1)), (3, .inr (.inl x3))], [])) (sm_lp (hd := fun (t1 : Int64 × Int64) => (.inl (9, [(5, .inr (.inl t1.1)), (7, .inr (.inl t1.2)), (0, .inr (.inr x0)), (1, .inr (.inl x1)), (3, .inr (.inl x3))], []) : mC)) (fun t1 => ?_) m_F ((jAbs x1), x3)) (fun t2 => ?_)
  · refine sm_lload (j := 1) (pc' := 11) d_M_fraction_9 rfl rfl (sm_lconst (pc' := 12) (v := 0) d_M_fraction_11 rfl rfl (sm_lcmp (pc' := 13) d_M_fraction_12 rfl ?_))
    refine sm_if_eq (tgt := 34) (pc' := 16) d_M_fraction_13 rfl rfl ?_ ?_
    · refine sm_sub [0, 2, 3, 4] rfl ?_
      exact sm_rt rfl
    · refine sm_lload (j := 0) (pc' := 18) d_M_fraction_16 rfl rfl (sm_lload (j := 1) (pc' := 20) d_M_fraction_18 rfl rfl (sm_lrem_v (pc' := 21) d_M_fraction_20 rfl (sm_lstore (L' := [(9, .inr (.inl (jR t1.1 t1.2))), (5, .inr (.inl t1.1)), (7, .inr (.inl t1.2)), (0, .inr (.inr x0)), (1, .inr (.inl x1)), (3, .inr (.inl x3))]) (pc' := 23) d_M_fraction_21 rfl (Nat.le_of_ble_eq_true rfl) rfl (sm_lload (j := 2) (pc' := 25) d_M_fraction_23 rfl rfl (sm_lstore (L' := [(5, .inr (.inl t1.2)), (9, .inr (.inl (jR t1.1 t1.2))), (7, .inr (.inl t1.2)), (0, .inr (.inr x0)), (1, .inr (.inl x1)), (3, .inr (.inl x3))]) (pc' := 27) d_M_fraction_25 rfl (Nat.le_of_ble_eq_true rfl) rfl (sm_lload (j := 1) (pc' := 29) d_M_fraction_27 rfl rfl (sm_lstore (L' := [(7, .inr (.inl (jR t1.1 t1.2))), (5, .inr (.inl t1.2)), (9, .inr (.inl (jR t1.1 t1.2))), (0, .inr (.inr x0)), (1, .inr (.inl x1)), (3, .inr (.inl x3))]) (pc' := 31) d_M_fraction_29 rfl (Nat.le_of_ble_eq_true rfl) rfl (sm_goto (tgt := 9) d_M_fraction_31 rfl (sm_sub [1, 0, 3, 4, 5] rfl ?_)))))))))
      exact sm_rt rfl
  · refine sm_aload_n (i := 0) (j := 1) (pc' := 35) d_M_fraction_34 rfl rfl rfl (sm_lload_n (i := 1) (j := 2) (pc' := 36) d_M_fraction_35 rfl rfl rfl (sm_lload (j := 0) (pc' := 38) d_M_fraction_36 rfl rfl (sm_ldiv_v (pc' := 39) d_M_fraction_38 rfl (sm_putJ (pc' := 42) d_M_fraction_39 rfl fl_M_87 (Or.inl rfl) rfl (sm_aload_n (i := 0) (j := 1) (pc' := 43) d_M_fraction_42 rfl rfl rfl (sm_lload_n (i := 3) (j := 3) (pc' := 44) d_M_fraction_43 rfl rfl rfl (sm_lload (j := 0) (pc' := 46) d_M_fraction_44 rfl rfl (sm_ldiv_v (pc' := 47) d_M_fraction_46 rfl (sm_putJ (pc' := 50) d_M_fraction_47 rfl fl_M_7 (Or.inl rfl) rfl ?_)))))))))
    refine sm_iconst (pc' := 51) d_M_fraction_50 rfl ic_1 ?_
    exact sm_zreturn d_M_fraction_51 rfl (by decide) rfl
theorem d_M_lastsIf_0 : m_D k_M_lastsIf 0 (.lconst 0) 1 := (by decide +kernel : decode prog_14_method_148_code 0 = .ok (.lconst 0, 1))
theorem d_M_lastsIf_1 : m_D k_M_lastsIf 1 (.lstore_n 3) 1 := (by decide +kernel : decode prog_14_method_148_code 1 = .ok (.lstore_n 3, 1))
theorem d_M_lastsIf_2 : m_D k_M_lastsIf 2 (.iconst 0) 1 := (by decide +kernel : decode prog_14_method_148_code 2 = .ok (.iconst 0, 1))
theorem d_M_lastsIf_3 : m_D k_M_lastsIf 3 (.istore 5) 2 := (by decide +kernel : decode prog_14_method_148_code 3 = .ok (.istore 5, 2))
theorem d_M_lastsIf_5 : m_D k_M_lastsIf 5 (.iload 5) 2 := (by decide +kernel : decode prog_14_method_148_code 5 = .ok (.iload 5, 2))
theorem d_M_lastsIf_7 : m_D k_M_lastsIf 7 (.sipush 800) 3 := (by decide +kernel : decode prog_14_method_148_code 7 = .ok (.sipush 800, 3))
theorem d_M_lastsIf_10 : m_D k_M_lastsIf 10 (.if_icmp .ge 55) 3 := (by decide +kernel : decode prog_14_method_148_code 10 = .ok (.if_icmp .ge 55, 3))
theorem d_M_lastsIf_13 : m_D k_M_lastsIf 13 (.sipush 999) 3 := (by decide +kernel : decode prog_14_method_148_code 13 = .ok (.sipush 999, 3))
theorem d_M_lastsIf_16 : m_D k_M_lastsIf 16 (.aload_n 0) 1 := (by decide +kernel : decode prog_14_method_148_code 16 = .ok (.aload_n 0, 1))
theorem d_M_lastsIf_17 : m_D k_M_lastsIf 17 (.getfield 35) 3 := (by decide +kernel : decode prog_14_method_148_code 17 = .ok (.getfield 35, 3))
theorem d_M_lastsIf_20 : m_D k_M_lastsIf 20 (.bipush 41) 2 := (by decide +kernel : decode prog_14_method_148_code 20 = .ok (.bipush 41, 2))
theorem d_M_lastsIf_22 : m_D k_M_lastsIf 22 (.iload_n 1) 1 := (by decide +kernel : decode prog_14_method_148_code 22 = .ok (.iload_n 1, 1))
theorem d_M_lastsIf_23 : m_D k_M_lastsIf 23 (.iadd) 1 := (by decide +kernel : decode prog_14_method_148_code 23 = .ok (.iadd, 1))
theorem d_M_lastsIf_24 : m_D k_M_lastsIf 24 (.iaload) 1 := (by decide +kernel : decode prog_14_method_148_code 24 = .ok (.iaload, 1))
theorem d_M_lastsIf_25 : m_D k_M_lastsIf 25 (.iconst 0) 1 := (by decide +kernel : decode prog_14_method_148_code 25 = .ok (.iconst 0, 1))
theorem d_M_lastsIf_26 : m_D k_M_lastsIf 26 (.iload 5) 2 := (by decide +kernel : decode prog_14_method_148_code 26 = .ok (.iload 5, 2))
theorem d_M_lastsIf_28 : m_D k_M_lastsIf 28 (.aload_n 0) 1 := (by decide +kernel : decode prog_14_method_148_code 28 = .ok (.aload_n 0, 1))
theorem d_M_lastsIf_29 : m_D k_M_lastsIf 29 (.getfield 35) 3 := (by decide +kernel : decode prog_14_method_148_code 29 = .ok (.getfield 35, 3))
theorem d_M_lastsIf_32 : m_D k_M_lastsIf 32 (.bipush 33) 2 := (by decide +kernel : decode prog_14_method_148_code 32 = .ok (.bipush 33, 2))
theorem d_M_lastsIf_34 : m_D k_M_lastsIf 34 (.iload_n 1) 1 := (by decide +kernel : decode prog_14_method_148_code 34 = .ok (.iload_n 1, 1))
theorem d_M_lastsIf_35 : m_D k_M_lastsIf 35 (.iadd) 1 := (by decide +kernel : decode prog_14_method_148_code 35 = .ok (.iadd, 1))
theorem d_M_lastsIf_36 : m_D k_M_lastsIf 36 (.iaload) 1 := (by decide +kernel : decode prog_14_method_148_code 36 = .ok (.iaload, 1))
theorem d_M_lastsIf_37 : m_D k_M_lastsIf 37 (.isub) 1 := (by decide +kernel : decode prog_14_method_148_code 37 = .ok (.isub, 1))
theorem d_M_lastsIf_38 : m_D k_M_lastsIf 38 (.invokestatic 253) 3 := (by decide +kernel : decode prog_14_method_148_code 38 = .ok (.invokestatic 253, 3))
theorem d_M_lastsIf_41 : m_D k_M_lastsIf 41 (.iadd) 1 := (by decide +kernel : decode prog_14_method_148_code 41 = .ok (.iadd, 1))
theorem d_M_lastsIf_42 : m_D k_M_lastsIf 42 (.invokestatic 375) 3 := (by decide +kernel : decode prog_14_method_148_code 42 = .ok (.invokestatic 375, 3))
theorem d_M_lastsIf_45 : m_D k_M_lastsIf 45 (.iload_n 2) 1 := (by decide +kernel : decode prog_14_method_148_code 45 = .ok (.iload_n 2, 1))
theorem d_M_lastsIf_46 : m_D k_M_lastsIf 46 (.if_icmp .ge 13) 3 := (by decide +kernel : decode prog_14_method_148_code 46 = .ok (.if_icmp .ge 13, 3))
theorem d_M_lastsIf_49 : m_D k_M_lastsIf 49 (.lload_n 3) 1 := (by decide +kernel : decode prog_14_method_148_code 49 = .ok (.lload_n 3, 1))
theorem d_M_lastsIf_50 : m_D k_M_lastsIf 50 (.aload_n 0) 1 := (by decide +kernel : decode prog_14_method_148_code 50 = .ok (.aload_n 0, 1))
theorem d_M_lastsIf_51 : m_D k_M_lastsIf 51 (.getfield 68) 3 := (by decide +kernel : decode prog_14_method_148_code 51 = .ok (.getfield 68, 3))
theorem d_M_lastsIf_54 : m_D k_M_lastsIf 54 (.iload 5) 2 := (by decide +kernel : decode prog_14_method_148_code 54 = .ok (.iload 5, 2))
theorem d_M_lastsIf_56 : m_D k_M_lastsIf 56 (.laload) 1 := (by decide +kernel : decode prog_14_method_148_code 56 = .ok (.laload, 1))
theorem d_M_lastsIf_57 : m_D k_M_lastsIf 57 (.ladd) 1 := (by decide +kernel : decode prog_14_method_148_code 57 = .ok (.ladd, 1))
theorem d_M_lastsIf_58 : m_D k_M_lastsIf 58 (.lstore_n 3) 1 := (by decide +kernel : decode prog_14_method_148_code 58 = .ok (.lstore_n 3, 1))
theorem d_M_lastsIf_59 : m_D k_M_lastsIf 59 (.iinc 5 1) 3 := (by decide +kernel : decode prog_14_method_148_code 59 = .ok (.iinc 5 1, 3))
theorem d_M_lastsIf_62 : m_D k_M_lastsIf 62 (.goto (-57)) 3 := (by decide +kernel : decode prog_14_method_148_code 62 = .ok (.goto (-57), 3))
theorem d_M_lastsIf_65 : m_D k_M_lastsIf 65 (.lload_n 3) 1 := (by decide +kernel : decode prog_14_method_148_code 65 = .ok (.lload_n 3, 1))
theorem d_M_lastsIf_66 : m_D k_M_lastsIf 66 (.lreturn) 1 := (by decide +kernel : decode prog_14_method_148_code 66 = .ok (.lreturn, 1))
def fn_M_lastsIf_l5 (x0 : Option mA) (x1 : Int32) (x2 : Int32) (t1 : Int64 × Int32) : mP ((Int64 × Int32) ⊕ (Int64)) :=
  if 800 ≤ t1.2 then
    m_rt (.inr t1.1)
  else
    m_bd (m_gR 11 20 x0) fun v2 =>
    m_bd (m_aI 0 v2 (41 + x1)) fun v3 =>
    m_bd (m_gR 11 20 x0) fun v4 =>
    m_bd (m_aI 0 v4 (33 + x1)) fun v5 =>
    m_bd (α := Int64) (
      if x2 ≤ (iMin 999 (v3 + (iMax 0 (t1.2 - v5)))) then
        m_rt t1.1
      else
        m_bd (m_gR 11 39 x0) fun v6 =>
        m_bd (m_aJ v6 t1.2) fun v7 =>
        m_rt (t1.1 + v7)
      ) fun (t8 : Int64) =>
    m_rt (.inl (t8, (t1.2 + 1)))
def fn_M_lastsIf (x0 : Option mA) (x1 : Int32) (x2 : Int32) : mP Int64 :=
  m_th 11 x0 <|
  m_bd (m_lp (fn_M_lastsIf_l5 x0 x1 x2) m_F (0, 0)) fun (t9 : Int64) =>
  m_rt t9
set_option maxHeartbeats 4000000 in
set_option maxRecDepth 100000 in
theorem sd_M_lastsIf (x0 : Option mA) (x1 : Int32) (x2 : Int32) : m_Sm k_M_lastsIf 1 0 0 [.inr (.inr x0), .inl x1, .inl x2] (fn_M_lastsIf x0 x1 x2) (fun b => some (.inr (.inl b))) := by
  refine ⟨Nat.le_of_ble_eq_true rfl, ?_⟩
  refine sm_th ?_
  refine sm_lconst (pc' := 1) (v := 0) d_M_lastsIf_0 rfl rfl (sm_lstore_n (i := 3) (L' := [(3, .inr (.inl 0)), (0, .inr (.inr x0)), (1, .inl x1), (2, .inl x2)]) (pc' := 2) d_M_lastsIf_1 rfl rfl (Nat.le_of_ble_eq_true rfl) rfl (sm_iconst (pc' := 3) d_M_lastsIf_2 rfl ic_0 (sm_istore (L' := [(5, .inl 0), (3, .inr (.inl 0)), (0, .inr (.inr x0)), (1, .inl x1), (2, .inl x2)]) (pc' := 5) d_M_lastsIf_3 rfl (Nat.le_of_ble_eq_true rfl) rfl ?_)))
  refine sm_sub [1, 0, 2, 3, 4] rfl ?_
  refine sm_bd (mid := fun (t9 : Int64) => .inl (65, [(3, .inr (.inl t9))], [])) (sm_lp (hd := fun (t1 : Int64 × Int32) => (.inl (5, [(3, .inr (.inl t1.1)), (5, .inl t1.2), (0, .inr (.inr x0)), (1, .inl x1), (2, .inl x2)], []) : mC)) (fun t1 => ?_) m_F (0, 0)) (fun t9 => ?_)
  · refine sm_iload (j := 1) (pc' := 7) d_M_lastsIf_5 rfl rfl (sm_sipush (pc' := 10) d_M_lastsIf_7 rfl is_800 ?_)
    refine sm_icmp_ge (tgt := 65) (pc' := 13) d_M_lastsIf_10 rfl rfl ?_ ?_
    · refine sm_sub [0] rfl ?_
      exact sm_rt rfl
    · refine sm_sipush (pc' := 16) d_M_lastsIf_13 rfl is_999 (sm_aload_n (i := 0) (j := 2) (pc' := 17) d_M_lastsIf_16 rfl rfl rfl ?_)
      refine sm_getR (pc' := 20) d_M_lastsIf_17 rfl fl_M_35 rfl rfl (fun v2 => ?_)
      refine sm_bipush (pc' := 22) d_M_lastsIf_20 rfl ib_41 (sm_iload_n (i := 1) (j := 3) (pc' := 23) d_M_lastsIf_22 rfl rfl rfl (sm_iadd (pc' := 24) d_M_lastsIf_23 rfl ?_))
      refine sm_iald (pc' := 25) d_M_lastsIf_24 rfl (fun v3 => ?_)
      refine sm_iconst (pc' := 26) d_M_lastsIf_25 rfl ic_0 (sm_iload (j := 1) (pc' := 28) d_M_lastsIf_26 rfl rfl (sm_aload_n (i := 0) (j := 2) (pc' := 29) d_M_lastsIf_28 rfl rfl rfl ?_))
      refine sm_getR (pc' := 32) d_M_lastsIf_29 rfl fl_M_35 rfl rfl (fun v4 => ?_)
      refine sm_bipush (pc' := 34) d_M_lastsIf_32 rfl ib_33 (sm_iload_n (i := 1) (j := 3) (pc' := 35) d_M_lastsIf_34 rfl rfl rfl (sm_iadd (pc' := 36) d_M_lastsIf_35 rfl ?_))
      refine sm_iald (pc' := 37) d_M_lastsIf_36 rfl (fun v5 => ?_)
      refine sm_isub (pc' := 38) d_M_lastsIf_37 rfl (sm_mmax (pc' := 41) d_M_lastsIf_38 rfl w_ml_M_253 (by decide) (Nat.le_of_ble_eq_true rfl) (sm_iadd (pc' := 42) d_M_lastsIf_41 rfl (sm_mmin (pc' := 45) d_M_lastsIf_42 rfl w_ml_M_375 (by decide) (Nat.le_of_ble_eq_true rfl) (sm_iload_n (i := 2) (j := 4) (pc' := 46) d_M_lastsIf_45 rfl rfl rfl ?_))))
      refine sm_bd (mid := fun (t8 : Int64) => .inl (59, [(0, .inr (.inr x0)), (1, .inl x1), (2, .inl x2), (3, .inr (.inl t8)), (5, .inl t1.2)], [])) ?_ (fun t8 => ?_)
      · refine sm_icmp_ge (tgt := 59) (pc' := 49) d_M_lastsIf_46 rfl rfl ?_ ?_
        · refine sm_sub [2, 3, 4, 0, 1] rfl ?_
          exact sm_rt rfl
        · refine sm_lload_n (i := 3) (j := 0) (pc' := 50) d_M_lastsIf_49 rfl rfl rfl (sm_aload_n (i := 0) (j := 2) (pc' := 51) d_M_lastsIf_50 rfl rfl rfl ?_)
          refine sm_getR (pc' := 54) d_M_lastsIf_51 rfl fl_M_68 rfl rfl (fun v6 => ?_)
          refine sm_iload (j := 1) (pc' := 56) d_M_lastsIf_54 rfl rfl ?_
          refine sm_lald (pc' := 57) d_M_lastsIf_56 rfl (fun v7 => ?_)
          refine sm_ladd (pc' := 58) d_M_lastsIf_57 rfl (sm_lstore_n (i := 3) (L' := [(3, .inr (.inl (t1.1 + v7))), (5, .inl t1.2), (0, .inr (.inr x0)), (1, .inl x1), (2, .inl x2)]) (pc' := 59) d_M_lastsIf_58 rfl rfl (Nat.le_of_ble_eq_true rfl) rfl (sm_sub [2, 3, 4, 0, 1] rfl ?_))
          exact sm_rt rfl
      · refine sm_iinc (j := 4) (L' := [(5, .inl (t1.2 + 1)), (0, .inr (.inr x0)), (1, .inl x1), (2, .inl x2), (3, .inr (.inl t8))]) (pc' := 62) d_M_lastsIf_59 rfl (v := (t1.2 + 1)) rfl (ix_1 _) (Nat.le_of_ble_eq_true rfl) rfl (sm_goto (tgt := 5) d_M_lastsIf_62 rfl (sm_sub [4, 0, 1, 2, 3] rfl ?_))
        exact sm_rt rfl
  · refine sm_lload_n (i := 3) (j := 0) (pc' := 66) d_M_lastsIf_65 rfl rfl rfl ?_
    exact sm_lreturn d_M_lastsIf_66 rfl rfl
theorem d_M_laysBites_0 : m_D k_M_laysBites 0 (.iconst 0) 1 := (by decide +kernel : decode prog_14_method_147_code 0 = .ok (.iconst 0, 1))
theorem d_M_laysBites_1 : m_D k_M_laysBites 1 (.istore_n 3) 1 := (by decide +kernel : decode prog_14_method_147_code 1 = .ok (.istore_n 3, 1))
theorem d_M_laysBites_2 : m_D k_M_laysBites 2 (.iload_n 3) 1 := (by decide +kernel : decode prog_14_method_147_code 2 = .ok (.iload_n 3, 1))
theorem d_M_laysBites_3 : m_D k_M_laysBites 3 (.sipush 800) 3 := (by decide +kernel : decode prog_14_method_147_code 3 = .ok (.sipush 800, 3))
theorem d_M_laysBites_6 : m_D k_M_laysBites 6 (.if_icmp .ge 24) 3 := (by decide +kernel : decode prog_14_method_147_code 6 = .ok (.if_icmp .ge 24, 3))
theorem d_M_laysBites_9 : m_D k_M_laysBites 9 (.aload_n 0) 1 := (by decide +kernel : decode prog_14_method_147_code 9 = .ok (.aload_n 0, 1))
theorem d_M_laysBites_10 : m_D k_M_laysBites 10 (.getfield 68) 3 := (by decide +kernel : decode prog_14_method_147_code 10 = .ok (.getfield 68, 3))
theorem d_M_laysBites_13 : m_D k_M_laysBites 13 (.iload_n 3) 1 := (by decide +kernel : decode prog_14_method_147_code 13 = .ok (.iload_n 3, 1))
theorem d_M_laysBites_14 : m_D k_M_laysBites 14 (.iload_n 3) 1 := (by decide +kernel : decode prog_14_method_147_code 14 = .ok (.iload_n 3, 1))
theorem d_M_laysBites_15 : m_D k_M_laysBites 15 (.ifCond .ne 7) 3 := (by decide +kernel : decode prog_14_method_147_code 15 = .ok (.ifCond .ne 7, 3))
theorem d_M_laysBites_18 : m_D k_M_laysBites 18 (.lconst 1) 1 := (by decide +kernel : decode prog_14_method_147_code 18 = .ok (.lconst 1, 1))
theorem d_M_laysBites_19 : m_D k_M_laysBites 19 (.goto 4) 3 := (by decide +kernel : decode prog_14_method_147_code 19 = .ok (.goto 4, 3))
theorem d_M_laysBites_22 : m_D k_M_laysBites 22 (.lconst 0) 1 := (by decide +kernel : decode prog_14_method_147_code 22 = .ok (.lconst 0, 1))
theorem d_M_laysBites_23 : m_D k_M_laysBites 23 (.lastore) 1 := (by decide +kernel : decode prog_14_method_147_code 23 = .ok (.lastore, 1))
theorem d_M_laysBites_24 : m_D k_M_laysBites 24 (.iinc 3 1) 3 := (by decide +kernel : decode prog_14_method_147_code 24 = .ok (.iinc 3 1, 3))
theorem d_M_laysBites_27 : m_D k_M_laysBites 27 (.goto (-25)) 3 := (by decide +kernel : decode prog_14_method_147_code 27 = .ok (.goto (-25), 3))
theorem d_M_laysBites_30 : m_D k_M_laysBites 30 (.aload_n 0) 1 := (by decide +kernel : decode prog_14_method_147_code 30 = .ok (.aload_n 0, 1))
theorem d_M_laysBites_31 : m_D k_M_laysBites 31 (.lconst 1) 1 := (by decide +kernel : decode prog_14_method_147_code 31 = .ok (.lconst 1, 1))
theorem d_M_laysBites_32 : m_D k_M_laysBites 32 (.putfield 511) 3 := (by decide +kernel : decode prog_14_method_147_code 32 = .ok (.putfield 511, 3))
theorem d_M_laysBites_35 : m_D k_M_laysBites 35 (.aload_n 0) 1 := (by decide +kernel : decode prog_14_method_147_code 35 = .ok (.aload_n 0, 1))
theorem d_M_laysBites_36 : m_D k_M_laysBites 36 (.invokevirtual 415) 3 := (by decide +kernel : decode prog_14_method_147_code 36 = .ok (.invokevirtual 415, 3))
theorem d_M_laysBites_39 : m_D k_M_laysBites 39 (.iconst 0) 1 := (by decide +kernel : decode prog_14_method_147_code 39 = .ok (.iconst 0, 1))
theorem d_M_laysBites_40 : m_D k_M_laysBites 40 (.istore_n 3) 1 := (by decide +kernel : decode prog_14_method_147_code 40 = .ok (.istore_n 3, 1))
theorem d_M_laysBites_41 : m_D k_M_laysBites 41 (.iload_n 3) 1 := (by decide +kernel : decode prog_14_method_147_code 41 = .ok (.iload_n 3, 1))
theorem d_M_laysBites_42 : m_D k_M_laysBites 42 (.iload_n 2) 1 := (by decide +kernel : decode prog_14_method_147_code 42 = .ok (.iload_n 2, 1))
theorem d_M_laysBites_43 : m_D k_M_laysBites 43 (.if_icmp .ge 194) 3 := (by decide +kernel : decode prog_14_method_147_code 43 = .ok (.if_icmp .ge 194, 3))
theorem d_M_laysBites_46 : m_D k_M_laysBites 46 (.aload_n 0) 1 := (by decide +kernel : decode prog_14_method_147_code 46 = .ok (.aload_n 0, 1))
theorem d_M_laysBites_47 : m_D k_M_laysBites 47 (.invokevirtual 378) 3 := (by decide +kernel : decode prog_14_method_147_code 47 = .ok (.invokevirtual 378, 3))
theorem d_M_laysBites_50 : m_D k_M_laysBites 50 (.aload_n 0) 1 := (by decide +kernel : decode prog_14_method_147_code 50 = .ok (.aload_n 0, 1))
theorem d_M_laysBites_51 : m_D k_M_laysBites 51 (.iload_n 1) 1 := (by decide +kernel : decode prog_14_method_147_code 51 = .ok (.iload_n 1, 1))
theorem d_M_laysBites_52 : m_D k_M_laysBites 52 (.invokevirtual 322) 3 := (by decide +kernel : decode prog_14_method_147_code 52 = .ok (.invokevirtual 322, 3))
theorem d_M_laysBites_55 : m_D k_M_laysBites 55 (.istore 4) 2 := (by decide +kernel : decode prog_14_method_147_code 55 = .ok (.istore 4, 2))
theorem d_M_laysBites_57 : m_D k_M_laysBites 57 (.iconst 0) 1 := (by decide +kernel : decode prog_14_method_147_code 57 = .ok (.iconst 0, 1))
theorem d_M_laysBites_58 : m_D k_M_laysBites 58 (.istore 5) 2 := (by decide +kernel : decode prog_14_method_147_code 58 = .ok (.istore 5, 2))
theorem d_M_laysBites_60 : m_D k_M_laysBites 60 (.iload 5) 2 := (by decide +kernel : decode prog_14_method_147_code 60 = .ok (.iload 5, 2))
theorem d_M_laysBites_62 : m_D k_M_laysBites 62 (.sipush 800) 3 := (by decide +kernel : decode prog_14_method_147_code 62 = .ok (.sipush 800, 3))
theorem d_M_laysBites_65 : m_D k_M_laysBites 65 (.if_icmp .ge 17) 3 := (by decide +kernel : decode prog_14_method_147_code 65 = .ok (.if_icmp .ge 17, 3))
theorem d_M_laysBites_68 : m_D k_M_laysBites 68 (.aload_n 0) 1 := (by decide +kernel : decode prog_14_method_147_code 68 = .ok (.aload_n 0, 1))
theorem d_M_laysBites_69 : m_D k_M_laysBites 69 (.getfield 71) 3 := (by decide +kernel : decode prog_14_method_147_code 69 = .ok (.getfield 71, 3))
theorem d_M_laysBites_72 : m_D k_M_laysBites 72 (.iload 5) 2 := (by decide +kernel : decode prog_14_method_147_code 72 = .ok (.iload 5, 2))
theorem d_M_laysBites_74 : m_D k_M_laysBites 74 (.lconst 0) 1 := (by decide +kernel : decode prog_14_method_147_code 74 = .ok (.lconst 0, 1))
theorem d_M_laysBites_75 : m_D k_M_laysBites 75 (.lastore) 1 := (by decide +kernel : decode prog_14_method_147_code 75 = .ok (.lastore, 1))
theorem d_M_laysBites_76 : m_D k_M_laysBites 76 (.iinc 5 1) 3 := (by decide +kernel : decode prog_14_method_147_code 76 = .ok (.iinc 5 1, 3))
theorem d_M_laysBites_79 : m_D k_M_laysBites 79 (.goto (-19)) 3 := (by decide +kernel : decode prog_14_method_147_code 79 = .ok (.goto (-19), 3))
theorem d_M_laysBites_82 : m_D k_M_laysBites 82 (.iconst 0) 1 := (by decide +kernel : decode prog_14_method_147_code 82 = .ok (.iconst 0, 1))
theorem d_M_laysBites_83 : m_D k_M_laysBites 83 (.istore 5) 2 := (by decide +kernel : decode prog_14_method_147_code 83 = .ok (.istore 5, 2))
theorem d_M_laysBites_85 : m_D k_M_laysBites 85 (.iload 5) 2 := (by decide +kernel : decode prog_14_method_147_code 85 = .ok (.iload 5, 2))
theorem d_M_laysBites_87 : m_D k_M_laysBites 87 (.bipush 9) 2 := (by decide +kernel : decode prog_14_method_147_code 87 = .ok (.bipush 9, 2))
theorem d_M_laysBites_89 : m_D k_M_laysBites 89 (.if_icmp .gt 75) 3 := (by decide +kernel : decode prog_14_method_147_code 89 = .ok (.if_icmp .gt 75, 3))
theorem d_M_laysBites_92 : m_D k_M_laysBites 92 (.iload 4) 2 := (by decide +kernel : decode prog_14_method_147_code 92 = .ok (.iload 4, 2))
theorem d_M_laysBites_94 : m_D k_M_laysBites 94 (.iload 5) 2 := (by decide +kernel : decode prog_14_method_147_code 94 = .ok (.iload 5, 2))
theorem d_M_laysBites_96 : m_D k_M_laysBites 96 (.aload_n 0) 1 := (by decide +kernel : decode prog_14_method_147_code 96 = .ok (.aload_n 0, 1))
theorem d_M_laysBites_97 : m_D k_M_laysBites 97 (.getfield 35) 3 := (by decide +kernel : decode prog_14_method_147_code 97 = .ok (.getfield 35, 3))
theorem d_M_laysBites_100 : m_D k_M_laysBites 100 (.bipush 49) 2 := (by decide +kernel : decode prog_14_method_147_code 100 = .ok (.bipush 49, 2))
theorem d_M_laysBites_102 : m_D k_M_laysBites 102 (.iload_n 1) 1 := (by decide +kernel : decode prog_14_method_147_code 102 = .ok (.iload_n 1, 1))
theorem d_M_laysBites_103 : m_D k_M_laysBites 103 (.iadd) 1 := (by decide +kernel : decode prog_14_method_147_code 103 = .ok (.iadd, 1))
theorem d_M_laysBites_104 : m_D k_M_laysBites 104 (.iaload) 1 := (by decide +kernel : decode prog_14_method_147_code 104 = .ok (.iaload, 1))
theorem d_M_laysBites_105 : m_D k_M_laysBites 105 (.ifCond .le 7) 3 := (by decide +kernel : decode prog_14_method_147_code 105 = .ok (.ifCond .le 7, 3))
theorem d_M_laysBites_108 : m_D k_M_laysBites 108 (.iconst 1) 1 := (by decide +kernel : decode prog_14_method_147_code 108 = .ok (.iconst 1, 1))
theorem d_M_laysBites_109 : m_D k_M_laysBites 109 (.goto 4) 3 := (by decide +kernel : decode prog_14_method_147_code 109 = .ok (.goto 4, 3))
theorem d_M_laysBites_112 : m_D k_M_laysBites 112 (.iconst 0) 1 := (by decide +kernel : decode prog_14_method_147_code 112 = .ok (.iconst 0, 1))
theorem d_M_laysBites_113 : m_D k_M_laysBites 113 (.invokestatic 325) 3 := (by decide +kernel : decode prog_14_method_147_code 113 = .ok (.invokestatic 325, 3))
theorem d_M_laysBites_116 : m_D k_M_laysBites 116 (.istore 6) 2 := (by decide +kernel : decode prog_14_method_147_code 116 = .ok (.istore 6, 2))
theorem d_M_laysBites_118 : m_D k_M_laysBites 118 (.iconst 0) 1 := (by decide +kernel : decode prog_14_method_147_code 118 = .ok (.iconst 0, 1))
theorem d_M_laysBites_119 : m_D k_M_laysBites 119 (.istore 7) 2 := (by decide +kernel : decode prog_14_method_147_code 119 = .ok (.istore 7, 2))
theorem d_M_laysBites_121 : m_D k_M_laysBites 121 (.iload 7) 2 := (by decide +kernel : decode prog_14_method_147_code 121 = .ok (.iload 7, 2))
theorem d_M_laysBites_123 : m_D k_M_laysBites 123 (.iload 6) 2 := (by decide +kernel : decode prog_14_method_147_code 123 = .ok (.iload 6, 2))
theorem d_M_laysBites_125 : m_D k_M_laysBites 125 (.iadd) 1 := (by decide +kernel : decode prog_14_method_147_code 125 = .ok (.iadd, 1))
theorem d_M_laysBites_126 : m_D k_M_laysBites 126 (.sipush 800) 3 := (by decide +kernel : decode prog_14_method_147_code 126 = .ok (.sipush 800, 3))
theorem d_M_laysBites_129 : m_D k_M_laysBites 129 (.if_icmp .ge 29) 3 := (by decide +kernel : decode prog_14_method_147_code 129 = .ok (.if_icmp .ge 29, 3))
theorem d_M_laysBites_132 : m_D k_M_laysBites 132 (.aload_n 0) 1 := (by decide +kernel : decode prog_14_method_147_code 132 = .ok (.aload_n 0, 1))
theorem d_M_laysBites_133 : m_D k_M_laysBites 133 (.getfield 71) 3 := (by decide +kernel : decode prog_14_method_147_code 133 = .ok (.getfield 71, 3))
theorem d_M_laysBites_136 : m_D k_M_laysBites 136 (.iload 7) 2 := (by decide +kernel : decode prog_14_method_147_code 136 = .ok (.iload 7, 2))
theorem d_M_laysBites_138 : m_D k_M_laysBites 138 (.iload 6) 2 := (by decide +kernel : decode prog_14_method_147_code 138 = .ok (.iload 6, 2))
theorem d_M_laysBites_140 : m_D k_M_laysBites 140 (.iadd) 1 := (by decide +kernel : decode prog_14_method_147_code 140 = .ok (.iadd, 1))
theorem d_M_laysBites_141 : m_D k_M_laysBites 141 (.dup2) 1 := (by decide +kernel : decode prog_14_method_147_code 141 = .ok (.dup2, 1))
theorem d_M_laysBites_142 : m_D k_M_laysBites 142 (.laload) 1 := (by decide +kernel : decode prog_14_method_147_code 142 = .ok (.laload, 1))
theorem d_M_laysBites_143 : m_D k_M_laysBites 143 (.aload_n 0) 1 := (by decide +kernel : decode prog_14_method_147_code 143 = .ok (.aload_n 0, 1))
theorem d_M_laysBites_144 : m_D k_M_laysBites 144 (.getfield 68) 3 := (by decide +kernel : decode prog_14_method_147_code 144 = .ok (.getfield 68, 3))
theorem d_M_laysBites_147 : m_D k_M_laysBites 147 (.iload 7) 2 := (by decide +kernel : decode prog_14_method_147_code 147 = .ok (.iload 7, 2))
theorem d_M_laysBites_149 : m_D k_M_laysBites 149 (.laload) 1 := (by decide +kernel : decode prog_14_method_147_code 149 = .ok (.laload, 1))
theorem d_M_laysBites_150 : m_D k_M_laysBites 150 (.ladd) 1 := (by decide +kernel : decode prog_14_method_147_code 150 = .ok (.ladd, 1))
theorem d_M_laysBites_151 : m_D k_M_laysBites 151 (.lastore) 1 := (by decide +kernel : decode prog_14_method_147_code 151 = .ok (.lastore, 1))
theorem d_M_laysBites_152 : m_D k_M_laysBites 152 (.iinc 7 1) 3 := (by decide +kernel : decode prog_14_method_147_code 152 = .ok (.iinc 7 1, 3))
theorem d_M_laysBites_155 : m_D k_M_laysBites 155 (.goto (-34)) 3 := (by decide +kernel : decode prog_14_method_147_code 155 = .ok (.goto (-34), 3))
theorem d_M_laysBites_158 : m_D k_M_laysBites 158 (.iinc 5 1) 3 := (by decide +kernel : decode prog_14_method_147_code 158 = .ok (.iinc 5 1, 3))
theorem d_M_laysBites_161 : m_D k_M_laysBites 161 (.goto (-76)) 3 := (by decide +kernel : decode prog_14_method_147_code 161 = .ok (.goto (-76), 3))
theorem d_M_laysBites_164 : m_D k_M_laysBites 164 (.iconst 0) 1 := (by decide +kernel : decode prog_14_method_147_code 164 = .ok (.iconst 0, 1))
theorem d_M_laysBites_165 : m_D k_M_laysBites 165 (.istore 5) 2 := (by decide +kernel : decode prog_14_method_147_code 165 = .ok (.istore 5, 2))
theorem d_M_laysBites_167 : m_D k_M_laysBites 167 (.iload 5) 2 := (by decide +kernel : decode prog_14_method_147_code 167 = .ok (.iload 5, 2))
theorem d_M_laysBites_169 : m_D k_M_laysBites 169 (.sipush 800) 3 := (by decide +kernel : decode prog_14_method_147_code 169 = .ok (.sipush 800, 3))
theorem d_M_laysBites_172 : m_D k_M_laysBites 172 (.if_icmp .ge 23) 3 := (by decide +kernel : decode prog_14_method_147_code 172 = .ok (.if_icmp .ge 23, 3))
theorem d_M_laysBites_175 : m_D k_M_laysBites 175 (.aload_n 0) 1 := (by decide +kernel : decode prog_14_method_147_code 175 = .ok (.aload_n 0, 1))
theorem d_M_laysBites_176 : m_D k_M_laysBites 176 (.getfield 68) 3 := (by decide +kernel : decode prog_14_method_147_code 176 = .ok (.getfield 68, 3))
theorem d_M_laysBites_179 : m_D k_M_laysBites 179 (.iload 5) 2 := (by decide +kernel : decode prog_14_method_147_code 179 = .ok (.iload 5, 2))
theorem d_M_laysBites_181 : m_D k_M_laysBites 181 (.aload_n 0) 1 := (by decide +kernel : decode prog_14_method_147_code 181 = .ok (.aload_n 0, 1))
theorem d_M_laysBites_182 : m_D k_M_laysBites 182 (.getfield 71) 3 := (by decide +kernel : decode prog_14_method_147_code 182 = .ok (.getfield 71, 3))
theorem d_M_laysBites_185 : m_D k_M_laysBites 185 (.iload 5) 2 := (by decide +kernel : decode prog_14_method_147_code 185 = .ok (.iload 5, 2))
theorem d_M_laysBites_187 : m_D k_M_laysBites 187 (.laload) 1 := (by decide +kernel : decode prog_14_method_147_code 187 = .ok (.laload, 1))
theorem d_M_laysBites_188 : m_D k_M_laysBites 188 (.lastore) 1 := (by decide +kernel : decode prog_14_method_147_code 188 = .ok (.lastore, 1))
theorem d_M_laysBites_189 : m_D k_M_laysBites 189 (.iinc 5 1) 3 := (by decide +kernel : decode prog_14_method_147_code 189 = .ok (.iinc 5 1, 3))
theorem d_M_laysBites_192 : m_D k_M_laysBites 192 (.goto (-25)) 3 := (by decide +kernel : decode prog_14_method_147_code 192 = .ok (.goto (-25), 3))
theorem d_M_laysBites_195 : m_D k_M_laysBites 195 (.aload_n 0) 1 := (by decide +kernel : decode prog_14_method_147_code 195 = .ok (.aload_n 0, 1))
theorem d_M_laysBites_196 : m_D k_M_laysBites 196 (.getfield 35) 3 := (by decide +kernel : decode prog_14_method_147_code 196 = .ok (.getfield 35, 3))
theorem d_M_laysBites_199 : m_D k_M_laysBites 199 (.bipush 49) 2 := (by decide +kernel : decode prog_14_method_147_code 199 = .ok (.bipush 49, 2))
theorem d_M_laysBites_201 : m_D k_M_laysBites 201 (.iload_n 1) 1 := (by decide +kernel : decode prog_14_method_147_code 201 = .ok (.iload_n 1, 1))
theorem d_M_laysBites_202 : m_D k_M_laysBites 202 (.iadd) 1 := (by decide +kernel : decode prog_14_method_147_code 202 = .ok (.iadd, 1))
theorem d_M_laysBites_203 : m_D k_M_laysBites 203 (.iconst 0) 1 := (by decide +kernel : decode prog_14_method_147_code 203 = .ok (.iconst 0, 1))
theorem d_M_laysBites_204 : m_D k_M_laysBites 204 (.aload_n 0) 1 := (by decide +kernel : decode prog_14_method_147_code 204 = .ok (.aload_n 0, 1))
theorem d_M_laysBites_205 : m_D k_M_laysBites 205 (.getfield 35) 3 := (by decide +kernel : decode prog_14_method_147_code 205 = .ok (.getfield 35, 3))
theorem d_M_laysBites_208 : m_D k_M_laysBites 208 (.bipush 49) 2 := (by decide +kernel : decode prog_14_method_147_code 208 = .ok (.bipush 49, 2))
theorem d_M_laysBites_210 : m_D k_M_laysBites 210 (.iload_n 1) 1 := (by decide +kernel : decode prog_14_method_147_code 210 = .ok (.iload_n 1, 1))
theorem d_M_laysBites_211 : m_D k_M_laysBites 211 (.iadd) 1 := (by decide +kernel : decode prog_14_method_147_code 211 = .ok (.iadd, 1))
theorem d_M_laysBites_212 : m_D k_M_laysBites 212 (.iaload) 1 := (by decide +kernel : decode prog_14_method_147_code 212 = .ok (.iaload, 1))
theorem d_M_laysBites_213 : m_D k_M_laysBites 213 (.iconst 1) 1 := (by decide +kernel : decode prog_14_method_147_code 213 = .ok (.iconst 1, 1))
theorem d_M_laysBites_214 : m_D k_M_laysBites 214 (.isub) 1 := (by decide +kernel : decode prog_14_method_147_code 214 = .ok (.isub, 1))
theorem d_M_laysBites_215 : m_D k_M_laysBites 215 (.invokestatic 253) 3 := (by decide +kernel : decode prog_14_method_147_code 215 = .ok (.invokestatic 253, 3))
theorem d_M_laysBites_218 : m_D k_M_laysBites 218 (.iastore) 1 := (by decide +kernel : decode prog_14_method_147_code 218 = .ok (.iastore, 1))
theorem d_M_laysBites_219 : m_D k_M_laysBites 219 (.aload_n 0) 1 := (by decide +kernel : decode prog_14_method_147_code 219 = .ok (.aload_n 0, 1))
theorem d_M_laysBites_220 : m_D k_M_laysBites 220 (.dup) 1 := (by decide +kernel : decode prog_14_method_147_code 220 = .ok (.dup, 1))
theorem d_M_laysBites_221 : m_D k_M_laysBites 221 (.getfield 511) 3 := (by decide +kernel : decode prog_14_method_147_code 221 = .ok (.getfield 511, 3))
theorem d_M_laysBites_224 : m_D k_M_laysBites 224 (.ldc2_w 514) 3 := (by decide +kernel : decode prog_14_method_147_code 224 = .ok (.ldc2_w 514, 3))
theorem d_M_laysBites_227 : m_D k_M_laysBites 227 (.lmul) 1 := (by decide +kernel : decode prog_14_method_147_code 227 = .ok (.lmul, 1))
theorem d_M_laysBites_228 : m_D k_M_laysBites 228 (.putfield 511) 3 := (by decide +kernel : decode prog_14_method_147_code 228 = .ok (.putfield 511, 3))
theorem d_M_laysBites_231 : m_D k_M_laysBites 231 (.iinc 3 1) 3 := (by decide +kernel : decode prog_14_method_147_code 231 = .ok (.iinc 3 1, 3))
theorem d_M_laysBites_234 : m_D k_M_laysBites 234 (.goto (-193)) 3 := (by decide +kernel : decode prog_14_method_147_code 234 = .ok (.goto (-193), 3))
theorem d_M_laysBites_237 : m_D k_M_laysBites 237 (.aload_n 0) 1 := (by decide +kernel : decode prog_14_method_147_code 237 = .ok (.aload_n 0, 1))
theorem d_M_laysBites_238 : m_D k_M_laysBites 238 (.invokevirtual 418) 3 := (by decide +kernel : decode prog_14_method_147_code 238 = .ok (.invokevirtual 418, 3))
theorem d_M_laysBites_241 : m_D k_M_laysBites 241 (.return_) 1 := (by decide +kernel : decode prog_14_method_147_code 241 = .ok (.return_, 1))
def fn_M_laysBites_l2 (x0 : Option mA) (t1 : Int32) : mP ((Int32) ⊕ (Unit)) :=
  if 800 ≤ t1 then
    m_rt (.inr ())
  else
    m_bd (m_gR 11 39 x0) fun v2 =>
    m_bd (α := Int64) (
      if t1 = 0 then
        m_rt 1
      else
        m_rt 0
      ) fun (t3 : Int64) =>
    m_bd (m_tJ v2 t1 t3) fun _ =>
    m_rt (.inl (t1 + 1))
def fn_M_laysBites_l60 (x0 : Option mA) (t7 : Int32) : mP ((Int32) ⊕ (Unit)) :=
  if 800 ≤ t7 then
    m_rt (.inr ())
  else
    m_bd (m_gR 11 40 x0) fun v8 =>
    m_bd (m_tJ v8 t7 0) fun _ =>
    m_rt (.inl (t7 + 1))
def fn_M_laysBites_l121 (x0 : Option mA) (v14 : Int32) (t15 : Int32) : mP ((Int32) ⊕ (Unit)) :=
  if 800 ≤ (t15 + v14) then
    m_rt (.inr ())
  else
    m_bd (m_gR 11 40 x0) fun v16 =>
    m_bd (m_aJ v16 (t15 + v14)) fun v17 =>
    m_bd (m_gR 11 39 x0) fun v18 =>
    m_bd (m_aJ v18 t15) fun v19 =>
    m_bd (m_tJ v16 (t15 + v14) (v17 + v19)) fun _ =>
    m_rt (.inl (t15 + 1))
def fn_M_laysBites_l85 (x0 : Option mA) (x1 : Int32) (v6 : Int32) (t10 : Int32) : mP ((Int32) ⊕ (Unit)) :=
  if 9 < t10 then
    m_rt (.inr ())
  else
    m_bd (m_gR 11 20 x0) fun v11 =>
    m_bd (m_aI 0 v11 (49 + x1)) fun v12 =>
    m_bd (α := Int32) (
      if v12 ≤ 0 then
        m_rt 0
      else
        m_rt 1
      ) fun (t13 : Int32) =>
    m_bd (fn_M_bitten v6 t10 t13) fun v14 =>
    m_bd (m_lp (fn_M_laysBites_l121 x0 v14) m_F 0) fun (t20 : Unit) =>
    m_rt (.inl (t10 + 1))
def fn_M_laysBites_l167 (x0 : Option mA) (t22 : Int32) : mP ((Int32) ⊕ (Unit)) :=
  if 800 ≤ t22 then
    m_rt (.inr ())
  else
    m_bd (m_gR 11 39 x0) fun v23 =>
    m_bd (m_gR 11 40 x0) fun v24 =>
    m_bd (m_aJ v24 t22) fun v25 =>
    m_bd (m_tJ v23 t22 v25) fun _ =>
    m_rt (.inl (t22 + 1))
def fn_M_laysBites_l41 (x0 : Option mA) (x1 : Int32) (x2 : Int32) (t5 : Int32) : mP ((Int32) ⊕ (Unit)) :=
  if x2 ≤ t5 then
    m_rt (.inr ())
  else
    m_bd (fn_M_ages x0) fun _ =>
    m_bd (fn_M_lovedOf x0 x1) fun v6 =>
    m_bd (m_lp (fn_M_laysBites_l60 x0) m_F 0) fun (t9 : Unit) =>
    m_bd (m_lp (fn_M_laysBites_l85 x0 x1 v6) m_F 0) fun (t21 : Unit) =>
    m_bd (m_lp (fn_M_laysBites_l167 x0) m_F 0) fun (t26 : Unit) =>
    m_bd (m_gR 11 20 x0) fun v27 =>
    m_bd (m_gR 11 20 x0) fun v28 =>
    m_bd (m_aI 0 v28 (49 + x1)) fun v29 =>
    m_bd (m_tI 0 v27 (49 + x1) (iMax 0 (v29 - 1))) fun _ =>
    m_bd (m_gJ 11 41 x0) fun v30 =>
    m_bd (m_pJ 11 41 x0 (v30 * 10)) fun _ =>
    m_rt (.inl (t5 + 1))
def fn_M_laysBites (x0 : Option mA) (x1 : Int32) (x2 : Int32) : mP Unit :=
  m_th 11 x0 <|
  m_bd (m_lp (fn_M_laysBites_l2 x0) m_F 0) fun (t4 : Unit) =>
  m_bd (m_pJ 11 41 x0 1) fun _ =>
  m_bd (fn_M_puts x0) fun _ =>
  m_bd (m_lp (fn_M_laysBites_l41 x0 x1 x2) m_F 0) fun (t31 : Unit) =>
  m_bd (fn_M_gives x0) fun _ =>
  m_rt ()
set_option maxHeartbeats 4000000 in
set_option maxRecDepth 100000 in
theorem sd_M_laysBites (x0 : Option mA) (x1 : Int32) (x2 : Int32) : m_Sm k_M_laysBites 3 0 0 [.inr (.inr x0), .inl x1, .inl x2] (fn_M_laysBites x0 x1 x2) (fun _ => none) := by
  refine ⟨Nat.le_of_ble_eq_true rfl, ?_⟩
  refine sm_th ?_
  refine sm_iconst (pc' := 1) d_M_laysBites_0 rfl ic_0 (sm_istore_n (i := 3) (L' := [(3, .inl 0), (0, .inr (.inr x0)), (1, .inl x1), (2, .inl x2)]) (pc' := 2) d_M_laysBites_1 rfl rfl (Nat.le_of_ble_eq_true rfl) rfl ?_)
  refine sm_sub [0, 1, 2, 3] rfl ?_
  refine sm_bd (mid := fun (t4 : Unit) => .inl (30, [(0, .inr (.inr x0)), (1, .inl x1), (2, .inl x2)], [])) (sm_lp (hd := fun (t1 : Int32) => (.inl (2, [(3, .inl t1), (0, .inr (.inr x0)), (1, .inl x1), (2, .inl x2)], []) : mC)) (fun t1 => ?_) m_F 0) (fun t4 => ?_)
  · refine sm_iload_n (i := 3) (j := 0) (pc' := 3) d_M_laysBites_2 rfl rfl rfl (sm_sipush (pc' := 6) d_M_laysBites_3 rfl is_800 ?_)
    refine sm_icmp_ge (tgt := 30) (pc' := 9) d_M_laysBites_6 rfl rfl ?_ ?_
    · refine sm_sub [1, 2, 3] rfl ?_
      exact sm_rt rfl
    · refine sm_aload_n (i := 0) (j := 1) (pc' := 10) d_M_laysBites_9 rfl rfl rfl ?_
      refine sm_getR (pc' := 13) d_M_laysBites_10 rfl fl_M_68 rfl rfl (fun v2 => ?_)
      refine sm_iload_n (i := 3) (j := 0) (pc' := 14) d_M_laysBites_13 rfl rfl rfl (sm_iload_n (i := 3) (j := 0) (pc' := 15) d_M_laysBites_14 rfl rfl rfl ?_)
      refine sm_bd (mid := fun (t3 : Int64) => .inl (23, [(0, .inr (.inr x0)), (1, .inl x1), (2, .inl x2), (3, .inl t1)], [.inr (.inl t3), .inl t1, .inr (.inr v2)])) ?_ (fun t3 => ?_)
      · refine sm_if_ne (tgt := 22) (pc' := 18) d_M_laysBites_15 rfl rfl ?_ ?_
        · refine sm_lconst (pc' := 23) (v := 0) d_M_laysBites_22 rfl rfl (sm_sub [1, 2, 3, 0] rfl ?_)
          exact sm_rt rfl
        · refine sm_lconst (pc' := 19) (v := 1) d_M_laysBites_18 rfl rfl (sm_goto (tgt := 23) d_M_laysBites_19 rfl (sm_sub [1, 2, 3, 0] rfl ?_))
          exact sm_rt rfl
      · refine sm_last (pc' := 24) d_M_laysBites_23 rfl (sm_iinc (j := 3) (L' := [(3, .inl (t1 + 1)), (0, .inr (.inr x0)), (1, .inl x1), (2, .inl x2)]) (pc' := 27) d_M_laysBites_24 rfl (v := (t1 + 1)) rfl (ix_1 _) (Nat.le_of_ble_eq_true rfl) rfl (sm_goto (tgt := 2) d_M_laysBites_27 rfl (sm_sub [0, 1, 2, 3] rfl ?_)))
        exact sm_rt rfl
  · refine sm_aload_n (i := 0) (j := 0) (pc' := 31) d_M_laysBites_30 rfl rfl rfl (sm_lconst (pc' := 32) (v := 1) d_M_laysBites_31 rfl rfl (sm_putJ (pc' := 35) d_M_laysBites_32 rfl fl_M_511 (Or.inl rfl) rfl (sm_aload_n (i := 0) (j := 0) (pc' := 36) d_M_laysBites_35 rfl rfl rfl ?_)))
    refine sm_callVv (ci := 11) (x := x0) (av := []) (st := []) (mc := 0) (ms := 0) (pc' := 39) d_M_laysBites_36 rfl (sd_M_puts x0) m_lv rfl cv_M_puts w_ml_M_415 rfl rfl (by decide) (Nat.le_of_ble_eq_true rfl) rfl rfl ?_
    refine sm_iconst (pc' := 40) d_M_laysBites_39 rfl ic_0 (sm_istore_n (i := 3) (L' := [(3, .inl 0), (0, .inr (.inr x0)), (1, .inl x1), (2, .inl x2)]) (pc' := 41) d_M_laysBites_40 rfl rfl (Nat.le_of_ble_eq_true rfl) rfl ?_)
    refine sm_sub [0, 1, 2, 3] rfl ?_
    refine sm_bd (mid := fun (t31 : Unit) => .inl (237, [(0, .inr (.inr x0))], [])) (sm_lp (hd := fun (t5 : Int32) => (.inl (41, [(3, .inl t5), (0, .inr (.inr x0)), (1, .inl x1), (2, .inl x2)], []) : mC)) (fun t5 => ?_) m_F 0) (fun t31 => ?_)
    · refine sm_iload_n (i := 3) (j := 0) (pc' := 42) d_M_laysBites_41 rfl rfl rfl (sm_iload_n (i := 2) (j := 3) (pc' := 43) d_M_laysBites_42 rfl rfl rfl ?_)
      refine sm_icmp_ge (tgt := 237) (pc' := 46) d_M_laysBites_43 rfl rfl ?_ ?_
      · refine sm_sub [1] rfl ?_
        exact sm_rt rfl
      · refine sm_aload_n (i := 0) (j := 1) (pc' := 47) d_M_laysBites_46 rfl rfl rfl ?_
        refine sm_callVv (ci := 11) (x := x0) (av := []) (st := []) (mc := 0) (ms := 0) (pc' := 50) d_M_laysBites_47 rfl (sd_M_ages x0) m_lv rfl cv_M_ages w_ml_M_378 rfl rfl (by decide) (Nat.le_of_ble_eq_true rfl) rfl rfl ?_
        refine sm_aload_n (i := 0) (j := 1) (pc' := 51) d_M_laysBites_50 rfl rfl rfl (sm_iload_n (i := 1) (j := 2) (pc' := 52) d_M_laysBites_51 rfl rfl rfl ?_)
        refine sm_callVi (ci := 11) (x := x0) (av := [.inl x1]) (st := []) (mc := 0) (ms := 0) (pc' := 55) d_M_laysBites_52 rfl (sd_M_lovedOf x0 x1) m_lv rfl cv_M_lovedOf w_ml_M_322 rfl rfl (by decide) (Nat.le_of_ble_eq_true rfl) rfl rfl (fun v6 => ?_)
        refine sm_istore (L' := [(4, .inl v6), (3, .inl t5), (0, .inr (.inr x0)), (1, .inl x1), (2, .inl x2)]) (pc' := 57) d_M_laysBites_55 rfl (Nat.le_of_ble_eq_true rfl) rfl (sm_iconst (pc' := 58) d_M_laysBites_57 rfl ic_0 (sm_istore (L' := [(5, .inl 0), (4, .inl v6), (3, .inl t5), (0, .inr (.inr x0)), (1, .inl x1), (2, .inl x2)]) (pc' := 60) d_M_laysBites_58 rfl (Nat.le_of_ble_eq_true rfl) rfl ?_))
        refine sm_sub [0, 3, 4, 5, 2, 1] rfl ?_
        refine sm_bd (mid := fun (t9 : Unit) => .inl (82, [(0, .inr (.inr x0)), (1, .inl x1), (2, .inl x2), (3, .inl t5), (4, .inl v6)], [])) (sm_lp (hd := fun (t7 : Int32) => (.inl (60, [(5, .inl t7), (0, .inr (.inr x0)), (1, .inl x1), (2, .inl x2), (3, .inl t5), (4, .inl v6)], []) : mC)) (fun t7 => ?_) m_F 0) (fun t9 => ?_)
        · refine sm_iload (j := 0) (pc' := 62) d_M_laysBites_60 rfl rfl (sm_sipush (pc' := 65) d_M_laysBites_62 rfl is_800 ?_)
          refine sm_icmp_ge (tgt := 82) (pc' := 68) d_M_laysBites_65 rfl rfl ?_ ?_
          · refine sm_sub [1, 2, 3, 4, 5] rfl ?_
            exact sm_rt rfl
          · refine sm_aload_n (i := 0) (j := 1) (pc' := 69) d_M_laysBites_68 rfl rfl rfl ?_
            refine sm_getR (pc' := 72) d_M_laysBites_69 rfl fl_M_71 rfl rfl (fun v8 => ?_)
            refine sm_iload (j := 0) (pc' := 74) d_M_laysBites_72 rfl rfl (sm_lconst (pc' := 75) (v := 0) d_M_laysBites_74 rfl rfl (sm_last (pc' := 76) d_M_laysBites_75 rfl (sm_iinc (j := 0) (L' := [(5, .inl (t7 + 1)), (0, .inr (.inr x0)), (1, .inl x1), (2, .inl x2), (3, .inl t5), (4, .inl v6)]) (pc' := 79) d_M_laysBites_76 rfl (v := (t7 + 1)) rfl (ix_1 _) (Nat.le_of_ble_eq_true rfl) rfl (sm_goto (tgt := 60) d_M_laysBites_79 rfl (sm_sub [0, 1, 2, 3, 4, 5] rfl ?_)))))
            exact sm_rt rfl
        · refine sm_iconst (pc' := 83) d_M_laysBites_82 rfl ic_0 (sm_istore (L' := [(5, .inl 0), (0, .inr (.inr x0)), (1, .inl x1), (2, .inl x2), (3, .inl t5), (4, .inl v6)]) (pc' := 85) d_M_laysBites_83 rfl (Nat.le_of_ble_eq_true rfl) rfl ?_)
          refine sm_sub [0, 1, 2, 3, 4, 5] rfl ?_
          refine sm_bd (mid := fun (t21 : Unit) => .inl (164, [(0, .inr (.inr x0)), (1, .inl x1), (2, .inl x2), (3, .inl t5)], [])) (sm_lp (hd := fun (t10 : Int32) => (.inl (85, [(5, .inl t10), (0, .inr (.inr x0)), (1, .inl x1), (2, .inl x2), (3, .inl t5), (4, .inl v6)], []) : mC)) (fun t10 => ?_) m_F 0) (fun t21 => ?_)
          · refine sm_iload (j := 0) (pc' := 87) d_M_laysBites_85 rfl rfl (sm_bipush (pc' := 89) d_M_laysBites_87 rfl ib_9 ?_)
            refine sm_icmp_gt (tgt := 164) (pc' := 92) d_M_laysBites_89 rfl rfl ?_ ?_
            · refine sm_sub [1, 2, 3, 4] rfl ?_
              exact sm_rt rfl
            · refine sm_iload (j := 5) (pc' := 94) d_M_laysBites_92 rfl rfl (sm_iload (j := 0) (pc' := 96) d_M_laysBites_94 rfl rfl (sm_aload_n (i := 0) (j := 1) (pc' := 97) d_M_laysBites_96 rfl rfl rfl ?_))
              refine sm_getR (pc' := 100) d_M_laysBites_97 rfl fl_M_35 rfl rfl (fun v11 => ?_)
              refine sm_bipush (pc' := 102) d_M_laysBites_100 rfl ib_49 (sm_iload_n (i := 1) (j := 2) (pc' := 103) d_M_laysBites_102 rfl rfl rfl (sm_iadd (pc' := 104) d_M_laysBites_103 rfl ?_))
              refine sm_iald (pc' := 105) d_M_laysBites_104 rfl (fun v12 => ?_)
              refine sm_bd (mid := fun (t13 : Int32) => .inl (113, [(0, .inr (.inr x0)), (1, .inl x1), (2, .inl x2), (3, .inl t5), (4, .inl v6), (5, .inl t10)], [.inl t13, .inl t10, .inl v6])) ?_ (fun t13 => ?_)
              · refine sm_if_le (tgt := 112) (pc' := 108) d_M_laysBites_105 rfl rfl ?_ ?_
                · refine sm_iconst (pc' := 113) d_M_laysBites_112 rfl ic_0 (sm_sub [1, 2, 3, 4, 5, 0] rfl ?_)
                  exact sm_rt rfl
                · refine sm_iconst (pc' := 109) d_M_laysBites_108 rfl ic_1 (sm_goto (tgt := 113) d_M_laysBites_109 rfl (sm_sub [1, 2, 3, 4, 5, 0] rfl ?_))
                  exact sm_rt rfl
              · refine sm_callSi (av := [.inl v6, .inl t10, .inl t13]) (st := []) (mc := 0) (ms := 0) (pc' := 116) d_M_laysBites_113 rfl (sd_M_bitten v6 t10 t13) cs_M_bitten w_ml_M_325 rfl rfl (by decide) (Nat.le_of_ble_eq_true rfl) rfl rfl (fun v14 => ?_)
                refine sm_istore (L' := [(6, .inl v14), (0, .inr (.inr x0)), (1, .inl x1), (2, .inl x2), (3, .inl t5), (4, .inl v6), (5, .inl t10)]) (pc' := 118) d_M_laysBites_116 rfl (Nat.le_of_ble_eq_true rfl) rfl (sm_iconst (pc' := 119) d_M_laysBites_118 rfl ic_0 (sm_istore (L' := [(7, .inl 0), (6, .inl v14), (0, .inr (.inr x0)), (1, .inl x1), (2, .inl x2), (3, .inl t5), (4, .inl v6), (5, .inl t10)]) (pc' := 121) d_M_laysBites_119 rfl (Nat.le_of_ble_eq_true rfl) rfl ?_))
                refine sm_sub [0, 2, 3, 4, 5, 6, 7, 1] rfl ?_
                refine sm_bd (mid := fun (t20 : Unit) => .inl (158, [(0, .inr (.inr x0)), (1, .inl x1), (2, .inl x2), (3, .inl t5), (4, .inl v6), (5, .inl t10)], [])) (sm_lp (hd := fun (t15 : Int32) => (.inl (121, [(7, .inl t15), (0, .inr (.inr x0)), (1, .inl x1), (2, .inl x2), (3, .inl t5), (4, .inl v6), (5, .inl t10), (6, .inl v14)], []) : mC)) (fun t15 => ?_) m_F 0) (fun t20 => ?_)
                · refine sm_iload (j := 0) (pc' := 123) d_M_laysBites_121 rfl rfl (sm_iload (j := 7) (pc' := 125) d_M_laysBites_123 rfl rfl (sm_iadd (pc' := 126) d_M_laysBites_125 rfl (sm_sipush (pc' := 129) d_M_laysBites_126 rfl is_800 ?_)))
                  refine sm_icmp_ge (tgt := 158) (pc' := 132) d_M_laysBites_129 rfl rfl ?_ ?_
                  · refine sm_sub [1, 2, 3, 4, 5, 6] rfl ?_
                    exact sm_rt rfl
                  · refine sm_aload_n (i := 0) (j := 1) (pc' := 133) d_M_laysBites_132 rfl rfl rfl ?_
                    refine sm_getR (pc' := 136) d_M_laysBites_133 rfl fl_M_71 rfl rfl (fun v16 => ?_)
                    refine sm_iload (j := 0) (pc' := 138) d_M_laysBites_136 rfl rfl (sm_iload (j := 7) (pc' := 140) d_M_laysBites_138 rfl rfl (sm_iadd (pc' := 141) d_M_laysBites_140 rfl (sm_dup2 (pc' := 142) d_M_laysBites_141 rfl rfl rfl ?_)))
                    refine sm_lald (pc' := 143) d_M_laysBites_142 rfl (fun v17 => ?_)
                    refine sm_aload_n (i := 0) (j := 1) (pc' := 144) d_M_laysBites_143 rfl rfl rfl ?_
                    refine sm_getR (pc' := 147) d_M_laysBites_144 rfl fl_M_68 rfl rfl (fun v18 => ?_)
                    refine sm_iload (j := 0) (pc' := 149) d_M_laysBites_147 rfl rfl ?_
                    refine sm_lald (pc' := 150) d_M_laysBites_149 rfl (fun v19 => ?_)
                    refine sm_ladd (pc' := 151) d_M_laysBites_150 rfl (sm_last (pc' := 152) d_M_laysBites_151 rfl (sm_iinc (j := 0) (L' := [(7, .inl (t15 + 1)), (0, .inr (.inr x0)), (1, .inl x1), (2, .inl x2), (3, .inl t5), (4, .inl v6), (5, .inl t10), (6, .inl v14)]) (pc' := 155) d_M_laysBites_152 rfl (v := (t15 + 1)) rfl (ix_1 _) (Nat.le_of_ble_eq_true rfl) rfl (sm_goto (tgt := 121) d_M_laysBites_155 rfl (sm_sub [0, 1, 2, 3, 4, 5, 6, 7] rfl ?_))))
                    exact sm_rt rfl
                · refine sm_iinc (j := 5) (L' := [(5, .inl (t10 + 1)), (0, .inr (.inr x0)), (1, .inl x1), (2, .inl x2), (3, .inl t5), (4, .inl v6)]) (pc' := 161) d_M_laysBites_158 rfl (v := (t10 + 1)) rfl (ix_1 _) (Nat.le_of_ble_eq_true rfl) rfl (sm_goto (tgt := 85) d_M_laysBites_161 rfl (sm_sub [0, 1, 2, 3, 4, 5] rfl ?_))
                  exact sm_rt rfl
          · refine sm_iconst (pc' := 165) d_M_laysBites_164 rfl ic_0 (sm_istore (L' := [(5, .inl 0), (0, .inr (.inr x0)), (1, .inl x1), (2, .inl x2), (3, .inl t5)]) (pc' := 167) d_M_laysBites_165 rfl (Nat.le_of_ble_eq_true rfl) rfl ?_)
            refine sm_sub [0, 1, 2, 3, 4] rfl ?_
            refine sm_bd (mid := fun (t26 : Unit) => .inl (195, [(0, .inr (.inr x0)), (1, .inl x1), (2, .inl x2), (3, .inl t5)], [])) (sm_lp (hd := fun (t22 : Int32) => (.inl (167, [(5, .inl t22), (0, .inr (.inr x0)), (1, .inl x1), (2, .inl x2), (3, .inl t5)], []) : mC)) (fun t22 => ?_) m_F 0) (fun t26 => ?_)
            · refine sm_iload (j := 0) (pc' := 169) d_M_laysBites_167 rfl rfl (sm_sipush (pc' := 172) d_M_laysBites_169 rfl is_800 ?_)
              refine sm_icmp_ge (tgt := 195) (pc' := 175) d_M_laysBites_172 rfl rfl ?_ ?_
              · refine sm_sub [1, 2, 3, 4] rfl ?_
                exact sm_rt rfl
              · refine sm_aload_n (i := 0) (j := 1) (pc' := 176) d_M_laysBites_175 rfl rfl rfl ?_
                refine sm_getR (pc' := 179) d_M_laysBites_176 rfl fl_M_68 rfl rfl (fun v23 => ?_)
                refine sm_iload (j := 0) (pc' := 181) d_M_laysBites_179 rfl rfl (sm_aload_n (i := 0) (j := 1) (pc' := 182) d_M_laysBites_181 rfl rfl rfl ?_)
                refine sm_getR (pc' := 185) d_M_laysBites_182 rfl fl_M_71 rfl rfl (fun v24 => ?_)
                refine sm_iload (j := 0) (pc' := 187) d_M_laysBites_185 rfl rfl ?_
                refine sm_lald (pc' := 188) d_M_laysBites_187 rfl (fun v25 => ?_)
                refine sm_last (pc' := 189) d_M_laysBites_188 rfl (sm_iinc (j := 0) (L' := [(5, .inl (t22 + 1)), (0, .inr (.inr x0)), (1, .inl x1), (2, .inl x2), (3, .inl t5)]) (pc' := 192) d_M_laysBites_189 rfl (v := (t22 + 1)) rfl (ix_1 _) (Nat.le_of_ble_eq_true rfl) rfl (sm_goto (tgt := 167) d_M_laysBites_192 rfl (sm_sub [0, 1, 2, 3, 4] rfl ?_)))
                exact sm_rt rfl
            · refine sm_aload_n (i := 0) (j := 0) (pc' := 196) d_M_laysBites_195 rfl rfl rfl ?_
              refine sm_getR (pc' := 199) d_M_laysBites_196 rfl fl_M_35 rfl rfl (fun v27 => ?_)
              refine sm_bipush (pc' := 201) d_M_laysBites_199 rfl ib_49 (sm_iload_n (i := 1) (j := 1) (pc' := 202) d_M_laysBites_201 rfl rfl rfl (sm_iadd (pc' := 203) d_M_laysBites_202 rfl (sm_iconst (pc' := 204) d_M_laysBites_203 rfl ic_0 (sm_aload_n (i := 0) (j := 0) (pc' := 205) d_M_laysBites_204 rfl rfl rfl ?_))))
              refine sm_getR (pc' := 208) d_M_laysBites_205 rfl fl_M_35 rfl rfl (fun v28 => ?_)
              refine sm_bipush (pc' := 210) d_M_laysBites_208 rfl ib_49 (sm_iload_n (i := 1) (j := 1) (pc' := 211) d_M_laysBites_210 rfl rfl rfl (sm_iadd (pc' := 212) d_M_laysBites_211 rfl ?_))
              refine sm_iald (pc' := 213) d_M_laysBites_212 rfl (fun v29 => ?_)
              refine sm_iconst (pc' := 214) d_M_laysBites_213 rfl ic_1 (sm_isub (pc' := 215) d_M_laysBites_214 rfl (sm_mmax (pc' := 218) d_M_laysBites_215 rfl w_ml_M_253 (by decide) (Nat.le_of_ble_eq_true rfl) (sm_iast (pc' := 219) d_M_laysBites_218 rfl (sm_aload_n (i := 0) (j := 0) (pc' := 220) d_M_laysBites_219 rfl rfl rfl (sm_dup (pc' := 221) d_M_laysBites_220 rfl rfl ?_)))))
              refine sm_getJ (pc' := 224) d_M_laysBites_221 rfl fl_M_511 rfl rfl (fun v30 => ?_)
              refine sm_ldc2 (v := 10) (pc' := 227) d_M_laysBites_224 rfl w_cl_M_514 (sm_lmul (pc' := 228) d_M_laysBites_227 rfl (sm_putJ (pc' := 231) d_M_laysBites_228 rfl fl_M_511 (Or.inl rfl) rfl (sm_iinc (j := 3) (L' := [(3, .inl (t5 + 1)), (0, .inr (.inr x0)), (1, .inl x1), (2, .inl x2)]) (pc' := 234) d_M_laysBites_231 rfl (v := (t5 + 1)) rfl (ix_1 _) (Nat.le_of_ble_eq_true rfl) rfl (sm_goto (tgt := 41) d_M_laysBites_234 rfl (sm_sub [0, 1, 2, 3] rfl ?_)))))
              exact sm_rt rfl
    · refine sm_aload_n (i := 0) (j := 0) (pc' := 238) d_M_laysBites_237 rfl rfl rfl ?_
      refine sm_callVv (ci := 11) (x := x0) (av := []) (st := []) (mc := 0) (ms := 0) (pc' := 241) d_M_laysBites_238 rfl (sd_M_gives x0) m_lv rfl cv_M_gives w_ml_M_418 rfl rfl (by decide) (Nat.le_of_ble_eq_true rfl) rfl rfl ?_
      exact sm_return d_M_laysBites_241 rfl rfl
theorem d_M_lasts_0 : m_D k_M_lasts 0 (.aload_n 0) 1 := (by decide +kernel : decode prog_14_method_149_code 0 = .ok (.aload_n 0, 1))
theorem d_M_lasts_1 : m_D k_M_lasts 1 (.iconst 0) 1 := (by decide +kernel : decode prog_14_method_149_code 1 = .ok (.iconst 0, 1))
theorem d_M_lasts_2 : m_D k_M_lasts 2 (.putfield 81) 3 := (by decide +kernel : decode prog_14_method_149_code 2 = .ok (.putfield 81, 3))
theorem d_M_lasts_5 : m_D k_M_lasts 5 (.aload_n 0) 1 := (by decide +kernel : decode prog_14_method_149_code 5 = .ok (.aload_n 0, 1))
theorem d_M_lasts_6 : m_D k_M_lasts 6 (.iconst 0) 1 := (by decide +kernel : decode prog_14_method_149_code 6 = .ok (.iconst 0, 1))
theorem d_M_lasts_7 : m_D k_M_lasts 7 (.putfield 84) 3 := (by decide +kernel : decode prog_14_method_149_code 7 = .ok (.putfield 84, 3))
theorem d_M_lasts_10 : m_D k_M_lasts 10 (.aload_n 0) 1 := (by decide +kernel : decode prog_14_method_149_code 10 = .ok (.aload_n 0, 1))
theorem d_M_lasts_11 : m_D k_M_lasts 11 (.iload_n 1) 1 := (by decide +kernel : decode prog_14_method_149_code 11 = .ok (.iload_n 1, 1))
theorem d_M_lasts_12 : m_D k_M_lasts 12 (.invokevirtual 357) 3 := (by decide +kernel : decode prog_14_method_149_code 12 = .ok (.invokevirtual 357, 3))
theorem d_M_lasts_15 : m_D k_M_lasts 15 (.ifCond .ne 9) 3 := (by decide +kernel : decode prog_14_method_149_code 15 = .ok (.ifCond .ne 9, 3))
theorem d_M_lasts_18 : m_D k_M_lasts 18 (.aload_n 0) 1 := (by decide +kernel : decode prog_14_method_149_code 18 = .ok (.aload_n 0, 1))
theorem d_M_lasts_19 : m_D k_M_lasts 19 (.iconst 2) 1 := (by decide +kernel : decode prog_14_method_149_code 19 = .ok (.iconst 2, 1))
theorem d_M_lasts_20 : m_D k_M_lasts 20 (.invokevirtual 96) 3 := (by decide +kernel : decode prog_14_method_149_code 20 = .ok (.invokevirtual 96, 3))
theorem d_M_lasts_23 : m_D k_M_lasts 23 (.ireturn) 1 := (by decide +kernel : decode prog_14_method_149_code 23 = .ok (.ireturn, 1))
theorem d_M_lasts_24 : m_D k_M_lasts 24 (.iload_n 2) 1 := (by decide +kernel : decode prog_14_method_149_code 24 = .ok (.iload_n 2, 1))
theorem d_M_lasts_25 : m_D k_M_lasts 25 (.i2l) 1 := (by decide +kernel : decode prog_14_method_149_code 25 = .ok (.i2l, 1))
theorem d_M_lasts_26 : m_D k_M_lasts 26 (.lconst 0) 1 := (by decide +kernel : decode prog_14_method_149_code 26 = .ok (.lconst 0, 1))
theorem d_M_lasts_27 : m_D k_M_lasts 27 (.ldc2_w 360) 3 := (by decide +kernel : decode prog_14_method_149_code 27 = .ok (.ldc2_w 360, 3))
theorem d_M_lasts_30 : m_D k_M_lasts 30 (.invokestatic 116) 3 := (by decide +kernel : decode prog_14_method_149_code 30 = .ok (.invokestatic 116, 3))
theorem d_M_lasts_33 : m_D k_M_lasts 33 (.ifCond .ne 9) 3 := (by decide +kernel : decode prog_14_method_149_code 33 = .ok (.ifCond .ne 9, 3))
theorem d_M_lasts_36 : m_D k_M_lasts 36 (.aload_n 0) 1 := (by decide +kernel : decode prog_14_method_149_code 36 = .ok (.aload_n 0, 1))
theorem d_M_lasts_37 : m_D k_M_lasts 37 (.iconst 5) 1 := (by decide +kernel : decode prog_14_method_149_code 37 = .ok (.iconst 5, 1))
theorem d_M_lasts_38 : m_D k_M_lasts 38 (.invokevirtual 96) 3 := (by decide +kernel : decode prog_14_method_149_code 38 = .ok (.invokevirtual 96, 3))
theorem d_M_lasts_41 : m_D k_M_lasts 41 (.ireturn) 1 := (by decide +kernel : decode prog_14_method_149_code 41 = .ok (.ireturn, 1))
theorem d_M_lasts_42 : m_D k_M_lasts 42 (.aload_n 0) 1 := (by decide +kernel : decode prog_14_method_149_code 42 = .ok (.aload_n 0, 1))
theorem d_M_lasts_43 : m_D k_M_lasts 43 (.iload_n 1) 1 := (by decide +kernel : decode prog_14_method_149_code 43 = .ok (.iload_n 1, 1))
theorem d_M_lasts_44 : m_D k_M_lasts 44 (.iload_n 2) 1 := (by decide +kernel : decode prog_14_method_149_code 44 = .ok (.iload_n 2, 1))
theorem d_M_lasts_45 : m_D k_M_lasts 45 (.invokevirtual 516) 3 := (by decide +kernel : decode prog_14_method_149_code 45 = .ok (.invokevirtual 516, 3))
theorem d_M_lasts_48 : m_D k_M_lasts 48 (.aload_n 0) 1 := (by decide +kernel : decode prog_14_method_149_code 48 = .ok (.aload_n 0, 1))
theorem d_M_lasts_49 : m_D k_M_lasts 49 (.aload_n 0) 1 := (by decide +kernel : decode prog_14_method_149_code 49 = .ok (.aload_n 0, 1))
theorem d_M_lasts_50 : m_D k_M_lasts 50 (.iload_n 1) 1 := (by decide +kernel : decode prog_14_method_149_code 50 = .ok (.iload_n 1, 1))
theorem d_M_lasts_51 : m_D k_M_lasts 51 (.aload_n 0) 1 := (by decide +kernel : decode prog_14_method_149_code 51 = .ok (.aload_n 0, 1))
theorem d_M_lasts_52 : m_D k_M_lasts 52 (.getfield 35) 3 := (by decide +kernel : decode prog_14_method_149_code 52 = .ok (.getfield 35, 3))
theorem d_M_lasts_55 : m_D k_M_lasts 55 (.bipush 25) 2 := (by decide +kernel : decode prog_14_method_149_code 55 = .ok (.bipush 25, 2))
theorem d_M_lasts_57 : m_D k_M_lasts 57 (.iload_n 1) 1 := (by decide +kernel : decode prog_14_method_149_code 57 = .ok (.iload_n 1, 1))
theorem d_M_lasts_58 : m_D k_M_lasts 58 (.iadd) 1 := (by decide +kernel : decode prog_14_method_149_code 58 = .ok (.iadd, 1))
theorem d_M_lasts_59 : m_D k_M_lasts 59 (.iaload) 1 := (by decide +kernel : decode prog_14_method_149_code 59 = .ok (.iaload, 1))
theorem d_M_lasts_60 : m_D k_M_lasts 60 (.invokevirtual 519) 3 := (by decide +kernel : decode prog_14_method_149_code 60 = .ok (.invokevirtual 519, 3))
theorem d_M_lasts_63 : m_D k_M_lasts 63 (.aload_n 0) 1 := (by decide +kernel : decode prog_14_method_149_code 63 = .ok (.aload_n 0, 1))
theorem d_M_lasts_64 : m_D k_M_lasts 64 (.getfield 511) 3 := (by decide +kernel : decode prog_14_method_149_code 64 = .ok (.getfield 511, 3))
theorem d_M_lasts_67 : m_D k_M_lasts 67 (.invokevirtual 522) 3 := (by decide +kernel : decode prog_14_method_149_code 67 = .ok (.invokevirtual 522, 3))
theorem d_M_lasts_70 : m_D k_M_lasts 70 (.ireturn) 1 := (by decide +kernel : decode prog_14_method_149_code 70 = .ok (.ireturn, 1))
def fn_M_lasts (x0 : Option mA) (x1 : Int32) (x2 : Int32) : mP Int32 :=
  m_th 11 x0 <|
  m_bd (m_pI 11 1 x0 0) fun _ =>
  m_bd (m_pI 11 0 x0 0) fun _ =>
  m_bd (fn_M_isThingAt x0 x1) fun v1 =>
  if v1 = 0 then
    m_bd (fn_M_no x0 2) fun v9 =>
    m_bd (m_cz v9) fun _ => m_rt v9
  else
    m_bd (fn_M_isIn (x2).toInt64 0 6) fun v2 =>
    if v2 = 0 then
      m_bd (fn_M_no x0 5) fun v8 =>
      m_bd (m_cz v8) fun _ => m_rt v8
    else
      m_bd (fn_M_laysBites x0 x1 x2) fun _ =>
      m_bd (m_gR 11 20 x0) fun v3 =>
      m_bd (m_aI 0 v3 (25 + x1)) fun v4 =>
      m_bd (fn_M_lastsIf x0 x1 v4) fun v5 =>
      m_bd (m_gJ 11 41 x0) fun v6 =>
      m_bd (fn_M_fraction x0 v5 v6) fun v7 =>
      m_bd (m_cz v7) fun _ => m_rt v7
set_option maxHeartbeats 4000000 in
set_option maxRecDepth 100000 in
theorem sd_M_lasts (x0 : Option mA) (x1 : Int32) (x2 : Int32) : m_Sm k_M_lasts 4 0 0 [.inr (.inr x0), .inl x1, .inl x2] (fn_M_lasts x0 x1 x2) (fun b => some (.inl b)) := by
  refine ⟨Nat.le_of_ble_eq_true rfl, ?_⟩
  refine sm_th ?_
  refine sm_aload_n (i := 0) (j := 0) (pc' := 1) d_M_lasts_0 rfl rfl rfl (sm_iconst (pc' := 2) d_M_lasts_1 rfl ic_0 (sm_putI (pc' := 5) d_M_lasts_2 rfl fl_M_81 (Or.inl rfl) rfl (sm_aload_n (i := 0) (j := 0) (pc' := 6) d_M_lasts_5 rfl rfl rfl (sm_iconst (pc' := 7) d_M_lasts_6 rfl ic_0 (sm_putI (pc' := 10) d_M_lasts_7 rfl fl_M_84 (Or.inl rfl) rfl (sm_aload_n (i := 0) (j := 0) (pc' := 11) d_M_lasts_10 rfl rfl rfl (sm_iload_n (i := 1) (j := 1) (pc' := 12) d_M_lasts_11 rfl rfl rfl ?_)))))))
  refine sm_callVi (ci := 11) (x := x0) (av := [.inl x1]) (st := []) (mc := 0) (ms := 0) (pc' := 15) d_M_lasts_12 rfl (sd_M_isThingAt x0 x1) m_lv rfl cv_M_isThingAt w_ml_M_357 rfl rfl (by decide) (Nat.le_of_ble_eq_true rfl) rfl rfl (fun v1 => ?_)
  refine sm_if_ne (tgt := 24) (pc' := 18) d_M_lasts_15 rfl rfl ?_ ?_
  · refine sm_iload_n (i := 2) (j := 2) (pc' := 25) d_M_lasts_24 rfl rfl rfl (sm_i2l (pc' := 26) d_M_lasts_25 rfl (sm_lconst (pc' := 27) (v := 0) d_M_lasts_26 rfl rfl (sm_ldc2 (v := 6) (pc' := 30) d_M_lasts_27 rfl w_cl_M_360 ?_)))
    refine sm_callSi (av := [.inr (.inl (x2).toInt64), .inr (.inl 0), .inr (.inl 6)]) (st := []) (mc := 0) (ms := 0) (pc' := 33) d_M_lasts_30 rfl (sd_M_isIn (x2).toInt64 0 6) cs_M_isIn w_ml_M_116 rfl rfl (by decide) (Nat.le_of_ble_eq_true rfl) rfl rfl (fun v2 => ?_)
    refine sm_if_ne (tgt := 42) (pc' := 36) d_M_lasts_33 rfl rfl ?_ ?_
    · refine sm_aload_n (i := 0) (j := 0) (pc' := 43) d_M_lasts_42 rfl rfl rfl (sm_iload_n (i := 1) (j := 1) (pc' := 44) d_M_lasts_43 rfl rfl rfl (sm_iload_n (i := 2) (j := 2) (pc' := 45) d_M_lasts_44 rfl rfl rfl ?_))
      refine sm_callVv (ci := 11) (x := x0) (av := [.inl x1, .inl x2]) (st := []) (mc := 0) (ms := 0) (pc' := 48) d_M_lasts_45 rfl (sd_M_laysBites x0 x1 x2) m_lv rfl cv_M_laysBites w_ml_M_516 rfl rfl (by decide) (Nat.le_of_ble_eq_true rfl) rfl rfl ?_
      refine sm_aload_n (i := 0) (j := 0) (pc' := 49) d_M_lasts_48 rfl rfl rfl (sm_aload_n (i := 0) (j := 0) (pc' := 50) d_M_lasts_49 rfl rfl rfl (sm_iload_n (i := 1) (j := 1) (pc' := 51) d_M_lasts_50 rfl rfl rfl (sm_aload_n (i := 0) (j := 0) (pc' := 52) d_M_lasts_51 rfl rfl rfl ?_)))
      refine sm_getR (pc' := 55) d_M_lasts_52 rfl fl_M_35 rfl rfl (fun v3 => ?_)
      refine sm_bipush (pc' := 57) d_M_lasts_55 rfl ib_25 (sm_iload_n (i := 1) (j := 1) (pc' := 58) d_M_lasts_57 rfl rfl rfl (sm_iadd (pc' := 59) d_M_lasts_58 rfl ?_))
      refine sm_iald (pc' := 60) d_M_lasts_59 rfl (fun v4 => ?_)
      refine sm_callVj (ci := 11) (x := x0) (av := [.inl x1, .inl v4]) (st := [.inr (.inr x0)]) (mc := 0) (ms := 0) (pc' := 63) d_M_lasts_60 rfl (sd_M_lastsIf x0 x1 v4) m_lv rfl cv_M_lastsIf w_ml_M_519 rfl rfl (by decide) (Nat.le_of_ble_eq_true rfl) rfl rfl (fun v5 => ?_)
      refine sm_aload_n (i := 0) (j := 0) (pc' := 64) d_M_lasts_63 rfl rfl rfl ?_
      refine sm_getJ (pc' := 67) d_M_lasts_64 rfl fl_M_511 rfl rfl (fun v6 => ?_)
      refine sm_callVi (ci := 11) (x := x0) (av := [.inr (.inl v5), .inr (.inl v6)]) (st := []) (mc := 0) (ms := 0) (pc' := 70) d_M_lasts_67 rfl (sd_M_fraction x0 v5 v6) m_lv rfl cv_M_fraction w_ml_M_522 rfl rfl (by decide) (Nat.le_of_ble_eq_true rfl) rfl rfl (fun v7 => ?_)
      exact sm_zretC d_M_lasts_70 rfl rfl
    · refine sm_aload_n (i := 0) (j := 0) (pc' := 37) d_M_lasts_36 rfl rfl rfl (sm_iconst (pc' := 38) d_M_lasts_37 rfl ic_5 ?_)
      refine sm_callVi (ci := 11) (x := x0) (av := [.inl 5]) (st := []) (mc := 0) (ms := 0) (pc' := 41) d_M_lasts_38 rfl (sd_M_no x0 5) m_lv rfl cv_M_no w_ml_M_96 rfl rfl (by decide) (Nat.le_of_ble_eq_true rfl) rfl rfl (fun v8 => ?_)
      exact sm_zretC d_M_lasts_41 rfl rfl
  · refine sm_aload_n (i := 0) (j := 0) (pc' := 19) d_M_lasts_18 rfl rfl rfl (sm_iconst (pc' := 20) d_M_lasts_19 rfl ic_2 ?_)
    refine sm_callVi (ci := 11) (x := x0) (av := [.inl 2]) (st := []) (mc := 0) (ms := 0) (pc' := 23) d_M_lasts_20 rfl (sd_M_no x0 2) m_lv rfl cv_M_no w_ml_M_96 rfl rfl (by decide) (Nat.le_of_ble_eq_true rfl) rfl rfl (fun v9 => ?_)
    exact sm_zretC d_M_lasts_23 rfl rfl
theorem d_M_thickFor_0 : m_D k_M_thickFor 0 (.aload_n 0) 1 := (by decide +kernel : decode prog_14_method_150_code 0 = .ok (.aload_n 0, 1))
theorem d_M_thickFor_1 : m_D k_M_thickFor 1 (.iconst 0) 1 := (by decide +kernel : decode prog_14_method_150_code 1 = .ok (.iconst 0, 1))
theorem d_M_thickFor_2 : m_D k_M_thickFor 2 (.putfield 81) 3 := (by decide +kernel : decode prog_14_method_150_code 2 = .ok (.putfield 81, 3))
theorem d_M_thickFor_5 : m_D k_M_thickFor 5 (.aload_n 0) 1 := (by decide +kernel : decode prog_14_method_150_code 5 = .ok (.aload_n 0, 1))
theorem d_M_thickFor_6 : m_D k_M_thickFor 6 (.iconst 0) 1 := (by decide +kernel : decode prog_14_method_150_code 6 = .ok (.iconst 0, 1))
theorem d_M_thickFor_7 : m_D k_M_thickFor 7 (.putfield 84) 3 := (by decide +kernel : decode prog_14_method_150_code 7 = .ok (.putfield 84, 3))
theorem d_M_thickFor_10 : m_D k_M_thickFor 10 (.aload_n 0) 1 := (by decide +kernel : decode prog_14_method_150_code 10 = .ok (.aload_n 0, 1))
theorem d_M_thickFor_11 : m_D k_M_thickFor 11 (.iload_n 1) 1 := (by decide +kernel : decode prog_14_method_150_code 11 = .ok (.iload_n 1, 1))
theorem d_M_thickFor_12 : m_D k_M_thickFor 12 (.invokevirtual 357) 3 := (by decide +kernel : decode prog_14_method_150_code 12 = .ok (.invokevirtual 357, 3))
theorem d_M_thickFor_15 : m_D k_M_thickFor 15 (.ifCond .ne 9) 3 := (by decide +kernel : decode prog_14_method_150_code 15 = .ok (.ifCond .ne 9, 3))
theorem d_M_thickFor_18 : m_D k_M_thickFor 18 (.aload_n 0) 1 := (by decide +kernel : decode prog_14_method_150_code 18 = .ok (.aload_n 0, 1))
theorem d_M_thickFor_19 : m_D k_M_thickFor 19 (.iconst 2) 1 := (by decide +kernel : decode prog_14_method_150_code 19 = .ok (.iconst 2, 1))
theorem d_M_thickFor_20 : m_D k_M_thickFor 20 (.invokevirtual 331) 3 := (by decide +kernel : decode prog_14_method_150_code 20 = .ok (.invokevirtual 331, 3))
theorem d_M_thickFor_23 : m_D k_M_thickFor 23 (.ireturn) 1 := (by decide +kernel : decode prog_14_method_150_code 23 = .ok (.ireturn, 1))
theorem d_M_thickFor_24 : m_D k_M_thickFor 24 (.iload_n 2) 1 := (by decide +kernel : decode prog_14_method_150_code 24 = .ok (.iload_n 2, 1))
theorem d_M_thickFor_25 : m_D k_M_thickFor 25 (.i2l) 1 := (by decide +kernel : decode prog_14_method_150_code 25 = .ok (.i2l, 1))
theorem d_M_thickFor_26 : m_D k_M_thickFor 26 (.lconst 0) 1 := (by decide +kernel : decode prog_14_method_150_code 26 = .ok (.lconst 0, 1))
theorem d_M_thickFor_27 : m_D k_M_thickFor 27 (.ldc2_w 360) 3 := (by decide +kernel : decode prog_14_method_150_code 27 = .ok (.ldc2_w 360, 3))
theorem d_M_thickFor_30 : m_D k_M_thickFor 30 (.invokestatic 116) 3 := (by decide +kernel : decode prog_14_method_150_code 30 = .ok (.invokestatic 116, 3))
theorem d_M_thickFor_33 : m_D k_M_thickFor 33 (.ifCond .eq 15) 3 := (by decide +kernel : decode prog_14_method_150_code 33 = .ok (.ifCond .eq 15, 3))
theorem d_M_thickFor_36 : m_D k_M_thickFor 36 (.iload_n 3) 1 := (by decide +kernel : decode prog_14_method_150_code 36 = .ok (.iload_n 3, 1))
theorem d_M_thickFor_37 : m_D k_M_thickFor 37 (.i2l) 1 := (by decide +kernel : decode prog_14_method_150_code 37 = .ok (.i2l, 1))
theorem d_M_thickFor_38 : m_D k_M_thickFor 38 (.lconst 0) 1 := (by decide +kernel : decode prog_14_method_150_code 38 = .ok (.lconst 0, 1))
theorem d_M_thickFor_39 : m_D k_M_thickFor 39 (.ldc2_w 514) 3 := (by decide +kernel : decode prog_14_method_150_code 39 = .ok (.ldc2_w 514, 3))
theorem d_M_thickFor_42 : m_D k_M_thickFor 42 (.invokestatic 116) 3 := (by decide +kernel : decode prog_14_method_150_code 42 = .ok (.invokestatic 116, 3))
theorem d_M_thickFor_45 : m_D k_M_thickFor 45 (.ifCond .ne 9) 3 := (by decide +kernel : decode prog_14_method_150_code 45 = .ok (.ifCond .ne 9, 3))
theorem d_M_thickFor_48 : m_D k_M_thickFor 48 (.aload_n 0) 1 := (by decide +kernel : decode prog_14_method_150_code 48 = .ok (.aload_n 0, 1))
theorem d_M_thickFor_49 : m_D k_M_thickFor 49 (.iconst 5) 1 := (by decide +kernel : decode prog_14_method_150_code 49 = .ok (.iconst 5, 1))
theorem d_M_thickFor_50 : m_D k_M_thickFor 50 (.invokevirtual 331) 3 := (by decide +kernel : decode prog_14_method_150_code 50 = .ok (.invokevirtual 331, 3))
theorem d_M_thickFor_53 : m_D k_M_thickFor 53 (.ireturn) 1 := (by decide +kernel : decode prog_14_method_150_code 53 = .ok (.ireturn, 1))
theorem d_M_thickFor_54 : m_D k_M_thickFor 54 (.aload_n 0) 1 := (by decide +kernel : decode prog_14_method_150_code 54 = .ok (.aload_n 0, 1))
theorem d_M_thickFor_55 : m_D k_M_thickFor 55 (.iload_n 1) 1 := (by decide +kernel : decode prog_14_method_150_code 55 = .ok (.iload_n 1, 1))
theorem d_M_thickFor_56 : m_D k_M_thickFor 56 (.iload_n 2) 1 := (by decide +kernel : decode prog_14_method_150_code 56 = .ok (.iload_n 2, 1))
theorem d_M_thickFor_57 : m_D k_M_thickFor 57 (.invokevirtual 516) 3 := (by decide +kernel : decode prog_14_method_150_code 57 = .ok (.invokevirtual 516, 3))
theorem d_M_thickFor_60 : m_D k_M_thickFor 60 (.iconst 1) 1 := (by decide +kernel : decode prog_14_method_150_code 60 = .ok (.iconst 1, 1))
theorem d_M_thickFor_61 : m_D k_M_thickFor 61 (.istore 4) 2 := (by decide +kernel : decode prog_14_method_150_code 61 = .ok (.istore 4, 2))
theorem d_M_thickFor_63 : m_D k_M_thickFor 63 (.iload 4) 2 := (by decide +kernel : decode prog_14_method_150_code 63 = .ok (.iload 4, 2))
theorem d_M_thickFor_65 : m_D k_M_thickFor 65 (.sipush 999) 3 := (by decide +kernel : decode prog_14_method_150_code 65 = .ok (.sipush 999, 3))
theorem d_M_thickFor_68 : m_D k_M_thickFor 68 (.if_icmp .gt 34) 3 := (by decide +kernel : decode prog_14_method_150_code 68 = .ok (.if_icmp .gt 34, 3))
theorem d_M_thickFor_71 : m_D k_M_thickFor 71 (.ldc2_w 514) 3 := (by decide +kernel : decode prog_14_method_150_code 71 = .ok (.ldc2_w 514, 3))
theorem d_M_thickFor_74 : m_D k_M_thickFor 74 (.aload_n 0) 1 := (by decide +kernel : decode prog_14_method_150_code 74 = .ok (.aload_n 0, 1))
theorem d_M_thickFor_75 : m_D k_M_thickFor 75 (.iload_n 1) 1 := (by decide +kernel : decode prog_14_method_150_code 75 = .ok (.iload_n 1, 1))
theorem d_M_thickFor_76 : m_D k_M_thickFor 76 (.iload 4) 2 := (by decide +kernel : decode prog_14_method_150_code 76 = .ok (.iload 4, 2))
theorem d_M_thickFor_78 : m_D k_M_thickFor 78 (.invokevirtual 519) 3 := (by decide +kernel : decode prog_14_method_150_code 78 = .ok (.invokevirtual 519, 3))
theorem d_M_thickFor_81 : m_D k_M_thickFor 81 (.lmul) 1 := (by decide +kernel : decode prog_14_method_150_code 81 = .ok (.lmul, 1))
theorem d_M_thickFor_82 : m_D k_M_thickFor 82 (.iload_n 3) 1 := (by decide +kernel : decode prog_14_method_150_code 82 = .ok (.iload_n 3, 1))
theorem d_M_thickFor_83 : m_D k_M_thickFor 83 (.i2l) 1 := (by decide +kernel : decode prog_14_method_150_code 83 = .ok (.i2l, 1))
theorem d_M_thickFor_84 : m_D k_M_thickFor 84 (.aload_n 0) 1 := (by decide +kernel : decode prog_14_method_150_code 84 = .ok (.aload_n 0, 1))
theorem d_M_thickFor_85 : m_D k_M_thickFor 85 (.getfield 511) 3 := (by decide +kernel : decode prog_14_method_150_code 85 = .ok (.getfield 511, 3))
theorem d_M_thickFor_88 : m_D k_M_thickFor 88 (.lmul) 1 := (by decide +kernel : decode prog_14_method_150_code 88 = .ok (.lmul, 1))
theorem d_M_thickFor_89 : m_D k_M_thickFor 89 (.lcmp) 1 := (by decide +kernel : decode prog_14_method_150_code 89 = .ok (.lcmp, 1))
theorem d_M_thickFor_90 : m_D k_M_thickFor 90 (.ifCond .lt 6) 3 := (by decide +kernel : decode prog_14_method_150_code 90 = .ok (.ifCond .lt 6, 3))
theorem d_M_thickFor_93 : m_D k_M_thickFor 93 (.iload 4) 2 := (by decide +kernel : decode prog_14_method_150_code 93 = .ok (.iload 4, 2))
theorem d_M_thickFor_95 : m_D k_M_thickFor 95 (.ireturn) 1 := (by decide +kernel : decode prog_14_method_150_code 95 = .ok (.ireturn, 1))
theorem d_M_thickFor_96 : m_D k_M_thickFor 96 (.iinc 4 1) 3 := (by decide +kernel : decode prog_14_method_150_code 96 = .ok (.iinc 4 1, 3))
theorem d_M_thickFor_99 : m_D k_M_thickFor 99 (.goto (-36)) 3 := (by decide +kernel : decode prog_14_method_150_code 99 = .ok (.goto (-36), 3))
theorem d_M_thickFor_102 : m_D k_M_thickFor 102 (.aload_n 0) 1 := (by decide +kernel : decode prog_14_method_150_code 102 = .ok (.aload_n 0, 1))
theorem d_M_thickFor_103 : m_D k_M_thickFor 103 (.bipush 8) 2 := (by decide +kernel : decode prog_14_method_150_code 103 = .ok (.bipush 8, 2))
theorem d_M_thickFor_105 : m_D k_M_thickFor 105 (.invokevirtual 331) 3 := (by decide +kernel : decode prog_14_method_150_code 105 = .ok (.invokevirtual 331, 3))
theorem d_M_thickFor_108 : m_D k_M_thickFor 108 (.ireturn) 1 := (by decide +kernel : decode prog_14_method_150_code 108 = .ok (.ireturn, 1))
def fn_M_thickFor_l63 (x0 : Option mA) (x1 : Int32) (x3 : Int32) (t5 : Int32) : mP ((Int32) ⊕ (Int32)) :=
  if 999 < t5 then
    m_bd (fn_M_refuse x0 8) fun v6 =>
    m_rt (.inr v6)
  else
    m_bd (fn_M_lastsIf x0 x1 t5) fun v7 =>
    m_bd (m_gJ 11 41 x0) fun v8 =>
    if (lg_cmp (10 * v7) ((x3).toInt64 * v8)) < 0 then
      m_rt (.inl (t5 + 1))
    else
      m_rt (.inr t5)
def fn_M_thickFor (x0 : Option mA) (x1 : Int32) (x2 : Int32) (x3 : Int32) : mP Int32 :=
  m_th 11 x0 <|
  m_bd (m_pI 11 1 x0 0) fun _ =>
  m_bd (m_pI 11 0 x0 0) fun _ =>
  m_bd (fn_M_isThingAt x0 x1) fun v1 =>
  if v1 = 0 then
    m_bd (fn_M_refuse x0 2) fun v10 =>
    m_rt v10
  else
    m_bd (fn_M_isIn (x2).toInt64 0 6) fun v2 =>
    if v2 = 0 then
      m_bd (fn_M_refuse x0 5) fun v3 =>
      m_rt v3
    else
      m_bd (fn_M_isIn (x3).toInt64 0 10) fun v4 =>
      if v4 = 0 then
        m_bd (fn_M_refuse x0 5) fun v9 =>
        m_rt v9
      else
        m_bd (fn_M_laysBites x0 x1 x2) fun _ =>
        m_lp (fn_M_thickFor_l63 x0 x1 x3) m_F 1
set_option maxHeartbeats 4000000 in
set_option maxRecDepth 100000 in
theorem sd_M_thickFor (x0 : Option mA) (x1 : Int32) (x2 : Int32) (x3 : Int32) : m_Sm k_M_thickFor 4 0 0 [.inr (.inr x0), .inl x1, .inl x2, .inl x3] (fn_M_thickFor x0 x1 x2 x3) (fun b => some (.inl b)) := by
  refine ⟨Nat.le_of_ble_eq_true rfl, ?_⟩
  refine sm_th ?_
  refine sm_aload_n (i := 0) (j := 0) (pc' := 1) d_M_thickFor_0 rfl rfl rfl (sm_iconst (pc' := 2) d_M_thickFor_1 rfl ic_0 (sm_putI (pc' := 5) d_M_thickFor_2 rfl fl_M_81 (Or.inl rfl) rfl (sm_aload_n (i := 0) (j := 0) (pc' := 6) d_M_thickFor_5 rfl rfl rfl (sm_iconst (pc' := 7) d_M_thickFor_6 rfl ic_0 (sm_putI (pc' := 10) d_M_thickFor_7 rfl fl_M_84 (Or.inl rfl) rfl (sm_aload_n (i := 0) (j := 0) (pc' := 11) d_M_thickFor_10 rfl rfl rfl (sm_iload_n (i := 1) (j := 1) (pc' := 12) d_M_thickFor_11 rfl rfl rfl ?_)))))))
  refine sm_callVi (ci := 11) (x := x0) (av := [.inl x1]) (st := []) (mc := 0) (ms := 0) (pc' := 15) d_M_thickFor_12 rfl (sd_M_isThingAt x0 x1) m_lv rfl cv_M_isThingAt w_ml_M_357 rfl rfl (by decide) (Nat.le_of_ble_eq_true rfl) rfl rfl (fun v1 => ?_)
  refine sm_if_ne (tgt := 24) (pc' := 18) d_M_thickFor_15 rfl rfl ?_ ?_
  · refine sm_iload_n (i := 2) (j := 2) (pc' := 25) d_M_thickFor_24 rfl rfl rfl (sm_i2l (pc' := 26) d_M_thickFor_25 rfl (sm_lconst (pc' := 27) (v := 0) d_M_thickFor_26 rfl rfl (sm_ldc2 (v := 6) (pc' := 30) d_M_thickFor_27 rfl w_cl_M_360 ?_)))
    refine sm_callSi (av := [.inr (.inl (x2).toInt64), .inr (.inl 0), .inr (.inl 6)]) (st := []) (mc := 0) (ms := 0) (pc' := 33) d_M_thickFor_30 rfl (sd_M_isIn (x2).toInt64 0 6) cs_M_isIn w_ml_M_116 rfl rfl (by decide) (Nat.le_of_ble_eq_true rfl) rfl rfl (fun v2 => ?_)
    refine sm_if_eq (tgt := 48) (pc' := 36) d_M_thickFor_33 rfl rfl ?_ ?_
    · refine sm_aload_n (i := 0) (j := 0) (pc' := 49) d_M_thickFor_48 rfl rfl rfl (sm_iconst (pc' := 50) d_M_thickFor_49 rfl ic_5 ?_)
      refine sm_callVi (ci := 11) (x := x0) (av := [.inl 5]) (st := []) (mc := 0) (ms := 0) (pc' := 53) d_M_thickFor_50 rfl (sd_M_refuse x0 5) m_lv rfl cv_M_refuse w_ml_M_331 rfl rfl (by decide) (Nat.le_of_ble_eq_true rfl) rfl rfl (fun v3 => ?_)
      exact sm_ireturn d_M_thickFor_53 rfl rfl
    · refine sm_iload_n (i := 3) (j := 3) (pc' := 37) d_M_thickFor_36 rfl rfl rfl (sm_i2l (pc' := 38) d_M_thickFor_37 rfl (sm_lconst (pc' := 39) (v := 0) d_M_thickFor_38 rfl rfl (sm_ldc2 (v := 10) (pc' := 42) d_M_thickFor_39 rfl w_cl_M_514 ?_)))
      refine sm_callSi (av := [.inr (.inl (x3).toInt64), .inr (.inl 0), .inr (.inl 10)]) (st := []) (mc := 0) (ms := 0) (pc' := 45) d_M_thickFor_42 rfl (sd_M_isIn (x3).toInt64 0 10) cs_M_isIn w_ml_M_116 rfl rfl (by decide) (Nat.le_of_ble_eq_true rfl) rfl rfl (fun v4 => ?_)
      refine sm_if_ne (tgt := 54) (pc' := 48) d_M_thickFor_45 rfl rfl ?_ ?_
      · refine sm_aload_n (i := 0) (j := 0) (pc' := 55) d_M_thickFor_54 rfl rfl rfl (sm_iload_n (i := 1) (j := 1) (pc' := 56) d_M_thickFor_55 rfl rfl rfl (sm_iload_n (i := 2) (j := 2) (pc' := 57) d_M_thickFor_56 rfl rfl rfl ?_))
        refine sm_callVv (ci := 11) (x := x0) (av := [.inl x1, .inl x2]) (st := []) (mc := 0) (ms := 0) (pc' := 60) d_M_thickFor_57 rfl (sd_M_laysBites x0 x1 x2) m_lv rfl cv_M_laysBites w_ml_M_516 rfl rfl (by decide) (Nat.le_of_ble_eq_true rfl) rfl rfl ?_
        refine sm_iconst (pc' := 61) d_M_thickFor_60 rfl ic_1 (sm_istore (L' := [(4, .inl 1), (0, .inr (.inr x0)), (1, .inl x1), (2, .inl x2), (3, .inl x3)]) (pc' := 63) d_M_thickFor_61 rfl (Nat.le_of_ble_eq_true rfl) rfl ?_)
        refine sm_sub [0, 1, 2, 4] rfl ?_
        refine sm_lp (hd := fun (t5 : Int32) => (.inl (63, [(4, .inl t5), (0, .inr (.inr x0)), (1, .inl x1), (3, .inl x3)], []) : mC)) (fun t5 => ?_) m_F 1
        refine sm_iload (j := 0) (pc' := 65) d_M_thickFor_63 rfl rfl (sm_sipush (pc' := 68) d_M_thickFor_65 rfl is_999 ?_)
        refine sm_icmp_gt (tgt := 102) (pc' := 71) d_M_thickFor_68 rfl rfl ?_ ?_
        · refine sm_aload_n (i := 0) (j := 1) (pc' := 103) d_M_thickFor_102 rfl rfl rfl (sm_bipush (pc' := 105) d_M_thickFor_103 rfl ib_8 ?_)
          refine sm_callVi (ci := 11) (x := x0) (av := [.inl 8]) (st := []) (mc := 0) (ms := 0) (pc' := 108) d_M_thickFor_105 rfl (sd_M_refuse x0 8) m_lv rfl cv_M_refuse w_ml_M_331 rfl rfl (by decide) (Nat.le_of_ble_eq_true rfl) rfl rfl (fun v6 => ?_)
          exact sm_ireturn d_M_thickFor_108 rfl rfl
        · refine sm_ldc2 (v := 10) (pc' := 74) d_M_thickFor_71 rfl w_cl_M_514 (sm_aload_n (i := 0) (j := 1) (pc' := 75) d_M_thickFor_74 rfl rfl rfl (sm_iload_n (i := 1) (j := 2) (pc' := 76) d_M_thickFor_75 rfl rfl rfl (sm_iload (j := 0) (pc' := 78) d_M_thickFor_76 rfl rfl ?_)))
          refine sm_callVj (ci := 11) (x := x0) (av := [.inl x1, .inl t5]) (st := [.inr (.inl 10)]) (mc := 0) (ms := 0) (pc' := 81) d_M_thickFor_78 rfl (sd_M_lastsIf x0 x1 t5) m_lv rfl cv_M_lastsIf w_ml_M_519 rfl rfl (by decide) (Nat.le_of_ble_eq_true rfl) rfl rfl (fun v7 => ?_)
          refine sm_lmul (pc' := 82) d_M_thickFor_81 rfl (sm_iload_n (i := 3) (j := 3) (pc' := 83) d_M_thickFor_82 rfl rfl rfl (sm_i2l (pc' := 84) d_M_thickFor_83 rfl (sm_aload_n (i := 0) (j := 1) (pc' := 85) d_M_thickFor_84 rfl rfl rfl ?_)))
          refine sm_getJ (pc' := 88) d_M_thickFor_85 rfl fl_M_511 rfl rfl (fun v8 => ?_)
          refine sm_lmul (pc' := 89) d_M_thickFor_88 rfl (sm_lcmp (pc' := 90) d_M_thickFor_89 rfl ?_)
          refine sm_if_lt (tgt := 96) (pc' := 93) d_M_thickFor_90 rfl rfl ?_ ?_
          · refine sm_iinc (j := 0) (L' := [(4, .inl (t5 + 1)), (0, .inr (.inr x0)), (1, .inl x1), (3, .inl x3)]) (pc' := 99) d_M_thickFor_96 rfl (v := (t5 + 1)) rfl (ix_1 _) (Nat.le_of_ble_eq_true rfl) rfl (sm_goto (tgt := 63) d_M_thickFor_99 rfl (sm_sub [0, 1, 2, 3] rfl ?_))
            exact sm_rt rfl
          · refine sm_iload (j := 0) (pc' := 95) d_M_thickFor_93 rfl rfl ?_
            exact sm_ireturn d_M_thickFor_95 rfl rfl
      · refine sm_aload_n (i := 0) (j := 0) (pc' := 49) d_M_thickFor_48 rfl rfl rfl (sm_iconst (pc' := 50) d_M_thickFor_49 rfl ic_5 ?_)
        refine sm_callVi (ci := 11) (x := x0) (av := [.inl 5]) (st := []) (mc := 0) (ms := 0) (pc' := 53) d_M_thickFor_50 rfl (sd_M_refuse x0 5) m_lv rfl cv_M_refuse w_ml_M_331 rfl rfl (by decide) (Nat.le_of_ble_eq_true rfl) rfl rfl (fun v9 => ?_)
        exact sm_ireturn d_M_thickFor_53 rfl rfl
  · refine sm_aload_n (i := 0) (j := 0) (pc' := 19) d_M_thickFor_18 rfl rfl rfl (sm_iconst (pc' := 20) d_M_thickFor_19 rfl ic_2 ?_)
    refine sm_callVi (ci := 11) (x := x0) (av := [.inl 2]) (st := []) (mc := 0) (ms := 0) (pc' := 23) d_M_thickFor_20 rfl (sd_M_refuse x0 2) m_lv rfl cv_M_refuse w_ml_M_331 rfl rfl (by decide) (Nat.le_of_ble_eq_true rfl) rfl rfl (fun v10 => ?_)
    exact sm_ireturn d_M_thickFor_23 rfl rfl
theorem d_M_blame_0 : m_D k_M_blame 0 (.aload_n 0) 1 := (by decide +kernel : decode prog_14_method_151_code 0 = .ok (.aload_n 0, 1))
theorem d_M_blame_1 : m_D k_M_blame 1 (.iconst 0) 1 := (by decide +kernel : decode prog_14_method_151_code 1 = .ok (.iconst 0, 1))
theorem d_M_blame_2 : m_D k_M_blame 2 (.putfield 81) 3 := (by decide +kernel : decode prog_14_method_151_code 2 = .ok (.putfield 81, 3))
theorem d_M_blame_5 : m_D k_M_blame 5 (.aload_n 0) 1 := (by decide +kernel : decode prog_14_method_151_code 5 = .ok (.aload_n 0, 1))
theorem d_M_blame_6 : m_D k_M_blame 6 (.iconst 0) 1 := (by decide +kernel : decode prog_14_method_151_code 6 = .ok (.iconst 0, 1))
theorem d_M_blame_7 : m_D k_M_blame 7 (.putfield 84) 3 := (by decide +kernel : decode prog_14_method_151_code 7 = .ok (.putfield 84, 3))
theorem d_M_blame_10 : m_D k_M_blame 10 (.aload_n 0) 1 := (by decide +kernel : decode prog_14_method_151_code 10 = .ok (.aload_n 0, 1))
theorem d_M_blame_11 : m_D k_M_blame 11 (.iload_n 1) 1 := (by decide +kernel : decode prog_14_method_151_code 11 = .ok (.iload_n 1, 1))
theorem d_M_blame_12 : m_D k_M_blame 12 (.invokevirtual 349) 3 := (by decide +kernel : decode prog_14_method_151_code 12 = .ok (.invokevirtual 349, 3))
theorem d_M_blame_15 : m_D k_M_blame 15 (.ifCond .ne 9) 3 := (by decide +kernel : decode prog_14_method_151_code 15 = .ok (.ifCond .ne 9, 3))
theorem d_M_blame_18 : m_D k_M_blame 18 (.aload_n 0) 1 := (by decide +kernel : decode prog_14_method_151_code 18 = .ok (.aload_n 0, 1))
theorem d_M_blame_19 : m_D k_M_blame 19 (.iconst 2) 1 := (by decide +kernel : decode prog_14_method_151_code 19 = .ok (.iconst 2, 1))
theorem d_M_blame_20 : m_D k_M_blame 20 (.invokevirtual 96) 3 := (by decide +kernel : decode prog_14_method_151_code 20 = .ok (.invokevirtual 96, 3))
theorem d_M_blame_23 : m_D k_M_blame 23 (.ireturn) 1 := (by decide +kernel : decode prog_14_method_151_code 23 = .ok (.ireturn, 1))
theorem d_M_blame_24 : m_D k_M_blame 24 (.iconst 0) 1 := (by decide +kernel : decode prog_14_method_151_code 24 = .ok (.iconst 0, 1))
theorem d_M_blame_25 : m_D k_M_blame 25 (.istore_n 2) 1 := (by decide +kernel : decode prog_14_method_151_code 25 = .ok (.istore_n 2, 1))
theorem d_M_blame_26 : m_D k_M_blame 26 (.iconst 0) 1 := (by decide +kernel : decode prog_14_method_151_code 26 = .ok (.iconst 0, 1))
theorem d_M_blame_27 : m_D k_M_blame 27 (.istore_n 3) 1 := (by decide +kernel : decode prog_14_method_151_code 27 = .ok (.istore_n 3, 1))
theorem d_M_blame_28 : m_D k_M_blame 28 (.iconst 0) 1 := (by decide +kernel : decode prog_14_method_151_code 28 = .ok (.iconst 0, 1))
theorem d_M_blame_29 : m_D k_M_blame 29 (.istore 4) 2 := (by decide +kernel : decode prog_14_method_151_code 29 = .ok (.istore 4, 2))
theorem d_M_blame_31 : m_D k_M_blame 31 (.iload 4) 2 := (by decide +kernel : decode prog_14_method_151_code 31 = .ok (.iload 4, 2))
theorem d_M_blame_33 : m_D k_M_blame 33 (.aload_n 0) 1 := (by decide +kernel : decode prog_14_method_151_code 33 = .ok (.aload_n 0, 1))
theorem d_M_blame_34 : m_D k_M_blame 34 (.getfield 35) 3 := (by decide +kernel : decode prog_14_method_151_code 34 = .ok (.getfield 35, 3))
theorem d_M_blame_37 : m_D k_M_blame 37 (.iconst 1) 1 := (by decide +kernel : decode prog_14_method_151_code 37 = .ok (.iconst 1, 1))
theorem d_M_blame_38 : m_D k_M_blame 38 (.iaload) 1 := (by decide +kernel : decode prog_14_method_151_code 38 = .ok (.iaload, 1))
theorem d_M_blame_39 : m_D k_M_blame 39 (.if_icmp .ge 40) 3 := (by decide +kernel : decode prog_14_method_151_code 39 = .ok (.if_icmp .ge 40, 3))
theorem d_M_blame_42 : m_D k_M_blame 42 (.iload_n 2) 1 := (by decide +kernel : decode prog_14_method_151_code 42 = .ok (.iload_n 2, 1))
theorem d_M_blame_43 : m_D k_M_blame 43 (.aload_n 0) 1 := (by decide +kernel : decode prog_14_method_151_code 43 = .ok (.aload_n 0, 1))
theorem d_M_blame_44 : m_D k_M_blame 44 (.iload 4) 2 := (by decide +kernel : decode prog_14_method_151_code 44 = .ok (.iload 4, 2))
theorem d_M_blame_46 : m_D k_M_blame 46 (.invokevirtual 322) 3 := (by decide +kernel : decode prog_14_method_151_code 46 = .ok (.invokevirtual 322, 3))
theorem d_M_blame_49 : m_D k_M_blame 49 (.iadd) 1 := (by decide +kernel : decode prog_14_method_151_code 49 = .ok (.iadd, 1))
theorem d_M_blame_50 : m_D k_M_blame 50 (.istore_n 2) 1 := (by decide +kernel : decode prog_14_method_151_code 50 = .ok (.istore_n 2, 1))
theorem d_M_blame_51 : m_D k_M_blame 51 (.iload_n 3) 1 := (by decide +kernel : decode prog_14_method_151_code 51 = .ok (.iload_n 3, 1))
theorem d_M_blame_52 : m_D k_M_blame 52 (.aload_n 0) 1 := (by decide +kernel : decode prog_14_method_151_code 52 = .ok (.aload_n 0, 1))
theorem d_M_blame_53 : m_D k_M_blame 53 (.iload_n 1) 1 := (by decide +kernel : decode prog_14_method_151_code 53 = .ok (.iload_n 1, 1))
theorem d_M_blame_54 : m_D k_M_blame 54 (.invokevirtual 313) 3 := (by decide +kernel : decode prog_14_method_151_code 54 = .ok (.invokevirtual 313, 3))
theorem d_M_blame_57 : m_D k_M_blame 57 (.ifCond .eq 13) 3 := (by decide +kernel : decode prog_14_method_151_code 57 = .ok (.ifCond .eq 13, 3))
theorem d_M_blame_60 : m_D k_M_blame 60 (.aload_n 0) 1 := (by decide +kernel : decode prog_14_method_151_code 60 = .ok (.aload_n 0, 1))
theorem d_M_blame_61 : m_D k_M_blame 61 (.iload_n 1) 1 := (by decide +kernel : decode prog_14_method_151_code 61 = .ok (.iload_n 1, 1))
theorem d_M_blame_62 : m_D k_M_blame 62 (.iload 4) 2 := (by decide +kernel : decode prog_14_method_151_code 62 = .ok (.iload 4, 2))
theorem d_M_blame_64 : m_D k_M_blame 64 (.invokevirtual 316) 3 := (by decide +kernel : decode prog_14_method_151_code 64 = .ok (.invokevirtual 316, 3))
theorem d_M_blame_67 : m_D k_M_blame 67 (.goto 4) 3 := (by decide +kernel : decode prog_14_method_151_code 67 = .ok (.goto 4, 3))
theorem d_M_blame_70 : m_D k_M_blame 70 (.iconst 0) 1 := (by decide +kernel : decode prog_14_method_151_code 70 = .ok (.iconst 0, 1))
theorem d_M_blame_71 : m_D k_M_blame 71 (.iadd) 1 := (by decide +kernel : decode prog_14_method_151_code 71 = .ok (.iadd, 1))
theorem d_M_blame_72 : m_D k_M_blame 72 (.istore_n 3) 1 := (by decide +kernel : decode prog_14_method_151_code 72 = .ok (.istore_n 3, 1))
theorem d_M_blame_73 : m_D k_M_blame 73 (.iinc 4 1) 3 := (by decide +kernel : decode prog_14_method_151_code 73 = .ok (.iinc 4 1, 3))
theorem d_M_blame_76 : m_D k_M_blame 76 (.goto (-45)) 3 := (by decide +kernel : decode prog_14_method_151_code 76 = .ok (.goto (-45), 3))
theorem d_M_blame_79 : m_D k_M_blame 79 (.iload_n 2) 1 := (by decide +kernel : decode prog_14_method_151_code 79 = .ok (.iload_n 2, 1))
theorem d_M_blame_80 : m_D k_M_blame 80 (.ifCond .ne 12) 3 := (by decide +kernel : decode prog_14_method_151_code 80 = .ok (.ifCond .ne 12, 3))
theorem d_M_blame_83 : m_D k_M_blame 83 (.aload_n 0) 1 := (by decide +kernel : decode prog_14_method_151_code 83 = .ok (.aload_n 0, 1))
theorem d_M_blame_84 : m_D k_M_blame 84 (.bipush 8) 2 := (by decide +kernel : decode prog_14_method_151_code 84 = .ok (.bipush 8, 2))
theorem d_M_blame_86 : m_D k_M_blame 86 (.invokevirtual 96) 3 := (by decide +kernel : decode prog_14_method_151_code 86 = .ok (.invokevirtual 96, 3))
theorem d_M_blame_89 : m_D k_M_blame 89 (.goto 11) 3 := (by decide +kernel : decode prog_14_method_151_code 89 = .ok (.goto 11, 3))
theorem d_M_blame_92 : m_D k_M_blame 92 (.aload_n 0) 1 := (by decide +kernel : decode prog_14_method_151_code 92 = .ok (.aload_n 0, 1))
theorem d_M_blame_93 : m_D k_M_blame 93 (.iload_n 3) 1 := (by decide +kernel : decode prog_14_method_151_code 93 = .ok (.iload_n 3, 1))
theorem d_M_blame_94 : m_D k_M_blame 94 (.i2l) 1 := (by decide +kernel : decode prog_14_method_151_code 94 = .ok (.i2l, 1))
theorem d_M_blame_95 : m_D k_M_blame 95 (.iload_n 2) 1 := (by decide +kernel : decode prog_14_method_151_code 95 = .ok (.iload_n 2, 1))
theorem d_M_blame_96 : m_D k_M_blame 96 (.i2l) 1 := (by decide +kernel : decode prog_14_method_151_code 96 = .ok (.i2l, 1))
theorem d_M_blame_97 : m_D k_M_blame 97 (.invokevirtual 522) 3 := (by decide +kernel : decode prog_14_method_151_code 97 = .ok (.invokevirtual 522, 3))
theorem d_M_blame_100 : m_D k_M_blame 100 (.ireturn) 1 := (by decide +kernel : decode prog_14_method_151_code 100 = .ok (.ireturn, 1))
def fn_M_blame_l31 (x0 : Option mA) (x1 : Int32) (t2 : Int32 × Int32 × Int32) : mP ((Int32 × Int32 × Int32) ⊕ (Int32 × Int32)) :=
  m_bd (m_gR 11 20 x0) fun v3 =>
  m_bd (m_aI 0 v3 1) fun v4 =>
  if v4 ≤ t2.2.2 then
    m_rt (.inr (t2.1, t2.2.1))
  else
    m_bd (fn_M_lovedOf x0 t2.2.2) fun v5 =>
    m_bd (fn_M_showsNow x0 x1) fun v6 =>
    m_bd (α := Int32) (
      if v6 = 0 then
        m_rt 0
      else
        m_bd (fn_M_loveOf x0 x1 t2.2.2) fun v7 =>
        m_rt v7
      ) fun (t8 : Int32) =>
    m_rt (.inl ((t2.1 + v5), (t2.2.1 + t8), (t2.2.2 + 1)))
def fn_M_blame (x0 : Option mA) (x1 : Int32) : mP Int32 :=
  m_th 11 x0 <|
  m_bd (m_pI 11 1 x0 0) fun _ =>
  m_bd (m_pI 11 0 x0 0) fun _ =>
  m_bd (fn_M_isPersonAt x0 x1) fun v1 =>
  if v1 = 0 then
    m_bd (fn_M_no x0 2) fun v12 =>
    m_bd (m_cz v12) fun _ => m_rt v12
  else
    m_bd (m_lp (fn_M_blame_l31 x0 x1) m_F (0, 0, 0)) fun (t9 : Int32 × Int32) =>
    if t9.1 = 0 then
      m_bd (fn_M_no x0 8) fun v11 =>
      m_bd (m_cz v11) fun _ => m_rt v11
    else
      m_bd (fn_M_fraction x0 (t9.2).toInt64 (t9.1).toInt64) fun v10 =>
      m_bd (m_cz v10) fun _ => m_rt v10
set_option maxHeartbeats 4000000 in
set_option maxRecDepth 100000 in
theorem sd_M_blame (x0 : Option mA) (x1 : Int32) : m_Sm k_M_blame 3 0 0 [.inr (.inr x0), .inl x1] (fn_M_blame x0 x1) (fun b => some (.inl b)) := by
  refine ⟨Nat.le_of_ble_eq_true rfl, ?_⟩
  refine sm_th ?_
  refine sm_aload_n (i := 0) (j := 0) (pc' := 1) d_M_blame_0 rfl rfl rfl (sm_iconst (pc' := 2) d_M_blame_1 rfl ic_0 (sm_putI (pc' := 5) d_M_blame_2 rfl fl_M_81 (Or.inl rfl) rfl (sm_aload_n (i := 0) (j := 0) (pc' := 6) d_M_blame_5 rfl rfl rfl (sm_iconst (pc' := 7) d_M_blame_6 rfl ic_0 (sm_putI (pc' := 10) d_M_blame_7 rfl fl_M_84 (Or.inl rfl) rfl (sm_aload_n (i := 0) (j := 0) (pc' := 11) d_M_blame_10 rfl rfl rfl (sm_iload_n (i := 1) (j := 1) (pc' := 12) d_M_blame_11 rfl rfl rfl ?_)))))))
  refine sm_callVi (ci := 11) (x := x0) (av := [.inl x1]) (st := []) (mc := 0) (ms := 0) (pc' := 15) d_M_blame_12 rfl (sd_M_isPersonAt x0 x1) m_lv rfl cv_M_isPersonAt w_ml_M_349 rfl rfl (by decide) (Nat.le_of_ble_eq_true rfl) rfl rfl (fun v1 => ?_)
  refine sm_if_ne (tgt := 24) (pc' := 18) d_M_blame_15 rfl rfl ?_ ?_
  · refine sm_iconst (pc' := 25) d_M_blame_24 rfl ic_0 (sm_istore_n (i := 2) (L' := [(2, .inl 0), (0, .inr (.inr x0)), (1, .inl x1)]) (pc' := 26) d_M_blame_25 rfl rfl (Nat.le_of_ble_eq_true rfl) rfl (sm_iconst (pc' := 27) d_M_blame_26 rfl ic_0 (sm_istore_n (i := 3) (L' := [(3, .inl 0), (2, .inl 0), (0, .inr (.inr x0)), (1, .inl x1)]) (pc' := 28) d_M_blame_27 rfl rfl (Nat.le_of_ble_eq_true rfl) rfl (sm_iconst (pc' := 29) d_M_blame_28 rfl ic_0 (sm_istore (L' := [(4, .inl 0), (3, .inl 0), (2, .inl 0), (0, .inr (.inr x0)), (1, .inl x1)]) (pc' := 31) d_M_blame_29 rfl (Nat.le_of_ble_eq_true rfl) rfl ?_)))))
    refine sm_sub [2, 1, 0, 3, 4] rfl ?_
    refine sm_bd (mid := fun (t9 : Int32 × Int32) => .inl (79, [(2, .inl t9.1), (3, .inl t9.2), (0, .inr (.inr x0))], [])) (sm_lp (hd := fun (t2 : Int32 × Int32 × Int32) => (.inl (31, [(2, .inl t2.1), (3, .inl t2.2.1), (4, .inl t2.2.2), (0, .inr (.inr x0)), (1, .inl x1)], []) : mC)) (fun t2 => ?_) m_F (0, 0, 0)) (fun t9 => ?_)
    · refine sm_iload (j := 2) (pc' := 33) d_M_blame_31 rfl rfl (sm_aload_n (i := 0) (j := 3) (pc' := 34) d_M_blame_33 rfl rfl rfl ?_)
      refine sm_getR (pc' := 37) d_M_blame_34 rfl fl_M_35 rfl rfl (fun v3 => ?_)
      refine sm_iconst (pc' := 38) d_M_blame_37 rfl ic_1 ?_
      refine sm_iald (pc' := 39) d_M_blame_38 rfl (fun v4 => ?_)
      refine sm_icmp_ge (tgt := 79) (pc' := 42) d_M_blame_39 rfl rfl ?_ ?_
      · refine sm_sub [0, 1, 3] rfl ?_
        exact sm_rt rfl
      · refine sm_iload_n (i := 2) (j := 0) (pc' := 43) d_M_blame_42 rfl rfl rfl (sm_aload_n (i := 0) (j := 3) (pc' := 44) d_M_blame_43 rfl rfl rfl (sm_iload (j := 2) (pc' := 46) d_M_blame_44 rfl rfl ?_))
        refine sm_callVi (ci := 11) (x := x0) (av := [.inl t2.2.2]) (st := [.inl t2.1]) (mc := 0) (ms := 0) (pc' := 49) d_M_blame_46 rfl (sd_M_lovedOf x0 t2.2.2) m_lv rfl cv_M_lovedOf w_ml_M_322 rfl rfl (by decide) (Nat.le_of_ble_eq_true rfl) rfl rfl (fun v5 => ?_)
        refine sm_iadd (pc' := 50) d_M_blame_49 rfl (sm_istore_n (i := 2) (L' := [(2, .inl (t2.1 + v5)), (3, .inl t2.2.1), (4, .inl t2.2.2), (0, .inr (.inr x0)), (1, .inl x1)]) (pc' := 51) d_M_blame_50 rfl rfl (Nat.le_of_ble_eq_true rfl) rfl (sm_iload_n (i := 3) (j := 1) (pc' := 52) d_M_blame_51 rfl rfl rfl (sm_aload_n (i := 0) (j := 3) (pc' := 53) d_M_blame_52 rfl rfl rfl (sm_iload_n (i := 1) (j := 4) (pc' := 54) d_M_blame_53 rfl rfl rfl ?_))))
        refine sm_callVi (ci := 11) (x := x0) (av := [.inl x1]) (st := [.inl t2.2.1]) (mc := 0) (ms := 0) (pc' := 57) d_M_blame_54 rfl (sd_M_showsNow x0 x1) m_lv rfl cv_M_showsNow w_ml_M_313 rfl rfl (by decide) (Nat.le_of_ble_eq_true rfl) rfl rfl (fun v6 => ?_)
        refine sm_bd (mid := fun (t8 : Int32) => .inl (71, [(0, .inr (.inr x0)), (1, .inl x1), (2, .inl (t2.1 + v5)), (4, .inl t2.2.2)], [.inl t8, .inl t2.2.1])) ?_ (fun t8 => ?_)
        · refine sm_if_eq (tgt := 70) (pc' := 60) d_M_blame_57 rfl rfl ?_ ?_
          · refine sm_iconst (pc' := 71) d_M_blame_70 rfl ic_0 (sm_sub [3, 4, 0, 2] rfl ?_)
            exact sm_rt rfl
          · refine sm_aload_n (i := 0) (j := 3) (pc' := 61) d_M_blame_60 rfl rfl rfl (sm_iload_n (i := 1) (j := 4) (pc' := 62) d_M_blame_61 rfl rfl rfl (sm_iload (j := 2) (pc' := 64) d_M_blame_62 rfl rfl ?_))
            refine sm_callVi (ci := 11) (x := x0) (av := [.inl x1, .inl t2.2.2]) (st := [.inl t2.2.1]) (mc := 0) (ms := 0) (pc' := 67) d_M_blame_64 rfl (sd_M_loveOf x0 x1 t2.2.2) m_lv rfl cv_M_loveOf w_ml_M_316 rfl rfl (by decide) (Nat.le_of_ble_eq_true rfl) rfl rfl (fun v7 => ?_)
            refine sm_goto (tgt := 71) d_M_blame_67 rfl (sm_sub [3, 4, 0, 2] rfl ?_)
            exact sm_rt rfl
        · refine sm_iadd (pc' := 72) d_M_blame_71 rfl (sm_istore_n (i := 3) (L' := [(3, .inl (t2.2.1 + t8)), (0, .inr (.inr x0)), (1, .inl x1), (2, .inl (t2.1 + v5)), (4, .inl t2.2.2)]) (pc' := 73) d_M_blame_72 rfl rfl (Nat.le_of_ble_eq_true rfl) rfl (sm_iinc (j := 4) (L' := [(4, .inl (t2.2.2 + 1)), (3, .inl (t2.2.1 + t8)), (0, .inr (.inr x0)), (1, .inl x1), (2, .inl (t2.1 + v5))]) (pc' := 76) d_M_blame_73 rfl (v := (t2.2.2 + 1)) rfl (ix_1 _) (Nat.le_of_ble_eq_true rfl) rfl (sm_goto (tgt := 31) d_M_blame_76 rfl (sm_sub [4, 1, 0, 2, 3] rfl ?_))))
          exact sm_rt rfl
    · refine sm_iload_n (i := 2) (j := 0) (pc' := 80) d_M_blame_79 rfl rfl rfl ?_
      refine sm_if_ne (tgt := 92) (pc' := 83) d_M_blame_80 rfl rfl ?_ ?_
      · refine sm_aload_n (i := 0) (j := 2) (pc' := 93) d_M_blame_92 rfl rfl rfl (sm_iload_n (i := 3) (j := 1) (pc' := 94) d_M_blame_93 rfl rfl rfl (sm_i2l (pc' := 95) d_M_blame_94 rfl (sm_iload_n (i := 2) (j := 0) (pc' := 96) d_M_blame_95 rfl rfl rfl (sm_i2l (pc' := 97) d_M_blame_96 rfl ?_))))
        refine sm_callVi (ci := 11) (x := x0) (av := [.inr (.inl (t9.2).toInt64), .inr (.inl (t9.1).toInt64)]) (st := []) (mc := 0) (ms := 0) (pc' := 100) d_M_blame_97 rfl (sd_M_fraction x0 (t9.2).toInt64 (t9.1).toInt64) m_lv rfl cv_M_fraction w_ml_M_522 rfl rfl (by decide) (Nat.le_of_ble_eq_true rfl) rfl rfl (fun v10 => ?_)
        exact sm_zretC d_M_blame_100 rfl rfl
      · refine sm_aload_n (i := 0) (j := 2) (pc' := 84) d_M_blame_83 rfl rfl rfl (sm_bipush (pc' := 86) d_M_blame_84 rfl ib_8 ?_)
        refine sm_callVi (ci := 11) (x := x0) (av := [.inl 8]) (st := []) (mc := 0) (ms := 0) (pc' := 89) d_M_blame_86 rfl (sd_M_no x0 8) m_lv rfl cv_M_no w_ml_M_96 rfl rfl (by decide) (Nat.le_of_ble_eq_true rfl) rfl rfl (fun v11 => ?_)
        refine sm_goto (tgt := 100) d_M_blame_89 rfl ?_
        exact sm_zretC d_M_blame_100 rfl rfl
  · refine sm_aload_n (i := 0) (j := 0) (pc' := 19) d_M_blame_18 rfl rfl rfl (sm_iconst (pc' := 20) d_M_blame_19 rfl ic_2 ?_)
    refine sm_callVi (ci := 11) (x := x0) (av := [.inl 2]) (st := []) (mc := 0) (ms := 0) (pc' := 23) d_M_blame_20 rfl (sd_M_no x0 2) m_lv rfl cv_M_no w_ml_M_96 rfl rfl (by decide) (Nat.le_of_ble_eq_true rfl) rfl rfl (fun v12 => ?_)
    exact sm_zretC d_M_blame_23 rfl rfl
theorem d_M_doAll_0 : m_D k_M_doAll 0 (.iload_n 1) 1 := (by decide +kernel : decode prog_14_method_161_code 0 = .ok (.iload_n 1, 1))
theorem d_M_doAll_1 : m_D k_M_doAll 1 (.istore_n 3) 1 := (by decide +kernel : decode prog_14_method_161_code 1 = .ok (.istore_n 3, 1))
theorem d_M_doAll_2 : m_D k_M_doAll 2 (.iload_n 3) 1 := (by decide +kernel : decode prog_14_method_161_code 2 = .ok (.iload_n 3, 1))
theorem d_M_doAll_3 : m_D k_M_doAll 3 (.iload_n 2) 1 := (by decide +kernel : decode prog_14_method_161_code 3 = .ok (.iload_n 2, 1))
theorem d_M_doAll_4 : m_D k_M_doAll 4 (.if_icmp .ge 34) 3 := (by decide +kernel : decode prog_14_method_161_code 4 = .ok (.if_icmp .ge 34, 3))
theorem d_M_doAll_7 : m_D k_M_doAll 7 (.aload_n 0) 1 := (by decide +kernel : decode prog_14_method_161_code 7 = .ok (.aload_n 0, 1))
theorem d_M_doAll_8 : m_D k_M_doAll 8 (.getfield 557) 3 := (by decide +kernel : decode prog_14_method_161_code 8 = .ok (.getfield 557, 3))
theorem d_M_doAll_11 : m_D k_M_doAll 11 (.ifCond .ne 27) 3 := (by decide +kernel : decode prog_14_method_161_code 11 = .ok (.ifCond .ne 27, 3))
theorem d_M_doAll_14 : m_D k_M_doAll 14 (.aload_n 0) 1 := (by decide +kernel : decode prog_14_method_161_code 14 = .ok (.aload_n 0, 1))
theorem d_M_doAll_15 : m_D k_M_doAll 15 (.iload_n 3) 1 := (by decide +kernel : decode prog_14_method_161_code 15 = .ok (.iload_n 3, 1))
theorem d_M_doAll_16 : m_D k_M_doAll 16 (.invokevirtual 576) 3 := (by decide +kernel : decode prog_14_method_161_code 16 = .ok (.invokevirtual 576, 3))
theorem d_M_doAll_19 : m_D k_M_doAll 19 (.aload_n 0) 1 := (by decide +kernel : decode prog_14_method_161_code 19 = .ok (.aload_n 0, 1))
theorem d_M_doAll_20 : m_D k_M_doAll 20 (.getfield 35) 3 := (by decide +kernel : decode prog_14_method_161_code 20 = .ok (.getfield 35, 3))
theorem d_M_doAll_23 : m_D k_M_doAll 23 (.bipush 107) 2 := (by decide +kernel : decode prog_14_method_161_code 23 = .ok (.bipush 107, 2))
theorem d_M_doAll_25 : m_D k_M_doAll 25 (.bipush 9) 2 := (by decide +kernel : decode prog_14_method_161_code 25 = .ok (.bipush 9, 2))
theorem d_M_doAll_27 : m_D k_M_doAll 27 (.iload_n 3) 1 := (by decide +kernel : decode prog_14_method_161_code 27 = .ok (.iload_n 3, 1))
theorem d_M_doAll_28 : m_D k_M_doAll 28 (.imul) 1 := (by decide +kernel : decode prog_14_method_161_code 28 = .ok (.imul, 1))
theorem d_M_doAll_29 : m_D k_M_doAll 29 (.iadd) 1 := (by decide +kernel : decode prog_14_method_161_code 29 = .ok (.iadd, 1))
theorem d_M_doAll_30 : m_D k_M_doAll 30 (.bipush 8) 2 := (by decide +kernel : decode prog_14_method_161_code 30 = .ok (.bipush 8, 2))
theorem d_M_doAll_32 : m_D k_M_doAll 32 (.iadd) 1 := (by decide +kernel : decode prog_14_method_161_code 32 = .ok (.iadd, 1))
theorem d_M_doAll_33 : m_D k_M_doAll 33 (.iaload) 1 := (by decide +kernel : decode prog_14_method_161_code 33 = .ok (.iaload, 1))
theorem d_M_doAll_34 : m_D k_M_doAll 34 (.istore_n 3) 1 := (by decide +kernel : decode prog_14_method_161_code 34 = .ok (.istore_n 3, 1))
theorem d_M_doAll_35 : m_D k_M_doAll 35 (.goto (-33)) 3 := (by decide +kernel : decode prog_14_method_161_code 35 = .ok (.goto (-33), 3))
theorem d_M_doAll_38 : m_D k_M_doAll 38 (.return_) 1 := (by decide +kernel : decode prog_14_method_161_code 38 = .ok (.return_, 1))
def fn_M_doAll_l2 (r : Option mA → Int32 → mP Unit) (x0 : Option mA) (x2 : Int32) (t1 : Int32) : mP ((Int32) ⊕ (Unit)) :=
  if x2 ≤ t1 then
    m_rt (.inr ())
  else
    m_bd (m_gI 11 44 x0) fun v2 =>
    if v2 = 0 then
      m_bd (r x0 t1) fun _ =>
      m_bd (m_gR 11 20 x0) fun v3 =>
      m_bd (m_aI 0 v3 ((107 + (9 * t1)) + 8)) fun v4 =>
      m_rt (.inl v4)
    else
      m_rt (.inr ())
def fn_M_doAll (r : Option mA → Int32 → mP Unit) (x0 : Option mA) (x1 : Int32) (x2 : Int32) : mP Unit :=
  m_th 11 x0 <|
  m_bd (m_lp (fn_M_doAll_l2 r x0 x2) m_F x1) fun (t5 : Unit) =>
  m_rt ()
set_option maxHeartbeats 4000000 in
set_option maxRecDepth 100000 in
theorem sd_M_doAll (r : Option mA → Int32 → mP Unit) (dr : Nat) (hr : ∀ (y0 : Option mA) (y1 : Int32), m_Sm k_M_doOne dr 0 0 [.inr (.inr y0), .inl y1] (r y0 y1) (fun _ => none)) (hv : ∀ (y0 : Option mA) (y1 : Int32), m_Lv 11 y0 (r y0 y1)) (x0 : Option mA) (x1 : Int32) (x2 : Int32) : m_Sm k_M_doAll ((max 1 (dr + 1))) 0 0 [.inr (.inr x0), .inl x1, .inl x2] (fn_M_doAll r x0 x1 x2) (fun _ => none) := by
  refine ⟨Nat.le_of_ble_eq_true rfl, ?_⟩
  refine sm_th ?_
  refine sm_iload_n (i := 1) (j := 1) (pc' := 1) d_M_doAll_0 rfl rfl rfl (sm_istore_n (i := 3) (L' := [(3, .inl x1), (0, .inr (.inr x0)), (1, .inl x1), (2, .inl x2)]) (pc' := 2) d_M_doAll_1 rfl rfl (Nat.le_of_ble_eq_true rfl) rfl ?_)
  refine sm_sub [0, 1, 3] rfl ?_
  refine sm_bd (mid := fun (t5 : Unit) => .inl (38, [], [])) (sm_lp (hd := fun (t1 : Int32) => (.inl (2, [(3, .inl t1), (0, .inr (.inr x0)), (2, .inl x2)], []) : mC)) (fun t1 => ?_) m_F x1) (fun t5 => ?_)
  · refine sm_iload_n (i := 3) (j := 0) (pc' := 3) d_M_doAll_2 rfl rfl rfl (sm_iload_n (i := 2) (j := 2) (pc' := 4) d_M_doAll_3 rfl rfl rfl ?_)
    refine sm_icmp_ge (tgt := 38) (pc' := 7) d_M_doAll_4 rfl rfl ?_ ?_
    · refine sm_sub [] rfl ?_
      exact sm_rt rfl
    · refine sm_aload_n (i := 0) (j := 1) (pc' := 8) d_M_doAll_7 rfl rfl rfl ?_
      refine sm_getI (pc' := 11) d_M_doAll_8 rfl fl_M_557 rfl ⟨by decide, by decide⟩ (fun v2 => ?_)
      refine sm_if_ne (tgt := 38) (pc' := 14) d_M_doAll_11 rfl rfl ?_ ?_
      · refine sm_sub [] rfl ?_
        exact sm_rt rfl
      · refine sm_aload_n (i := 0) (j := 1) (pc' := 15) d_M_doAll_14 rfl rfl rfl (sm_iload_n (i := 3) (j := 0) (pc' := 16) d_M_doAll_15 rfl rfl rfl ?_)
        refine sm_callVv (ci := 11) (x := x0) (av := [.inl t1]) (st := []) (mc := 0) (ms := 0) (pc' := 19) d_M_doAll_16 rfl (hr x0 t1) (hv x0 t1) rfl cv_M_doOne w_ml_M_576 rfl rfl (by omega) (Nat.le_of_ble_eq_true rfl) rfl rfl ?_
        refine sm_aload_n (i := 0) (j := 1) (pc' := 20) d_M_doAll_19 rfl rfl rfl ?_
        refine sm_getR (pc' := 23) d_M_doAll_20 rfl fl_M_35 rfl rfl (fun v3 => ?_)
        refine sm_bipush (pc' := 25) d_M_doAll_23 rfl ib_107 (sm_bipush (pc' := 27) d_M_doAll_25 rfl ib_9 (sm_iload_n (i := 3) (j := 0) (pc' := 28) d_M_doAll_27 rfl rfl rfl (sm_imul (pc' := 29) d_M_doAll_28 rfl (sm_iadd (pc' := 30) d_M_doAll_29 rfl (sm_bipush (pc' := 32) d_M_doAll_30 rfl ib_8 (sm_iadd (pc' := 33) d_M_doAll_32 rfl ?_))))))
        refine sm_iald (pc' := 34) d_M_doAll_33 rfl (fun v4 => ?_)
        refine sm_istore_n (i := 3) (L' := [(3, .inl v4), (0, .inr (.inr x0)), (2, .inl x2)]) (pc' := 35) d_M_doAll_34 rfl rfl (Nat.le_of_ble_eq_true rfl) rfl (sm_goto (tgt := 2) d_M_doAll_35 rfl (sm_sub [0, 1, 2] rfl ?_))
        exact sm_rt rfl
  · exact sm_return d_M_doAll_38 rfl rfl
theorem d_M_anyYears_0 : m_D k_M_anyYears 0 (.aload_n 0) 1 := (by decide +kernel : decode prog_14_method_153_code 0 = .ok (.aload_n 0, 1))
theorem d_M_anyYears_1 : m_D k_M_anyYears 1 (.getfield 35) 3 := (by decide +kernel : decode prog_14_method_153_code 1 = .ok (.getfield 35, 3))
theorem d_M_anyYears_4 : m_D k_M_anyYears 4 (.bipush 6) 2 := (by decide +kernel : decode prog_14_method_153_code 4 = .ok (.bipush 6, 2))
theorem d_M_anyYears_6 : m_D k_M_anyYears 6 (.iaload) 1 := (by decide +kernel : decode prog_14_method_153_code 6 = .ok (.iaload, 1))
theorem d_M_anyYears_7 : m_D k_M_anyYears 7 (.iload_n 1) 1 := (by decide +kernel : decode prog_14_method_153_code 7 = .ok (.iload_n 1, 1))
theorem d_M_anyYears_8 : m_D k_M_anyYears 8 (.iadd) 1 := (by decide +kernel : decode prog_14_method_153_code 8 = .ok (.iadd, 1))
theorem d_M_anyYears_9 : m_D k_M_anyYears 9 (.sipush 9999) 3 := (by decide +kernel : decode prog_14_method_153_code 9 = .ok (.sipush 9999, 3))
theorem d_M_anyYears_12 : m_D k_M_anyYears 12 (.if_icmp .le 5) 3 := (by decide +kernel : decode prog_14_method_153_code 12 = .ok (.if_icmp .le 5, 3))
theorem d_M_anyYears_15 : m_D k_M_anyYears 15 (.iconst 0) 1 := (by decide +kernel : decode prog_14_method_153_code 15 = .ok (.iconst 0, 1))
theorem d_M_anyYears_16 : m_D k_M_anyYears 16 (.ireturn) 1 := (by decide +kernel : decode prog_14_method_153_code 16 = .ok (.ireturn, 1))
theorem d_M_anyYears_17 : m_D k_M_anyYears 17 (.aload_n 0) 1 := (by decide +kernel : decode prog_14_method_153_code 17 = .ok (.aload_n 0, 1))
theorem d_M_anyYears_18 : m_D k_M_anyYears 18 (.invokevirtual 340) 3 := (by decide +kernel : decode prog_14_method_153_code 18 = .ok (.invokevirtual 340, 3))
theorem d_M_anyYears_21 : m_D k_M_anyYears 21 (.istore_n 2) 1 := (by decide +kernel : decode prog_14_method_153_code 21 = .ok (.istore_n 2, 1))
theorem d_M_anyYears_22 : m_D k_M_anyYears 22 (.iconst 0) 1 := (by decide +kernel : decode prog_14_method_153_code 22 = .ok (.iconst 0, 1))
theorem d_M_anyYears_23 : m_D k_M_anyYears 23 (.istore_n 3) 1 := (by decide +kernel : decode prog_14_method_153_code 23 = .ok (.istore_n 3, 1))
theorem d_M_anyYears_24 : m_D k_M_anyYears 24 (.iload_n 3) 1 := (by decide +kernel : decode prog_14_method_153_code 24 = .ok (.iload_n 3, 1))
theorem d_M_anyYears_25 : m_D k_M_anyYears 25 (.iload_n 1) 1 := (by decide +kernel : decode prog_14_method_153_code 25 = .ok (.iload_n 1, 1))
theorem d_M_anyYears_26 : m_D k_M_anyYears 26 (.if_icmp .ge 13) 3 := (by decide +kernel : decode prog_14_method_153_code 26 = .ok (.if_icmp .ge 13, 3))
theorem d_M_anyYears_29 : m_D k_M_anyYears 29 (.aload_n 0) 1 := (by decide +kernel : decode prog_14_method_153_code 29 = .ok (.aload_n 0, 1))
theorem d_M_anyYears_30 : m_D k_M_anyYears 30 (.invokevirtual 386) 3 := (by decide +kernel : decode prog_14_method_153_code 30 = .ok (.invokevirtual 386, 3))
theorem d_M_anyYears_33 : m_D k_M_anyYears 33 (.iinc 3 1) 3 := (by decide +kernel : decode prog_14_method_153_code 33 = .ok (.iinc 3 1, 3))
theorem d_M_anyYears_36 : m_D k_M_anyYears 36 (.goto (-12)) 3 := (by decide +kernel : decode prog_14_method_153_code 36 = .ok (.goto (-12), 3))
theorem d_M_anyYears_39 : m_D k_M_anyYears 39 (.aload_n 0) 1 := (by decide +kernel : decode prog_14_method_153_code 39 = .ok (.aload_n 0, 1))
theorem d_M_anyYears_40 : m_D k_M_anyYears 40 (.dup) 1 := (by decide +kernel : decode prog_14_method_153_code 40 = .ok (.dup, 1))
theorem d_M_anyYears_41 : m_D k_M_anyYears 41 (.getfield 530) 3 := (by decide +kernel : decode prog_14_method_153_code 41 = .ok (.getfield 530, 3))
theorem d_M_anyYears_44 : m_D k_M_anyYears 44 (.aload_n 0) 1 := (by decide +kernel : decode prog_14_method_153_code 44 = .ok (.aload_n 0, 1))
theorem d_M_anyYears_45 : m_D k_M_anyYears 45 (.invokevirtual 340) 3 := (by decide +kernel : decode prog_14_method_153_code 45 = .ok (.invokevirtual 340, 3))
theorem d_M_anyYears_48 : m_D k_M_anyYears 48 (.iload_n 2) 1 := (by decide +kernel : decode prog_14_method_153_code 48 = .ok (.iload_n 2, 1))
theorem d_M_anyYears_49 : m_D k_M_anyYears 49 (.iconst (-1)) 1 := (by decide +kernel : decode prog_14_method_153_code 49 = .ok (.iconst (-1), 1))
theorem d_M_anyYears_50 : m_D k_M_anyYears 50 (.ixor) 1 := (by decide +kernel : decode prog_14_method_153_code 50 = .ok (.ixor, 1))
theorem d_M_anyYears_51 : m_D k_M_anyYears 51 (.iand) 1 := (by decide +kernel : decode prog_14_method_153_code 51 = .ok (.iand, 1))
theorem d_M_anyYears_52 : m_D k_M_anyYears 52 (.invokestatic 429) 3 := (by decide +kernel : decode prog_14_method_153_code 52 = .ok (.invokestatic 429, 3))
theorem d_M_anyYears_55 : m_D k_M_anyYears 55 (.iadd) 1 := (by decide +kernel : decode prog_14_method_153_code 55 = .ok (.iadd, 1))
theorem d_M_anyYears_56 : m_D k_M_anyYears 56 (.putfield 530) 3 := (by decide +kernel : decode prog_14_method_153_code 56 = .ok (.putfield 530, 3))
theorem d_M_anyYears_59 : m_D k_M_anyYears 59 (.aload_n 0) 1 := (by decide +kernel : decode prog_14_method_153_code 59 = .ok (.aload_n 0, 1))
theorem d_M_anyYears_60 : m_D k_M_anyYears 60 (.dup) 1 := (by decide +kernel : decode prog_14_method_153_code 60 = .ok (.dup, 1))
theorem d_M_anyYears_61 : m_D k_M_anyYears 61 (.getfield 533) 3 := (by decide +kernel : decode prog_14_method_153_code 61 = .ok (.getfield 533, 3))
theorem d_M_anyYears_64 : m_D k_M_anyYears 64 (.iload_n 1) 1 := (by decide +kernel : decode prog_14_method_153_code 64 = .ok (.iload_n 1, 1))
theorem d_M_anyYears_65 : m_D k_M_anyYears 65 (.iadd) 1 := (by decide +kernel : decode prog_14_method_153_code 65 = .ok (.iadd, 1))
theorem d_M_anyYears_66 : m_D k_M_anyYears 66 (.putfield 533) 3 := (by decide +kernel : decode prog_14_method_153_code 66 = .ok (.putfield 533, 3))
theorem d_M_anyYears_69 : m_D k_M_anyYears 69 (.iconst 1) 1 := (by decide +kernel : decode prog_14_method_153_code 69 = .ok (.iconst 1, 1))
theorem d_M_anyYears_70 : m_D k_M_anyYears 70 (.ireturn) 1 := (by decide +kernel : decode prog_14_method_153_code 70 = .ok (.ireturn, 1))
def fn_M_anyYears_l24 (x0 : Option mA) (x1 : Int32) (t4 : Int32) : mP ((Int32) ⊕ (Unit)) :=
  if x1 ≤ t4 then
    m_rt (.inr ())
  else
    m_bd (fn_M_goesYear x0) fun _ =>
    m_rt (.inl (t4 + 1))
def fn_M_anyYears (x0 : Option mA) (x1 : Int32) : mP Int32 :=
  m_th 11 x0 <|
  m_bd (m_gR 11 20 x0) fun v1 =>
  m_bd (m_aI 0 v1 6) fun v2 =>
  if (v2 + x1) ≤ 9999 then
    m_bd (fn_M_throughs x0) fun v3 =>
    m_bd (m_lp (fn_M_anyYears_l24 x0 x1) m_F 0) fun (t5 : Unit) =>
    m_bd (m_gI 11 49 x0) fun v6 =>
    m_bd (fn_M_throughs x0) fun v7 =>
    m_bd (fn_M_sizeOf (v7 &&& (v3 ^^^ (-1)))) fun v8 =>
    m_bd (m_pI 11 49 x0 (v6 + v8)) fun _ =>
    m_bd (m_gI 11 48 x0) fun v9 =>
    m_bd (m_pI 11 48 x0 (v9 + x1)) fun _ =>
    m_rt 1
  else
    m_rt 0
set_option maxHeartbeats 4000000 in
set_option maxRecDepth 100000 in
theorem sd_M_anyYears (x0 : Option mA) (x1 : Int32) : m_Sm k_M_anyYears 5 0 0 [.inr (.inr x0), .inl x1] (fn_M_anyYears x0 x1) (fun b => some (.inl b)) := by
  refine ⟨Nat.le_of_ble_eq_true rfl, ?_⟩
  refine sm_th ?_
  refine sm_aload_n (i := 0) (j := 0) (pc' := 1) d_M_anyYears_0 rfl rfl rfl ?_
  refine sm_getR (pc' := 4) d_M_anyYears_1 rfl fl_M_35 rfl rfl (fun v1 => ?_)
  refine sm_bipush (pc' := 6) d_M_anyYears_4 rfl ib_6 ?_
  refine sm_iald (pc' := 7) d_M_anyYears_6 rfl (fun v2 => ?_)
  refine sm_iload_n (i := 1) (j := 1) (pc' := 8) d_M_anyYears_7 rfl rfl rfl (sm_iadd (pc' := 9) d_M_anyYears_8 rfl (sm_sipush (pc' := 12) d_M_anyYears_9 rfl is_9999 ?_))
  refine sm_icmp_le (tgt := 17) (pc' := 15) d_M_anyYears_12 rfl rfl ?_ ?_
  · refine sm_aload_n (i := 0) (j := 0) (pc' := 18) d_M_anyYears_17 rfl rfl rfl ?_
    refine sm_callVi (ci := 11) (x := x0) (av := []) (st := []) (mc := 0) (ms := 0) (pc' := 21) d_M_anyYears_18 rfl (sd_M_throughs x0) m_lv rfl cv_M_throughs w_ml_M_340 rfl rfl (by decide) (Nat.le_of_ble_eq_true rfl) rfl rfl (fun v3 => ?_)
    refine sm_istore_n (i := 2) (L' := [(2, .inl v3), (0, .inr (.inr x0)), (1, .inl x1)]) (pc' := 22) d_M_anyYears_21 rfl rfl (Nat.le_of_ble_eq_true rfl) rfl (sm_iconst (pc' := 23) d_M_anyYears_22 rfl ic_0 (sm_istore_n (i := 3) (L' := [(3, .inl 0), (2, .inl v3), (0, .inr (.inr x0)), (1, .inl x1)]) (pc' := 24) d_M_anyYears_23 rfl rfl (Nat.le_of_ble_eq_true rfl) rfl ?_))
    refine sm_sub [0, 2, 3, 1] rfl ?_
    refine sm_bd (mid := fun (t5 : Unit) => .inl (39, [(0, .inr (.inr x0)), (1, .inl x1), (2, .inl v3)], [])) (sm_lp (hd := fun (t4 : Int32) => (.inl (24, [(3, .inl t4), (0, .inr (.inr x0)), (1, .inl x1), (2, .inl v3)], []) : mC)) (fun t4 => ?_) m_F 0) (fun t5 => ?_)
    · refine sm_iload_n (i := 3) (j := 0) (pc' := 25) d_M_anyYears_24 rfl rfl rfl (sm_iload_n (i := 1) (j := 2) (pc' := 26) d_M_anyYears_25 rfl rfl rfl ?_)
      refine sm_icmp_ge (tgt := 39) (pc' := 29) d_M_anyYears_26 rfl rfl ?_ ?_
      · refine sm_sub [1, 2, 3] rfl ?_
        exact sm_rt rfl
      · refine sm_aload_n (i := 0) (j := 1) (pc' := 30) d_M_anyYears_29 rfl rfl rfl ?_
        refine sm_callVv (ci := 11) (x := x0) (av := []) (st := []) (mc := 0) (ms := 0) (pc' := 33) d_M_anyYears_30 rfl (sd_M_goesYear x0) m_lv rfl cv_M_goesYear w_ml_M_386 rfl rfl (by decide) (Nat.le_of_ble_eq_true rfl) rfl rfl ?_
        refine sm_iinc (j := 0) (L' := [(3, .inl (t4 + 1)), (0, .inr (.inr x0)), (1, .inl x1), (2, .inl v3)]) (pc' := 36) d_M_anyYears_33 rfl (v := (t4 + 1)) rfl (ix_1 _) (Nat.le_of_ble_eq_true rfl) rfl (sm_goto (tgt := 24) d_M_anyYears_36 rfl (sm_sub [0, 1, 2, 3] rfl ?_))
        exact sm_rt rfl
    · refine sm_aload_n (i := 0) (j := 0) (pc' := 40) d_M_anyYears_39 rfl rfl rfl (sm_dup (pc' := 41) d_M_anyYears_40 rfl rfl ?_)
      refine sm_getI (pc' := 44) d_M_anyYears_41 rfl fl_M_530 rfl ⟨by decide, by decide⟩ (fun v6 => ?_)
      refine sm_aload_n (i := 0) (j := 0) (pc' := 45) d_M_anyYears_44 rfl rfl rfl ?_
      refine sm_callVi (ci := 11) (x := x0) (av := []) (st := [.inl v6, .inr (.inr x0)]) (mc := 0) (ms := 0) (pc' := 48) d_M_anyYears_45 rfl (sd_M_throughs x0) m_lv rfl cv_M_throughs w_ml_M_340 rfl rfl (by decide) (Nat.le_of_ble_eq_true rfl) rfl rfl (fun v7 => ?_)
      refine sm_iload_n (i := 2) (j := 2) (pc' := 49) d_M_anyYears_48 rfl rfl rfl (sm_iconst (pc' := 50) d_M_anyYears_49 rfl ic_m1 (sm_ixor (pc' := 51) d_M_anyYears_50 rfl (sm_iand (pc' := 52) d_M_anyYears_51 rfl ?_)))
      refine sm_callSi (av := [.inl (v7 &&& (v3 ^^^ (-1)))]) (st := [.inl v6, .inr (.inr x0)]) (mc := 0) (ms := 0) (pc' := 55) d_M_anyYears_52 rfl (sd_M_sizeOf (v7 &&& (v3 ^^^ (-1)))) cs_M_sizeOf w_ml_M_429 rfl rfl (by decide) (Nat.le_of_ble_eq_true rfl) rfl rfl (fun v8 => ?_)
      refine sm_iadd (pc' := 56) d_M_anyYears_55 rfl (sm_putI (pc' := 59) d_M_anyYears_56 rfl fl_M_530 (Or.inl rfl) rfl (sm_aload_n (i := 0) (j := 0) (pc' := 60) d_M_anyYears_59 rfl rfl rfl (sm_dup (pc' := 61) d_M_anyYears_60 rfl rfl ?_)))
      refine sm_getI (pc' := 64) d_M_anyYears_61 rfl fl_M_533 rfl ⟨by decide, by decide⟩ (fun v9 => ?_)
      refine sm_iload_n (i := 1) (j := 1) (pc' := 65) d_M_anyYears_64 rfl rfl rfl (sm_iadd (pc' := 66) d_M_anyYears_65 rfl (sm_putI (pc' := 69) d_M_anyYears_66 rfl fl_M_533 (Or.inl rfl) rfl (sm_iconst (pc' := 70) d_M_anyYears_69 rfl ic_1 ?_)))
      exact sm_zreturn d_M_anyYears_70 rfl (by decide) rfl
  · refine sm_iconst (pc' := 16) d_M_anyYears_15 rfl ic_0 ?_
    exact sm_zreturn d_M_anyYears_16 rfl (by decide) rfl
theorem d_M_becomes_0 : m_D k_M_becomes 0 (.aload_n 0) 1 := (by decide +kernel : decode prog_14_method_154_code 0 = .ok (.aload_n 0, 1))
theorem d_M_becomes_1 : m_D k_M_becomes 1 (.getfield 35) 3 := (by decide +kernel : decode prog_14_method_154_code 1 = .ok (.getfield 35, 3))
theorem d_M_becomes_4 : m_D k_M_becomes 4 (.iload_n 1) 1 := (by decide +kernel : decode prog_14_method_154_code 4 = .ok (.iload_n 1, 1))
theorem d_M_becomes_5 : m_D k_M_becomes 5 (.iaload) 1 := (by decide +kernel : decode prog_14_method_154_code 5 = .ok (.iaload, 1))
theorem d_M_becomes_6 : m_D k_M_becomes 6 (.iload_n 2) 1 := (by decide +kernel : decode prog_14_method_154_code 6 = .ok (.iload_n 2, 1))
theorem d_M_becomes_7 : m_D k_M_becomes 7 (.if_icmp .ne 5) 3 := (by decide +kernel : decode prog_14_method_154_code 7 = .ok (.if_icmp .ne 5, 3))
theorem d_M_becomes_10 : m_D k_M_becomes 10 (.iconst 0) 1 := (by decide +kernel : decode prog_14_method_154_code 10 = .ok (.iconst 0, 1))
theorem d_M_becomes_11 : m_D k_M_becomes 11 (.ireturn) 1 := (by decide +kernel : decode prog_14_method_154_code 11 = .ok (.ireturn, 1))
theorem d_M_becomes_12 : m_D k_M_becomes 12 (.aload_n 0) 1 := (by decide +kernel : decode prog_14_method_154_code 12 = .ok (.aload_n 0, 1))
theorem d_M_becomes_13 : m_D k_M_becomes 13 (.getfield 35) 3 := (by decide +kernel : decode prog_14_method_154_code 13 = .ok (.getfield 35, 3))
theorem d_M_becomes_16 : m_D k_M_becomes 16 (.iload_n 1) 1 := (by decide +kernel : decode prog_14_method_154_code 16 = .ok (.iload_n 1, 1))
theorem d_M_becomes_17 : m_D k_M_becomes 17 (.iload_n 2) 1 := (by decide +kernel : decode prog_14_method_154_code 17 = .ok (.iload_n 2, 1))
theorem d_M_becomes_18 : m_D k_M_becomes 18 (.iastore) 1 := (by decide +kernel : decode prog_14_method_154_code 18 = .ok (.iastore, 1))
theorem d_M_becomes_19 : m_D k_M_becomes 19 (.iconst 1) 1 := (by decide +kernel : decode prog_14_method_154_code 19 = .ok (.iconst 1, 1))
theorem d_M_becomes_20 : m_D k_M_becomes 20 (.ireturn) 1 := (by decide +kernel : decode prog_14_method_154_code 20 = .ok (.ireturn, 1))
def fn_M_becomes (x0 : Option mA) (x1 : Int32) (x2 : Int32) : mP Int32 :=
  m_th 11 x0 <|
  m_bd (m_gR 11 20 x0) fun v1 =>
  m_bd (m_aI 0 v1 x1) fun v2 =>
  if v2 = x2 then
    m_rt 0
  else
    m_bd (m_gR 11 20 x0) fun v3 =>
    m_bd (m_tI 0 v3 x1 x2) fun _ =>
    m_rt 1
set_option maxHeartbeats 4000000 in
set_option maxRecDepth 100000 in
theorem sd_M_becomes (x0 : Option mA) (x1 : Int32) (x2 : Int32) : m_Sm k_M_becomes 1 0 0 [.inr (.inr x0), .inl x1, .inl x2] (fn_M_becomes x0 x1 x2) (fun b => some (.inl b)) := by
  refine ⟨Nat.le_of_ble_eq_true rfl, ?_⟩
  refine sm_th ?_
  refine sm_aload_n (i := 0) (j := 0) (pc' := 1) d_M_becomes_0 rfl rfl rfl ?_
  refine sm_getR (pc' := 4) d_M_becomes_1 rfl fl_M_35 rfl rfl (fun v1 => ?_)
  refine sm_iload_n (i := 1) (j := 1) (pc' := 5) d_M_becomes_4 rfl rfl rfl ?_
  refine sm_iald (pc' := 6) d_M_becomes_5 rfl (fun v2 => ?_)
  refine sm_iload_n (i := 2) (j := 2) (pc' := 7) d_M_becomes_6 rfl rfl rfl ?_
  refine sm_icmp_ne (tgt := 12) (pc' := 10) d_M_becomes_7 rfl rfl ?_ ?_
  · refine sm_aload_n (i := 0) (j := 0) (pc' := 13) d_M_becomes_12 rfl rfl rfl ?_
    refine sm_getR (pc' := 16) d_M_becomes_13 rfl fl_M_35 rfl rfl (fun v3 => ?_)
    refine sm_iload_n (i := 1) (j := 1) (pc' := 17) d_M_becomes_16 rfl rfl rfl (sm_iload_n (i := 2) (j := 2) (pc' := 18) d_M_becomes_17 rfl rfl rfl (sm_iast (pc' := 19) d_M_becomes_18 rfl (sm_iconst (pc' := 20) d_M_becomes_19 rfl ic_1 ?_)))
    exact sm_zreturn d_M_becomes_20 rfl (by decide) rfl
  · refine sm_iconst (pc' := 11) d_M_becomes_10 rfl ic_0 ?_
    exact sm_zreturn d_M_becomes_11 rfl (by decide) rfl
theorem d_M_draw_0 : m_D k_M_draw 0 (.aload_n 0) 1 := (by decide +kernel : decode prog_14_method_152_code 0 = .ok (.aload_n 0, 1))
theorem d_M_draw_1 : m_D k_M_draw 1 (.aload_n 0) 1 := (by decide +kernel : decode prog_14_method_152_code 1 = .ok (.aload_n 0, 1))
theorem d_M_draw_2 : m_D k_M_draw 2 (.getfield 526) 3 := (by decide +kernel : decode prog_14_method_152_code 2 = .ok (.getfield 526, 3))
theorem d_M_draw_5 : m_D k_M_draw 5 (.sipush 2971) 3 := (by decide +kernel : decode prog_14_method_152_code 5 = .ok (.sipush 2971, 3))
theorem d_M_draw_8 : m_D k_M_draw 8 (.imul) 1 := (by decide +kernel : decode prog_14_method_152_code 8 = .ok (.imul, 1))
theorem d_M_draw_9 : m_D k_M_draw 9 (.sipush 10831) 3 := (by decide +kernel : decode prog_14_method_152_code 9 = .ok (.sipush 10831, 3))
theorem d_M_draw_12 : m_D k_M_draw 12 (.iadd) 1 := (by decide +kernel : decode prog_14_method_152_code 12 = .ok (.iadd, 1))
theorem d_M_draw_13 : m_D k_M_draw 13 (.ldc_w 529) 3 := (by decide +kernel : decode prog_14_method_152_code 13 = .ok (.ldc_w 529, 3))
theorem d_M_draw_16 : m_D k_M_draw 16 (.irem) 1 := (by decide +kernel : decode prog_14_method_152_code 16 = .ok (.irem, 1))
theorem d_M_draw_17 : m_D k_M_draw 17 (.putfield 526) 3 := (by decide +kernel : decode prog_14_method_152_code 17 = .ok (.putfield 526, 3))
theorem d_M_draw_20 : m_D k_M_draw 20 (.aload_n 0) 1 := (by decide +kernel : decode prog_14_method_152_code 20 = .ok (.aload_n 0, 1))
theorem d_M_draw_21 : m_D k_M_draw 21 (.getfield 526) 3 := (by decide +kernel : decode prog_14_method_152_code 21 = .ok (.getfield 526, 3))
theorem d_M_draw_24 : m_D k_M_draw 24 (.bipush 8) 2 := (by decide +kernel : decode prog_14_method_152_code 24 = .ok (.bipush 8, 2))
theorem d_M_draw_26 : m_D k_M_draw 26 (.idiv) 1 := (by decide +kernel : decode prog_14_method_152_code 26 = .ok (.idiv, 1))
theorem d_M_draw_27 : m_D k_M_draw 27 (.iload_n 1) 1 := (by decide +kernel : decode prog_14_method_152_code 27 = .ok (.iload_n 1, 1))
theorem d_M_draw_28 : m_D k_M_draw 28 (.irem) 1 := (by decide +kernel : decode prog_14_method_152_code 28 = .ok (.irem, 1))
theorem d_M_draw_29 : m_D k_M_draw 29 (.ireturn) 1 := (by decide +kernel : decode prog_14_method_152_code 29 = .ok (.ireturn, 1))
def fn_M_draw (x0 : Option mA) (x1 : Int32) : mP Int32 :=
  m_th 11 x0 <|
  m_bd (m_gI 11 45 x0) fun v1 =>
  m_bd (m_pI 11 45 x0 (iR ((v1 * 2971) + 10831) 65536)) fun _ =>
  m_bd (m_gI 11 45 x0) fun v2 =>
  m_bd (m_nz x1) fun _ =>
  m_rt (iR (v2 / 8) x1)
set_option maxHeartbeats 4000000 in
set_option maxRecDepth 100000 in
theorem sd_M_draw (x0 : Option mA) (x1 : Int32) : m_Sm k_M_draw 1 0 0 [.inr (.inr x0), .inl x1] (fn_M_draw x0 x1) (fun b => some (.inl b)) := by
  refine ⟨Nat.le_of_ble_eq_true rfl, ?_⟩
  refine sm_th ?_
  refine sm_aload_n (i := 0) (j := 0) (pc' := 1) d_M_draw_0 rfl rfl rfl (sm_aload_n (i := 0) (j := 0) (pc' := 2) d_M_draw_1 rfl rfl rfl ?_)
  refine sm_getI (pc' := 5) d_M_draw_2 rfl fl_M_526 rfl ⟨by decide, by decide⟩ (fun v1 => ?_)
  refine sm_sipush (pc' := 8) d_M_draw_5 rfl is_2971 (sm_imul (pc' := 9) d_M_draw_8 rfl (sm_sipush (pc' := 12) d_M_draw_9 rfl is_10831 (sm_iadd (pc' := 13) d_M_draw_12 rfl (sm_ldcw (v := 65536) (pc' := 16) d_M_draw_13 rfl w_ci_M_529 (sm_irem (pc' := 17) d_M_draw_16 rfl (by decide) (sm_putI (pc' := 20) d_M_draw_17 rfl fl_M_526 (Or.inl rfl) rfl (sm_aload_n (i := 0) (j := 0) (pc' := 21) d_M_draw_20 rfl rfl rfl ?_)))))))
  refine sm_getI (pc' := 24) d_M_draw_21 rfl fl_M_526 rfl ⟨by decide, by decide⟩ (fun v2 => ?_)
  refine sm_bipush (pc' := 26) d_M_draw_24 rfl ib_8 (sm_idiv (pc' := 27) d_M_draw_26 rfl (by decide) (sm_iload_n (i := 1) (j := 1) (pc' := 28) d_M_draw_27 rfl rfl rfl (sm_irem_v (pc' := 29) d_M_draw_28 rfl ?_)))
  exact sm_ireturn d_M_draw_29 rfl rfl
theorem d_M_isBreathed_0 : m_D k_M_isBreathed 0 (.aload_n 0) 1 := (by decide +kernel : decode prog_14_method_155_code 0 = .ok (.aload_n 0, 1))
theorem d_M_isBreathed_1 : m_D k_M_isBreathed 1 (.iload_n 1) 1 := (by decide +kernel : decode prog_14_method_155_code 1 = .ok (.iload_n 1, 1))
theorem d_M_isBreathed_2 : m_D k_M_isBreathed 2 (.invokevirtual 399) 3 := (by decide +kernel : decode prog_14_method_155_code 2 = .ok (.invokevirtual 399, 3))
theorem d_M_isBreathed_5 : m_D k_M_isBreathed 5 (.ifCond .ne 5) 3 := (by decide +kernel : decode prog_14_method_155_code 5 = .ok (.ifCond .ne 5, 3))
theorem d_M_isBreathed_8 : m_D k_M_isBreathed 8 (.iconst 0) 1 := (by decide +kernel : decode prog_14_method_155_code 8 = .ok (.iconst 0, 1))
theorem d_M_isBreathed_9 : m_D k_M_isBreathed 9 (.ireturn) 1 := (by decide +kernel : decode prog_14_method_155_code 9 = .ok (.ireturn, 1))
theorem d_M_isBreathed_10 : m_D k_M_isBreathed 10 (.aload_n 0) 1 := (by decide +kernel : decode prog_14_method_155_code 10 = .ok (.aload_n 0, 1))
theorem d_M_isBreathed_11 : m_D k_M_isBreathed 11 (.dup) 1 := (by decide +kernel : decode prog_14_method_155_code 11 = .ok (.dup, 1))
theorem d_M_isBreathed_12 : m_D k_M_isBreathed 12 (.getfield 530) 3 := (by decide +kernel : decode prog_14_method_155_code 12 = .ok (.getfield 530, 3))
theorem d_M_isBreathed_15 : m_D k_M_isBreathed 15 (.aload_n 0) 1 := (by decide +kernel : decode prog_14_method_155_code 15 = .ok (.aload_n 0, 1))
theorem d_M_isBreathed_16 : m_D k_M_isBreathed 16 (.iload_n 1) 1 := (by decide +kernel : decode prog_14_method_155_code 16 = .ok (.iload_n 1, 1))
theorem d_M_isBreathed_17 : m_D k_M_isBreathed 17 (.invokevirtual 319) 3 := (by decide +kernel : decode prog_14_method_155_code 17 = .ok (.invokevirtual 319, 3))
theorem d_M_isBreathed_20 : m_D k_M_isBreathed 20 (.ifCond .eq 7) 3 := (by decide +kernel : decode prog_14_method_155_code 20 = .ok (.ifCond .eq 7, 3))
theorem d_M_isBreathed_23 : m_D k_M_isBreathed 23 (.iconst 1) 1 := (by decide +kernel : decode prog_14_method_155_code 23 = .ok (.iconst 1, 1))
theorem d_M_isBreathed_24 : m_D k_M_isBreathed 24 (.goto 4) 3 := (by decide +kernel : decode prog_14_method_155_code 24 = .ok (.goto 4, 3))
theorem d_M_isBreathed_27 : m_D k_M_isBreathed 27 (.iconst 0) 1 := (by decide +kernel : decode prog_14_method_155_code 27 = .ok (.iconst 0, 1))
theorem d_M_isBreathed_28 : m_D k_M_isBreathed 28 (.iadd) 1 := (by decide +kernel : decode prog_14_method_155_code 28 = .ok (.iadd, 1))
theorem d_M_isBreathed_29 : m_D k_M_isBreathed 29 (.putfield 530) 3 := (by decide +kernel : decode prog_14_method_155_code 29 = .ok (.putfield 530, 3))
theorem d_M_isBreathed_32 : m_D k_M_isBreathed 32 (.iconst 1) 1 := (by decide +kernel : decode prog_14_method_155_code 32 = .ok (.iconst 1, 1))
theorem d_M_isBreathed_33 : m_D k_M_isBreathed 33 (.ireturn) 1 := (by decide +kernel : decode prog_14_method_155_code 33 = .ok (.ireturn, 1))
def fn_M_isBreathed (x0 : Option mA) (x1 : Int32) : mP Int32 :=
  m_th 11 x0 <|
  m_bd (fn_M_breathed x0 x1) fun v1 =>
  if v1 = 0 then
    m_rt 0
  else
    m_bd (m_gI 11 49 x0) fun v2 =>
    m_bd (fn_M_isThrough x0 x1) fun v3 =>
    m_bd (α := Int32) (
      if v3 = 0 then
        m_rt 0
      else
        m_rt 1
      ) fun (t4 : Int32) =>
    m_bd (m_pI 11 49 x0 (v2 + t4)) fun _ =>
    m_rt 1
set_option maxHeartbeats 4000000 in
set_option maxRecDepth 100000 in
theorem sd_M_isBreathed (x0 : Option mA) (x1 : Int32) : m_Sm k_M_isBreathed 3 0 0 [.inr (.inr x0), .inl x1] (fn_M_isBreathed x0 x1) (fun b => some (.inl b)) := by
  refine ⟨Nat.le_of_ble_eq_true rfl, ?_⟩
  refine sm_th ?_
  refine sm_aload_n (i := 0) (j := 0) (pc' := 1) d_M_isBreathed_0 rfl rfl rfl (sm_iload_n (i := 1) (j := 1) (pc' := 2) d_M_isBreathed_1 rfl rfl rfl ?_)
  refine sm_callVi (ci := 11) (x := x0) (av := [.inl x1]) (st := []) (mc := 0) (ms := 0) (pc' := 5) d_M_isBreathed_2 rfl (sd_M_breathed x0 x1) m_lv rfl cv_M_breathed w_ml_M_399 rfl rfl (by decide) (Nat.le_of_ble_eq_true rfl) rfl rfl (fun v1 => ?_)
  refine sm_if_ne (tgt := 10) (pc' := 8) d_M_isBreathed_5 rfl rfl ?_ ?_
  · refine sm_aload_n (i := 0) (j := 0) (pc' := 11) d_M_isBreathed_10 rfl rfl rfl (sm_dup (pc' := 12) d_M_isBreathed_11 rfl rfl ?_)
    refine sm_getI (pc' := 15) d_M_isBreathed_12 rfl fl_M_530 rfl ⟨by decide, by decide⟩ (fun v2 => ?_)
    refine sm_aload_n (i := 0) (j := 0) (pc' := 16) d_M_isBreathed_15 rfl rfl rfl (sm_iload_n (i := 1) (j := 1) (pc' := 17) d_M_isBreathed_16 rfl rfl rfl ?_)
    refine sm_callVi (ci := 11) (x := x0) (av := [.inl x1]) (st := [.inl v2, .inr (.inr x0)]) (mc := 0) (ms := 0) (pc' := 20) d_M_isBreathed_17 rfl (sd_M_isThrough x0 x1) m_lv rfl cv_M_isThrough w_ml_M_319 rfl rfl (by decide) (Nat.le_of_ble_eq_true rfl) rfl rfl (fun v3 => ?_)
    refine sm_bd (mid := fun (t4 : Int32) => .inl (28, [], [.inl t4, .inl v2, .inr (.inr x0)])) ?_ (fun t4 => ?_)
    · refine sm_if_eq (tgt := 27) (pc' := 23) d_M_isBreathed_20 rfl rfl ?_ ?_
      · refine sm_iconst (pc' := 28) d_M_isBreathed_27 rfl ic_0 (sm_sub [] rfl ?_)
        exact sm_rt rfl
      · refine sm_iconst (pc' := 24) d_M_isBreathed_23 rfl ic_1 (sm_goto (tgt := 28) d_M_isBreathed_24 rfl (sm_sub [] rfl ?_))
        exact sm_rt rfl
    · refine sm_iadd (pc' := 29) d_M_isBreathed_28 rfl (sm_putI (pc' := 32) d_M_isBreathed_29 rfl fl_M_530 (Or.inl rfl) rfl (sm_iconst (pc' := 33) d_M_isBreathed_32 rfl ic_1 ?_))
      exact sm_zreturn d_M_isBreathed_33 rfl (by decide) rfl
  · refine sm_iconst (pc' := 9) d_M_isBreathed_8 rfl ic_0 ?_
    exact sm_zreturn d_M_isBreathed_9 rfl (by decide) rfl
theorem d_M_isAny_0 : m_D k_M_isAny 0 (.aload_n 0) 1 := (by decide +kernel : decode prog_14_method_156_code 0 = .ok (.aload_n 0, 1))
theorem d_M_isAny_1 : m_D k_M_isAny 1 (.getfield 35) 3 := (by decide +kernel : decode prog_14_method_156_code 1 = .ok (.getfield 35, 3))
theorem d_M_isAny_4 : m_D k_M_isAny 4 (.iconst 1) 1 := (by decide +kernel : decode prog_14_method_156_code 4 = .ok (.iconst 1, 1))
theorem d_M_isAny_5 : m_D k_M_isAny 5 (.iaload) 1 := (by decide +kernel : decode prog_14_method_156_code 5 = .ok (.iaload, 1))
theorem d_M_isAny_6 : m_D k_M_isAny 6 (.ifCond .ne 5) 3 := (by decide +kernel : decode prog_14_method_156_code 6 = .ok (.ifCond .ne 5, 3))
theorem d_M_isAny_9 : m_D k_M_isAny 9 (.iconst 0) 1 := (by decide +kernel : decode prog_14_method_156_code 9 = .ok (.iconst 0, 1))
theorem d_M_isAny_10 : m_D k_M_isAny 10 (.ireturn) 1 := (by decide +kernel : decode prog_14_method_156_code 10 = .ok (.ireturn, 1))
theorem d_M_isAny_11 : m_D k_M_isAny 11 (.aload_n 0) 1 := (by decide +kernel : decode prog_14_method_156_code 11 = .ok (.aload_n 0, 1))
theorem d_M_isAny_12 : m_D k_M_isAny 12 (.getfield 35) 3 := (by decide +kernel : decode prog_14_method_156_code 12 = .ok (.getfield 35, 3))
theorem d_M_isAny_15 : m_D k_M_isAny 15 (.iconst 4) 1 := (by decide +kernel : decode prog_14_method_156_code 15 = .ok (.iconst 4, 1))
theorem d_M_isAny_16 : m_D k_M_isAny 16 (.aload_n 0) 1 := (by decide +kernel : decode prog_14_method_156_code 16 = .ok (.aload_n 0, 1))
theorem d_M_isAny_17 : m_D k_M_isAny 17 (.bipush 10) 2 := (by decide +kernel : decode prog_14_method_156_code 17 = .ok (.bipush 10, 2))
theorem d_M_isAny_19 : m_D k_M_isAny 19 (.invokevirtual 536) 3 := (by decide +kernel : decode prog_14_method_156_code 19 = .ok (.invokevirtual 536, 3))
theorem d_M_isAny_22 : m_D k_M_isAny 22 (.iastore) 1 := (by decide +kernel : decode prog_14_method_156_code 22 = .ok (.iastore, 1))
theorem d_M_isAny_23 : m_D k_M_isAny 23 (.aload_n 0) 1 := (by decide +kernel : decode prog_14_method_156_code 23 = .ok (.aload_n 0, 1))
theorem d_M_isAny_24 : m_D k_M_isAny 24 (.aload_n 0) 1 := (by decide +kernel : decode prog_14_method_156_code 24 = .ok (.aload_n 0, 1))
theorem d_M_isAny_25 : m_D k_M_isAny 25 (.aload_n 0) 1 := (by decide +kernel : decode prog_14_method_156_code 25 = .ok (.aload_n 0, 1))
theorem d_M_isAny_26 : m_D k_M_isAny 26 (.getfield 35) 3 := (by decide +kernel : decode prog_14_method_156_code 26 = .ok (.getfield 35, 3))
theorem d_M_isAny_29 : m_D k_M_isAny 29 (.iconst 1) 1 := (by decide +kernel : decode prog_14_method_156_code 29 = .ok (.iconst 1, 1))
theorem d_M_isAny_30 : m_D k_M_isAny 30 (.iaload) 1 := (by decide +kernel : decode prog_14_method_156_code 30 = .ok (.iaload, 1))
theorem d_M_isAny_31 : m_D k_M_isAny 31 (.invokevirtual 536) 3 := (by decide +kernel : decode prog_14_method_156_code 31 = .ok (.invokevirtual 536, 3))
theorem d_M_isAny_34 : m_D k_M_isAny 34 (.invokevirtual 539) 3 := (by decide +kernel : decode prog_14_method_156_code 34 = .ok (.invokevirtual 539, 3))
theorem d_M_isAny_37 : m_D k_M_isAny 37 (.ireturn) 1 := (by decide +kernel : decode prog_14_method_156_code 37 = .ok (.ireturn, 1))
def fn_M_isAny (x0 : Option mA) : mP Int32 :=
  m_th 11 x0 <|
  m_bd (m_gR 11 20 x0) fun v1 =>
  m_bd (m_aI 0 v1 1) fun v2 =>
  if v2 = 0 then
    m_rt 0
  else
    m_bd (m_gR 11 20 x0) fun v3 =>
    m_bd (fn_M_draw x0 10) fun v4 =>
    m_bd (m_tI 0 v3 4 v4) fun _ =>
    m_bd (m_gR 11 20 x0) fun v5 =>
    m_bd (m_aI 0 v5 1) fun v6 =>
    m_bd (fn_M_draw x0 v6) fun v7 =>
    m_bd (fn_M_isBreathed x0 v7) fun v8 =>
    m_bd (m_cz v8) fun _ => m_rt v8
set_option maxHeartbeats 4000000 in
set_option maxRecDepth 100000 in
theorem sd_M_isAny (x0 : Option mA) : m_Sm k_M_isAny 4 0 0 [.inr (.inr x0)] (fn_M_isAny x0) (fun b => some (.inl b)) := by
  refine ⟨Nat.le_of_ble_eq_true rfl, ?_⟩
  refine sm_th ?_
  refine sm_aload_n (i := 0) (j := 0) (pc' := 1) d_M_isAny_0 rfl rfl rfl ?_
  refine sm_getR (pc' := 4) d_M_isAny_1 rfl fl_M_35 rfl rfl (fun v1 => ?_)
  refine sm_iconst (pc' := 5) d_M_isAny_4 rfl ic_1 ?_
  refine sm_iald (pc' := 6) d_M_isAny_5 rfl (fun v2 => ?_)
  refine sm_if_ne (tgt := 11) (pc' := 9) d_M_isAny_6 rfl rfl ?_ ?_
  · refine sm_aload_n (i := 0) (j := 0) (pc' := 12) d_M_isAny_11 rfl rfl rfl ?_
    refine sm_getR (pc' := 15) d_M_isAny_12 rfl fl_M_35 rfl rfl (fun v3 => ?_)
    refine sm_iconst (pc' := 16) d_M_isAny_15 rfl ic_4 (sm_aload_n (i := 0) (j := 0) (pc' := 17) d_M_isAny_16 rfl rfl rfl (sm_bipush (pc' := 19) d_M_isAny_17 rfl ib_10 ?_))
    refine sm_callVi (ci := 11) (x := x0) (av := [.inl 10]) (st := [.inl 4, .inr (.inr v3)]) (mc := 0) (ms := 0) (pc' := 22) d_M_isAny_19 rfl (sd_M_draw x0 10) m_lv rfl cv_M_draw w_ml_M_536 rfl rfl (by decide) (Nat.le_of_ble_eq_true rfl) rfl rfl (fun v4 => ?_)
    refine sm_iast (pc' := 23) d_M_isAny_22 rfl (sm_aload_n (i := 0) (j := 0) (pc' := 24) d_M_isAny_23 rfl rfl rfl (sm_aload_n (i := 0) (j := 0) (pc' := 25) d_M_isAny_24 rfl rfl rfl (sm_aload_n (i := 0) (j := 0) (pc' := 26) d_M_isAny_25 rfl rfl rfl ?_)))
    refine sm_getR (pc' := 29) d_M_isAny_26 rfl fl_M_35 rfl rfl (fun v5 => ?_)
    refine sm_iconst (pc' := 30) d_M_isAny_29 rfl ic_1 ?_
    refine sm_iald (pc' := 31) d_M_isAny_30 rfl (fun v6 => ?_)
    refine sm_callVi (ci := 11) (x := x0) (av := [.inl v6]) (st := [.inr (.inr x0)]) (mc := 0) (ms := 0) (pc' := 34) d_M_isAny_31 rfl (sd_M_draw x0 v6) m_lv rfl cv_M_draw w_ml_M_536 rfl rfl (by decide) (Nat.le_of_ble_eq_true rfl) rfl rfl (fun v7 => ?_)
    refine sm_callVi (ci := 11) (x := x0) (av := [.inl v7]) (st := []) (mc := 0) (ms := 0) (pc' := 37) d_M_isAny_34 rfl (sd_M_isBreathed x0 v7) m_lv rfl cv_M_isBreathed w_ml_M_539 rfl rfl (by decide) (Nat.le_of_ble_eq_true rfl) rfl rfl (fun v8 => ?_)
    exact sm_zretC d_M_isAny_37 rfl rfl
  · refine sm_iconst (pc' := 10) d_M_isAny_9 rfl ic_0 ?_
    exact sm_zreturn d_M_isAny_10 rfl (by decide) rfl
theorem d_M_onThing_0 : m_D k_M_onThing 0 (.aload_n 0) 1 := (by decide +kernel : decode prog_14_method_157_code 0 = .ok (.aload_n 0, 1))
theorem d_M_onThing_1 : m_D k_M_onThing 1 (.iload_n 2) 1 := (by decide +kernel : decode prog_14_method_157_code 1 = .ok (.iload_n 2, 1))
theorem d_M_onThing_2 : m_D k_M_onThing 2 (.invokevirtual 319) 3 := (by decide +kernel : decode prog_14_method_157_code 2 = .ok (.invokevirtual 319, 3))
theorem d_M_onThing_5 : m_D k_M_onThing 5 (.ifCond .eq 5) 3 := (by decide +kernel : decode prog_14_method_157_code 5 = .ok (.ifCond .eq 5, 3))
theorem d_M_onThing_8 : m_D k_M_onThing 8 (.iconst 0) 1 := (by decide +kernel : decode prog_14_method_157_code 8 = .ok (.iconst 0, 1))
theorem d_M_onThing_9 : m_D k_M_onThing 9 (.ireturn) 1 := (by decide +kernel : decode prog_14_method_157_code 9 = .ok (.ireturn, 1))
theorem d_M_onThing_10 : m_D k_M_onThing 10 (.iload_n 1) 1 := (by decide +kernel : decode prog_14_method_157_code 10 = .ok (.iload_n 1, 1))
theorem d_M_onThing_11 : m_D k_M_onThing 11 (.iconst 1) 1 := (by decide +kernel : decode prog_14_method_157_code 11 = .ok (.iconst 1, 1))
theorem d_M_onThing_12 : m_D k_M_onThing 12 (.if_icmp .ne 16) 3 := (by decide +kernel : decode prog_14_method_157_code 12 = .ok (.if_icmp .ne 16, 3))
theorem d_M_onThing_15 : m_D k_M_onThing 15 (.aload_n 0) 1 := (by decide +kernel : decode prog_14_method_157_code 15 = .ok (.aload_n 0, 1))
theorem d_M_onThing_16 : m_D k_M_onThing 16 (.getfield 35) 3 := (by decide +kernel : decode prog_14_method_157_code 16 = .ok (.getfield 35, 3))
theorem d_M_onThing_19 : m_D k_M_onThing 19 (.bipush 49) 2 := (by decide +kernel : decode prog_14_method_157_code 19 = .ok (.bipush 49, 2))
theorem d_M_onThing_21 : m_D k_M_onThing 21 (.iload_n 2) 1 := (by decide +kernel : decode prog_14_method_157_code 21 = .ok (.iload_n 2, 1))
theorem d_M_onThing_22 : m_D k_M_onThing 22 (.iadd) 1 := (by decide +kernel : decode prog_14_method_157_code 22 = .ok (.iadd, 1))
theorem d_M_onThing_23 : m_D k_M_onThing 23 (.iconst 3) 1 := (by decide +kernel : decode prog_14_method_157_code 23 = .ok (.iconst 3, 1))
theorem d_M_onThing_24 : m_D k_M_onThing 24 (.iastore) 1 := (by decide +kernel : decode prog_14_method_157_code 24 = .ok (.iastore, 1))
theorem d_M_onThing_25 : m_D k_M_onThing 25 (.goto 24) 3 := (by decide +kernel : decode prog_14_method_157_code 25 = .ok (.goto 24, 3))
theorem d_M_onThing_28 : m_D k_M_onThing 28 (.iload_n 1) 1 := (by decide +kernel : decode prog_14_method_157_code 28 = .ok (.iload_n 1, 1))
theorem d_M_onThing_29 : m_D k_M_onThing 29 (.iconst 4) 1 := (by decide +kernel : decode prog_14_method_157_code 29 = .ok (.iconst 4, 1))
theorem d_M_onThing_30 : m_D k_M_onThing 30 (.if_icmp .ne 13) 3 := (by decide +kernel : decode prog_14_method_157_code 30 = .ok (.if_icmp .ne 13, 3))
theorem d_M_onThing_33 : m_D k_M_onThing 33 (.aload_n 0) 1 := (by decide +kernel : decode prog_14_method_157_code 33 = .ok (.aload_n 0, 1))
theorem d_M_onThing_34 : m_D k_M_onThing 34 (.iload_n 2) 1 := (by decide +kernel : decode prog_14_method_157_code 34 = .ok (.iload_n 2, 1))
theorem d_M_onThing_35 : m_D k_M_onThing 35 (.iload_n 3) 1 := (by decide +kernel : decode prog_14_method_157_code 35 = .ok (.iload_n 3, 1))
theorem d_M_onThing_36 : m_D k_M_onThing 36 (.invokevirtual 393) 3 := (by decide +kernel : decode prog_14_method_157_code 36 = .ok (.invokevirtual 393, 3))
theorem d_M_onThing_39 : m_D k_M_onThing 39 (.pop) 1 := (by decide +kernel : decode prog_14_method_157_code 39 = .ok (.pop, 1))
theorem d_M_onThing_40 : m_D k_M_onThing 40 (.goto 9) 3 := (by decide +kernel : decode prog_14_method_157_code 40 = .ok (.goto 9, 3))
theorem d_M_onThing_43 : m_D k_M_onThing 43 (.aload_n 0) 1 := (by decide +kernel : decode prog_14_method_157_code 43 = .ok (.aload_n 0, 1))
theorem d_M_onThing_44 : m_D k_M_onThing 44 (.iload_n 2) 1 := (by decide +kernel : decode prog_14_method_157_code 44 = .ok (.iload_n 2, 1))
theorem d_M_onThing_45 : m_D k_M_onThing 45 (.invokevirtual 396) 3 := (by decide +kernel : decode prog_14_method_157_code 45 = .ok (.invokevirtual 396, 3))
theorem d_M_onThing_48 : m_D k_M_onThing 48 (.pop) 1 := (by decide +kernel : decode prog_14_method_157_code 48 = .ok (.pop, 1))
theorem d_M_onThing_49 : m_D k_M_onThing 49 (.iconst 1) 1 := (by decide +kernel : decode prog_14_method_157_code 49 = .ok (.iconst 1, 1))
theorem d_M_onThing_50 : m_D k_M_onThing 50 (.ireturn) 1 := (by decide +kernel : decode prog_14_method_157_code 50 = .ok (.ireturn, 1))
def fn_M_onThing (x0 : Option mA) (x1 : Int32) (x2 : Int32) (x3 : Int32) : mP Int32 :=
  m_th 11 x0 <|
  m_bd (fn_M_isThrough x0 x2) fun v1 =>
  if v1 = 0 then
    if x1 = 1 then
      m_bd (m_gR 11 20 x0) fun v4 =>
      m_bd (m_tI 0 v4 (49 + x2) 3) fun _ =>
      m_rt 1
    else
      if x1 = 4 then
        m_bd (fn_M_coats x0 x2 x3) fun v3 =>
        m_rt 1
      else
        m_bd (fn_M_mends x0 x2) fun v2 =>
        m_rt 1
  else
    m_rt 0
set_option maxHeartbeats 4000000 in
set_option maxRecDepth 100000 in
theorem sd_M_onThing (x0 : Option mA) (x1 : Int32) (x2 : Int32) (x3 : Int32) : m_Sm k_M_onThing 2 0 0 [.inr (.inr x0), .inl x1, .inl x2, .inl x3] (fn_M_onThing x0 x1 x2 x3) (fun b => some (.inl b)) := by
  refine ⟨Nat.le_of_ble_eq_true rfl, ?_⟩
  refine sm_th ?_
  refine sm_aload_n (i := 0) (j := 0) (pc' := 1) d_M_onThing_0 rfl rfl rfl (sm_iload_n (i := 2) (j := 2) (pc' := 2) d_M_onThing_1 rfl rfl rfl ?_)
  refine sm_callVi (ci := 11) (x := x0) (av := [.inl x2]) (st := []) (mc := 0) (ms := 0) (pc' := 5) d_M_onThing_2 rfl (sd_M_isThrough x0 x2) m_lv rfl cv_M_isThrough w_ml_M_319 rfl rfl (by decide) (Nat.le_of_ble_eq_true rfl) rfl rfl (fun v1 => ?_)
  refine sm_if_eq (tgt := 10) (pc' := 8) d_M_onThing_5 rfl rfl ?_ ?_
  · refine sm_iload_n (i := 1) (j := 1) (pc' := 11) d_M_onThing_10 rfl rfl rfl (sm_iconst (pc' := 12) d_M_onThing_11 rfl ic_1 ?_)
    refine sm_icmp_ne (tgt := 28) (pc' := 15) d_M_onThing_12 rfl rfl ?_ ?_
    · refine sm_iload_n (i := 1) (j := 1) (pc' := 29) d_M_onThing_28 rfl rfl rfl (sm_iconst (pc' := 30) d_M_onThing_29 rfl ic_4 ?_)
      refine sm_icmp_ne (tgt := 43) (pc' := 33) d_M_onThing_30 rfl rfl ?_ ?_
      · refine sm_aload_n (i := 0) (j := 0) (pc' := 44) d_M_onThing_43 rfl rfl rfl (sm_iload_n (i := 2) (j := 2) (pc' := 45) d_M_onThing_44 rfl rfl rfl ?_)
        refine sm_callVi (ci := 11) (x := x0) (av := [.inl x2]) (st := []) (mc := 0) (ms := 0) (pc' := 48) d_M_onThing_45 rfl (sd_M_mends x0 x2) m_lv rfl cv_M_mends w_ml_M_396 rfl rfl (by decide) (Nat.le_of_ble_eq_true rfl) rfl rfl (fun v2 => ?_)
        refine sm_pop (pc' := 49) d_M_onThing_48 rfl rfl (sm_iconst (pc' := 50) d_M_onThing_49 rfl ic_1 ?_)
        exact sm_zreturn d_M_onThing_50 rfl (by decide) rfl
      · refine sm_aload_n (i := 0) (j := 0) (pc' := 34) d_M_onThing_33 rfl rfl rfl (sm_iload_n (i := 2) (j := 2) (pc' := 35) d_M_onThing_34 rfl rfl rfl (sm_iload_n (i := 3) (j := 3) (pc' := 36) d_M_onThing_35 rfl rfl rfl ?_))
        refine sm_callVi (ci := 11) (x := x0) (av := [.inl x2, .inl x3]) (st := []) (mc := 0) (ms := 0) (pc' := 39) d_M_onThing_36 rfl (sd_M_coats x0 x2 x3) m_lv rfl cv_M_coats w_ml_M_393 rfl rfl (by decide) (Nat.le_of_ble_eq_true rfl) rfl rfl (fun v3 => ?_)
        refine sm_pop (pc' := 40) d_M_onThing_39 rfl rfl (sm_goto (tgt := 49) d_M_onThing_40 rfl (sm_iconst (pc' := 50) d_M_onThing_49 rfl ic_1 ?_))
        exact sm_zreturn d_M_onThing_50 rfl (by decide) rfl
    · refine sm_aload_n (i := 0) (j := 0) (pc' := 16) d_M_onThing_15 rfl rfl rfl ?_
      refine sm_getR (pc' := 19) d_M_onThing_16 rfl fl_M_35 rfl rfl (fun v4 => ?_)
      refine sm_bipush (pc' := 21) d_M_onThing_19 rfl ib_49 (sm_iload_n (i := 2) (j := 2) (pc' := 22) d_M_onThing_21 rfl rfl rfl (sm_iadd (pc' := 23) d_M_onThing_22 rfl (sm_iconst (pc' := 24) d_M_onThing_23 rfl ic_3 (sm_iast (pc' := 25) d_M_onThing_24 rfl (sm_goto (tgt := 49) d_M_onThing_25 rfl (sm_iconst (pc' := 50) d_M_onThing_49 rfl ic_1 ?_))))))
      exact sm_zreturn d_M_onThing_50 rfl (by decide) rfl
  · refine sm_iconst (pc' := 9) d_M_onThing_8 rfl ic_0 ?_
    exact sm_zreturn d_M_onThing_9 rfl (by decide) rfl
theorem d_M_does_0 : m_D k_M_does 0 (.aload_n 0) 1 := (by decide +kernel : decode prog_14_method_158_code 0 = .ok (.aload_n 0, 1))
theorem d_M_does_1 : m_D k_M_does 1 (.getfield 35) 3 := (by decide +kernel : decode prog_14_method_158_code 1 = .ok (.getfield 35, 3))
theorem d_M_does_4 : m_D k_M_does 4 (.iload_n 1) 1 := (by decide +kernel : decode prog_14_method_158_code 4 = .ok (.iload_n 1, 1))
theorem d_M_does_5 : m_D k_M_does 5 (.iaload) 1 := (by decide +kernel : decode prog_14_method_158_code 5 = .ok (.iaload, 1))
theorem d_M_does_6 : m_D k_M_does 6 (.istore_n 2) 1 := (by decide +kernel : decode prog_14_method_158_code 6 = .ok (.istore_n 2, 1))
theorem d_M_does_7 : m_D k_M_does 7 (.iload_n 2) 1 := (by decide +kernel : decode prog_14_method_158_code 7 = .ok (.iload_n 2, 1))
theorem d_M_does_8 : m_D k_M_does 8 (.ifCond .ne 16) 3 := (by decide +kernel : decode prog_14_method_158_code 8 = .ok (.ifCond .ne 16, 3))
theorem d_M_does_11 : m_D k_M_does 11 (.aload_n 0) 1 := (by decide +kernel : decode prog_14_method_158_code 11 = .ok (.aload_n 0, 1))
theorem d_M_does_12 : m_D k_M_does 12 (.aload_n 0) 1 := (by decide +kernel : decode prog_14_method_158_code 12 = .ok (.aload_n 0, 1))
theorem d_M_does_13 : m_D k_M_does 13 (.getfield 35) 3 := (by decide +kernel : decode prog_14_method_158_code 13 = .ok (.getfield 35, 3))
theorem d_M_does_16 : m_D k_M_does 16 (.iload_n 1) 1 := (by decide +kernel : decode prog_14_method_158_code 16 = .ok (.iload_n 1, 1))
theorem d_M_does_17 : m_D k_M_does 17 (.iconst 1) 1 := (by decide +kernel : decode prog_14_method_158_code 17 = .ok (.iconst 1, 1))
theorem d_M_does_18 : m_D k_M_does 18 (.iadd) 1 := (by decide +kernel : decode prog_14_method_158_code 18 = .ok (.iadd, 1))
theorem d_M_does_19 : m_D k_M_does 19 (.iaload) 1 := (by decide +kernel : decode prog_14_method_158_code 19 = .ok (.iaload, 1))
theorem d_M_does_20 : m_D k_M_does 20 (.invokevirtual 542) 3 := (by decide +kernel : decode prog_14_method_158_code 20 = .ok (.invokevirtual 542, 3))
theorem d_M_does_23 : m_D k_M_does 23 (.ireturn) 1 := (by decide +kernel : decode prog_14_method_158_code 23 = .ok (.ireturn, 1))
theorem d_M_does_24 : m_D k_M_does 24 (.iload_n 2) 1 := (by decide +kernel : decode prog_14_method_158_code 24 = .ok (.iload_n 2, 1))
theorem d_M_does_25 : m_D k_M_does 25 (.iconst 2) 1 := (by decide +kernel : decode prog_14_method_158_code 25 = .ok (.iconst 2, 1))
theorem d_M_does_26 : m_D k_M_does 26 (.if_icmp .ne 39) 3 := (by decide +kernel : decode prog_14_method_158_code 26 = .ok (.if_icmp .ne 39, 3))
theorem d_M_does_29 : m_D k_M_does 29 (.aload_n 0) 1 := (by decide +kernel : decode prog_14_method_158_code 29 = .ok (.aload_n 0, 1))
theorem d_M_does_30 : m_D k_M_does 30 (.bipush 57) 2 := (by decide +kernel : decode prog_14_method_158_code 30 = .ok (.bipush 57, 2))
theorem d_M_does_32 : m_D k_M_does 32 (.bipush 8) 2 := (by decide +kernel : decode prog_14_method_158_code 32 = .ok (.bipush 8, 2))
theorem d_M_does_34 : m_D k_M_does 34 (.aload_n 0) 1 := (by decide +kernel : decode prog_14_method_158_code 34 = .ok (.aload_n 0, 1))
theorem d_M_does_35 : m_D k_M_does 35 (.getfield 35) 3 := (by decide +kernel : decode prog_14_method_158_code 35 = .ok (.getfield 35, 3))
theorem d_M_does_38 : m_D k_M_does 38 (.iload_n 1) 1 := (by decide +kernel : decode prog_14_method_158_code 38 = .ok (.iload_n 1, 1))
theorem d_M_does_39 : m_D k_M_does 39 (.iconst 1) 1 := (by decide +kernel : decode prog_14_method_158_code 39 = .ok (.iconst 1, 1))
theorem d_M_does_40 : m_D k_M_does 40 (.iadd) 1 := (by decide +kernel : decode prog_14_method_158_code 40 = .ok (.iadd, 1))
theorem d_M_does_41 : m_D k_M_does 41 (.iaload) 1 := (by decide +kernel : decode prog_14_method_158_code 41 = .ok (.iaload, 1))
theorem d_M_does_42 : m_D k_M_does 42 (.imul) 1 := (by decide +kernel : decode prog_14_method_158_code 42 = .ok (.imul, 1))
theorem d_M_does_43 : m_D k_M_does 43 (.iadd) 1 := (by decide +kernel : decode prog_14_method_158_code 43 = .ok (.iadd, 1))
theorem d_M_does_44 : m_D k_M_does 44 (.aload_n 0) 1 := (by decide +kernel : decode prog_14_method_158_code 44 = .ok (.aload_n 0, 1))
theorem d_M_does_45 : m_D k_M_does 45 (.getfield 35) 3 := (by decide +kernel : decode prog_14_method_158_code 45 = .ok (.getfield 35, 3))
theorem d_M_does_48 : m_D k_M_does 48 (.iload_n 1) 1 := (by decide +kernel : decode prog_14_method_158_code 48 = .ok (.iload_n 1, 1))
theorem d_M_does_49 : m_D k_M_does 49 (.iconst 2) 1 := (by decide +kernel : decode prog_14_method_158_code 49 = .ok (.iconst 2, 1))
theorem d_M_does_50 : m_D k_M_does 50 (.iadd) 1 := (by decide +kernel : decode prog_14_method_158_code 50 = .ok (.iadd, 1))
theorem d_M_does_51 : m_D k_M_does 51 (.iaload) 1 := (by decide +kernel : decode prog_14_method_158_code 51 = .ok (.iaload, 1))
theorem d_M_does_52 : m_D k_M_does 52 (.iadd) 1 := (by decide +kernel : decode prog_14_method_158_code 52 = .ok (.iadd, 1))
theorem d_M_does_53 : m_D k_M_does 53 (.aload_n 0) 1 := (by decide +kernel : decode prog_14_method_158_code 53 = .ok (.aload_n 0, 1))
theorem d_M_does_54 : m_D k_M_does 54 (.getfield 35) 3 := (by decide +kernel : decode prog_14_method_158_code 54 = .ok (.getfield 35, 3))
theorem d_M_does_57 : m_D k_M_does 57 (.iload_n 1) 1 := (by decide +kernel : decode prog_14_method_158_code 57 = .ok (.iload_n 1, 1))
theorem d_M_does_58 : m_D k_M_does 58 (.iconst 3) 1 := (by decide +kernel : decode prog_14_method_158_code 58 = .ok (.iconst 3, 1))
theorem d_M_does_59 : m_D k_M_does 59 (.iadd) 1 := (by decide +kernel : decode prog_14_method_158_code 59 = .ok (.iadd, 1))
theorem d_M_does_60 : m_D k_M_does 60 (.iaload) 1 := (by decide +kernel : decode prog_14_method_158_code 60 = .ok (.iaload, 1))
theorem d_M_does_61 : m_D k_M_does 61 (.invokevirtual 545) 3 := (by decide +kernel : decode prog_14_method_158_code 61 = .ok (.invokevirtual 545, 3))
theorem d_M_does_64 : m_D k_M_does 64 (.ireturn) 1 := (by decide +kernel : decode prog_14_method_158_code 64 = .ok (.ireturn, 1))
theorem d_M_does_65 : m_D k_M_does 65 (.iload_n 2) 1 := (by decide +kernel : decode prog_14_method_158_code 65 = .ok (.iload_n 2, 1))
theorem d_M_does_66 : m_D k_M_does 66 (.iconst 3) 1 := (by decide +kernel : decode prog_14_method_158_code 66 = .ok (.iconst 3, 1))
theorem d_M_does_67 : m_D k_M_does 67 (.if_icmp .ne 17) 3 := (by decide +kernel : decode prog_14_method_158_code 67 = .ok (.if_icmp .ne 17, 3))
theorem d_M_does_70 : m_D k_M_does 70 (.aload_n 0) 1 := (by decide +kernel : decode prog_14_method_158_code 70 = .ok (.aload_n 0, 1))
theorem d_M_does_71 : m_D k_M_does 71 (.iconst 4) 1 := (by decide +kernel : decode prog_14_method_158_code 71 = .ok (.iconst 4, 1))
theorem d_M_does_72 : m_D k_M_does 72 (.aload_n 0) 1 := (by decide +kernel : decode prog_14_method_158_code 72 = .ok (.aload_n 0, 1))
theorem d_M_does_73 : m_D k_M_does 73 (.getfield 35) 3 := (by decide +kernel : decode prog_14_method_158_code 73 = .ok (.getfield 35, 3))
theorem d_M_does_76 : m_D k_M_does 76 (.iload_n 1) 1 := (by decide +kernel : decode prog_14_method_158_code 76 = .ok (.iload_n 1, 1))
theorem d_M_does_77 : m_D k_M_does 77 (.iconst 1) 1 := (by decide +kernel : decode prog_14_method_158_code 77 = .ok (.iconst 1, 1))
theorem d_M_does_78 : m_D k_M_does 78 (.iadd) 1 := (by decide +kernel : decode prog_14_method_158_code 78 = .ok (.iadd, 1))
theorem d_M_does_79 : m_D k_M_does 79 (.iaload) 1 := (by decide +kernel : decode prog_14_method_158_code 79 = .ok (.iaload, 1))
theorem d_M_does_80 : m_D k_M_does 80 (.invokevirtual 545) 3 := (by decide +kernel : decode prog_14_method_158_code 80 = .ok (.invokevirtual 545, 3))
theorem d_M_does_83 : m_D k_M_does 83 (.ireturn) 1 := (by decide +kernel : decode prog_14_method_158_code 83 = .ok (.ireturn, 1))
theorem d_M_does_84 : m_D k_M_does 84 (.iload_n 2) 1 := (by decide +kernel : decode prog_14_method_158_code 84 = .ok (.iload_n 2, 1))
theorem d_M_does_85 : m_D k_M_does 85 (.bipush 6) 2 := (by decide +kernel : decode prog_14_method_158_code 85 = .ok (.bipush 6, 2))
theorem d_M_does_87 : m_D k_M_does 87 (.if_icmp .ne 10) 3 := (by decide +kernel : decode prog_14_method_158_code 87 = .ok (.if_icmp .ne 10, 3))
theorem d_M_does_90 : m_D k_M_does 90 (.aload_n 0) 1 := (by decide +kernel : decode prog_14_method_158_code 90 = .ok (.aload_n 0, 1))
theorem d_M_does_91 : m_D k_M_does 91 (.invokevirtual 548) 3 := (by decide +kernel : decode prog_14_method_158_code 91 = .ok (.invokevirtual 548, 3))
theorem d_M_does_94 : m_D k_M_does 94 (.goto 24) 3 := (by decide +kernel : decode prog_14_method_158_code 94 = .ok (.goto 24, 3))
theorem d_M_does_97 : m_D k_M_does 97 (.aload_n 0) 1 := (by decide +kernel : decode prog_14_method_158_code 97 = .ok (.aload_n 0, 1))
theorem d_M_does_98 : m_D k_M_does 98 (.iload_n 2) 1 := (by decide +kernel : decode prog_14_method_158_code 98 = .ok (.iload_n 2, 1))
theorem d_M_does_99 : m_D k_M_does 99 (.aload_n 0) 1 := (by decide +kernel : decode prog_14_method_158_code 99 = .ok (.aload_n 0, 1))
theorem d_M_does_100 : m_D k_M_does 100 (.getfield 35) 3 := (by decide +kernel : decode prog_14_method_158_code 100 = .ok (.getfield 35, 3))
theorem d_M_does_103 : m_D k_M_does 103 (.iload_n 1) 1 := (by decide +kernel : decode prog_14_method_158_code 103 = .ok (.iload_n 1, 1))
theorem d_M_does_104 : m_D k_M_does 104 (.iconst 1) 1 := (by decide +kernel : decode prog_14_method_158_code 104 = .ok (.iconst 1, 1))
theorem d_M_does_105 : m_D k_M_does 105 (.iadd) 1 := (by decide +kernel : decode prog_14_method_158_code 105 = .ok (.iadd, 1))
theorem d_M_does_106 : m_D k_M_does 106 (.iaload) 1 := (by decide +kernel : decode prog_14_method_158_code 106 = .ok (.iaload, 1))
theorem d_M_does_107 : m_D k_M_does 107 (.aload_n 0) 1 := (by decide +kernel : decode prog_14_method_158_code 107 = .ok (.aload_n 0, 1))
theorem d_M_does_108 : m_D k_M_does 108 (.getfield 35) 3 := (by decide +kernel : decode prog_14_method_158_code 108 = .ok (.getfield 35, 3))
theorem d_M_does_111 : m_D k_M_does 111 (.iload_n 1) 1 := (by decide +kernel : decode prog_14_method_158_code 111 = .ok (.iload_n 1, 1))
theorem d_M_does_112 : m_D k_M_does 112 (.iconst 2) 1 := (by decide +kernel : decode prog_14_method_158_code 112 = .ok (.iconst 2, 1))
theorem d_M_does_113 : m_D k_M_does 113 (.iadd) 1 := (by decide +kernel : decode prog_14_method_158_code 113 = .ok (.iadd, 1))
theorem d_M_does_114 : m_D k_M_does 114 (.iaload) 1 := (by decide +kernel : decode prog_14_method_158_code 114 = .ok (.iaload, 1))
theorem d_M_does_115 : m_D k_M_does 115 (.invokevirtual 551) 3 := (by decide +kernel : decode prog_14_method_158_code 115 = .ok (.invokevirtual 551, 3))
theorem d_M_does_118 : m_D k_M_does 118 (.ireturn) 1 := (by decide +kernel : decode prog_14_method_158_code 118 = .ok (.ireturn, 1))
def fn_M_does (x0 : Option mA) (x1 : Int32) : mP Int32 :=
  m_th 11 x0 <|
  m_bd (m_gR 11 20 x0) fun v1 =>
  m_bd (m_aI 0 v1 x1) fun v2 =>
  if v2 = 0 then
    m_bd (m_gR 11 20 x0) fun v19 =>
    m_bd (m_aI 0 v19 (x1 + 1)) fun v20 =>
    m_bd (fn_M_anyYears x0 v20) fun v21 =>
    m_bd (m_cz v21) fun _ => m_rt v21
  else
    if v2 = 2 then
      m_bd (m_gR 11 20 x0) fun v12 =>
      m_bd (m_aI 0 v12 (x1 + 1)) fun v13 =>
      m_bd (m_gR 11 20 x0) fun v14 =>
      m_bd (m_aI 0 v14 (x1 + 2)) fun v15 =>
      m_bd (m_gR 11 20 x0) fun v16 =>
      m_bd (m_aI 0 v16 (x1 + 3)) fun v17 =>
      m_bd (fn_M_becomes x0 ((57 + (8 * v13)) + v15) v17) fun v18 =>
      m_bd (m_cz v18) fun _ => m_rt v18
    else
      if v2 = 3 then
        m_bd (m_gR 11 20 x0) fun v9 =>
        m_bd (m_aI 0 v9 (x1 + 1)) fun v10 =>
        m_bd (fn_M_becomes x0 4 v10) fun v11 =>
        m_bd (m_cz v11) fun _ => m_rt v11
      else
        if v2 = 6 then
          m_bd (fn_M_isAny x0) fun v8 =>
          m_bd (m_cz v8) fun _ => m_rt v8
        else
          m_bd (m_gR 11 20 x0) fun v3 =>
          m_bd (m_aI 0 v3 (x1 + 1)) fun v4 =>
          m_bd (m_gR 11 20 x0) fun v5 =>
          m_bd (m_aI 0 v5 (x1 + 2)) fun v6 =>
          m_bd (fn_M_onThing x0 v2 v4 v6) fun v7 =>
          m_bd (m_cz v7) fun _ => m_rt v7
set_option maxHeartbeats 4000000 in
set_option maxRecDepth 100000 in
theorem sd_M_does (x0 : Option mA) (x1 : Int32) : m_Sm k_M_does 6 0 0 [.inr (.inr x0), .inl x1] (fn_M_does x0 x1) (fun b => some (.inl b)) := by
  refine ⟨Nat.le_of_ble_eq_true rfl, ?_⟩
  refine sm_th ?_
  refine sm_aload_n (i := 0) (j := 0) (pc' := 1) d_M_does_0 rfl rfl rfl ?_
  refine sm_getR (pc' := 4) d_M_does_1 rfl fl_M_35 rfl rfl (fun v1 => ?_)
  refine sm_iload_n (i := 1) (j := 1) (pc' := 5) d_M_does_4 rfl rfl rfl ?_
  refine sm_iald (pc' := 6) d_M_does_5 rfl (fun v2 => ?_)
  refine sm_istore_n (i := 2) (L' := [(2, .inl v2), (0, .inr (.inr x0)), (1, .inl x1)]) (pc' := 7) d_M_does_6 rfl rfl (Nat.le_of_ble_eq_true rfl) rfl (sm_iload_n (i := 2) (j := 0) (pc' := 8) d_M_does_7 rfl rfl rfl ?_)
  refine sm_if_ne (tgt := 24) (pc' := 11) d_M_does_8 rfl rfl ?_ ?_
  · refine sm_iload_n (i := 2) (j := 0) (pc' := 25) d_M_does_24 rfl rfl rfl (sm_iconst (pc' := 26) d_M_does_25 rfl ic_2 ?_)
    refine sm_icmp_ne (tgt := 65) (pc' := 29) d_M_does_26 rfl rfl ?_ ?_
    · refine sm_iload_n (i := 2) (j := 0) (pc' := 66) d_M_does_65 rfl rfl rfl (sm_iconst (pc' := 67) d_M_does_66 rfl ic_3 ?_)
      refine sm_icmp_ne (tgt := 84) (pc' := 70) d_M_does_67 rfl rfl ?_ ?_
      · refine sm_iload_n (i := 2) (j := 0) (pc' := 85) d_M_does_84 rfl rfl rfl (sm_bipush (pc' := 87) d_M_does_85 rfl ib_6 ?_)
        refine sm_icmp_ne (tgt := 97) (pc' := 90) d_M_does_87 rfl rfl ?_ ?_
        · refine sm_aload_n (i := 0) (j := 1) (pc' := 98) d_M_does_97 rfl rfl rfl (sm_iload_n (i := 2) (j := 0) (pc' := 99) d_M_does_98 rfl rfl rfl (sm_aload_n (i := 0) (j := 1) (pc' := 100) d_M_does_99 rfl rfl rfl ?_))
          refine sm_getR (pc' := 103) d_M_does_100 rfl fl_M_35 rfl rfl (fun v3 => ?_)
          refine sm_iload_n (i := 1) (j := 2) (pc' := 104) d_M_does_103 rfl rfl rfl (sm_iconst (pc' := 105) d_M_does_104 rfl ic_1 (sm_iadd (pc' := 106) d_M_does_105 rfl ?_))
          refine sm_iald (pc' := 107) d_M_does_106 rfl (fun v4 => ?_)
          refine sm_aload_n (i := 0) (j := 1) (pc' := 108) d_M_does_107 rfl rfl rfl ?_
          refine sm_getR (pc' := 111) d_M_does_108 rfl fl_M_35 rfl rfl (fun v5 => ?_)
          refine sm_iload_n (i := 1) (j := 2) (pc' := 112) d_M_does_111 rfl rfl rfl (sm_iconst (pc' := 113) d_M_does_112 rfl ic_2 (sm_iadd (pc' := 114) d_M_does_113 rfl ?_))
          refine sm_iald (pc' := 115) d_M_does_114 rfl (fun v6 => ?_)
          refine sm_callVi (ci := 11) (x := x0) (av := [.inl v2, .inl v4, .inl v6]) (st := []) (mc := 0) (ms := 0) (pc' := 118) d_M_does_115 rfl (sd_M_onThing x0 v2 v4 v6) m_lv rfl cv_M_onThing w_ml_M_551 rfl rfl (by decide) (Nat.le_of_ble_eq_true rfl) rfl rfl (fun v7 => ?_)
          exact sm_zretC d_M_does_118 rfl rfl
        · refine sm_aload_n (i := 0) (j := 1) (pc' := 91) d_M_does_90 rfl rfl rfl ?_
          refine sm_callVi (ci := 11) (x := x0) (av := []) (st := []) (mc := 0) (ms := 0) (pc' := 94) d_M_does_91 rfl (sd_M_isAny x0) m_lv rfl cv_M_isAny w_ml_M_548 rfl rfl (by decide) (Nat.le_of_ble_eq_true rfl) rfl rfl (fun v8 => ?_)
          refine sm_goto (tgt := 118) d_M_does_94 rfl ?_
          exact sm_zretC d_M_does_118 rfl rfl
      · refine sm_aload_n (i := 0) (j := 1) (pc' := 71) d_M_does_70 rfl rfl rfl (sm_iconst (pc' := 72) d_M_does_71 rfl ic_4 (sm_aload_n (i := 0) (j := 1) (pc' := 73) d_M_does_72 rfl rfl rfl ?_))
        refine sm_getR (pc' := 76) d_M_does_73 rfl fl_M_35 rfl rfl (fun v9 => ?_)
        refine sm_iload_n (i := 1) (j := 2) (pc' := 77) d_M_does_76 rfl rfl rfl (sm_iconst (pc' := 78) d_M_does_77 rfl ic_1 (sm_iadd (pc' := 79) d_M_does_78 rfl ?_))
        refine sm_iald (pc' := 80) d_M_does_79 rfl (fun v10 => ?_)
        refine sm_callVi (ci := 11) (x := x0) (av := [.inl 4, .inl v10]) (st := []) (mc := 0) (ms := 0) (pc' := 83) d_M_does_80 rfl (sd_M_becomes x0 4 v10) m_lv rfl cv_M_becomes w_ml_M_545 rfl rfl (by decide) (Nat.le_of_ble_eq_true rfl) rfl rfl (fun v11 => ?_)
        exact sm_zretC d_M_does_83 rfl rfl
    · refine sm_aload_n (i := 0) (j := 1) (pc' := 30) d_M_does_29 rfl rfl rfl (sm_bipush (pc' := 32) d_M_does_30 rfl ib_57 (sm_bipush (pc' := 34) d_M_does_32 rfl ib_8 (sm_aload_n (i := 0) (j := 1) (pc' := 35) d_M_does_34 rfl rfl rfl ?_)))
      refine sm_getR (pc' := 38) d_M_does_35 rfl fl_M_35 rfl rfl (fun v12 => ?_)
      refine sm_iload_n (i := 1) (j := 2) (pc' := 39) d_M_does_38 rfl rfl rfl (sm_iconst (pc' := 40) d_M_does_39 rfl ic_1 (sm_iadd (pc' := 41) d_M_does_40 rfl ?_))
      refine sm_iald (pc' := 42) d_M_does_41 rfl (fun v13 => ?_)
      refine sm_imul (pc' := 43) d_M_does_42 rfl (sm_iadd (pc' := 44) d_M_does_43 rfl (sm_aload_n (i := 0) (j := 1) (pc' := 45) d_M_does_44 rfl rfl rfl ?_))
      refine sm_getR (pc' := 48) d_M_does_45 rfl fl_M_35 rfl rfl (fun v14 => ?_)
      refine sm_iload_n (i := 1) (j := 2) (pc' := 49) d_M_does_48 rfl rfl rfl (sm_iconst (pc' := 50) d_M_does_49 rfl ic_2 (sm_iadd (pc' := 51) d_M_does_50 rfl ?_))
      refine sm_iald (pc' := 52) d_M_does_51 rfl (fun v15 => ?_)
      refine sm_iadd (pc' := 53) d_M_does_52 rfl (sm_aload_n (i := 0) (j := 1) (pc' := 54) d_M_does_53 rfl rfl rfl ?_)
      refine sm_getR (pc' := 57) d_M_does_54 rfl fl_M_35 rfl rfl (fun v16 => ?_)
      refine sm_iload_n (i := 1) (j := 2) (pc' := 58) d_M_does_57 rfl rfl rfl (sm_iconst (pc' := 59) d_M_does_58 rfl ic_3 (sm_iadd (pc' := 60) d_M_does_59 rfl ?_))
      refine sm_iald (pc' := 61) d_M_does_60 rfl (fun v17 => ?_)
      refine sm_callVi (ci := 11) (x := x0) (av := [.inl ((57 + (8 * v13)) + v15), .inl v17]) (st := []) (mc := 0) (ms := 0) (pc' := 64) d_M_does_61 rfl (sd_M_becomes x0 ((57 + (8 * v13)) + v15) v17) m_lv rfl cv_M_becomes w_ml_M_545 rfl rfl (by decide) (Nat.le_of_ble_eq_true rfl) rfl rfl (fun v18 => ?_)
      exact sm_zretC d_M_does_64 rfl rfl
  · refine sm_aload_n (i := 0) (j := 1) (pc' := 12) d_M_does_11 rfl rfl rfl (sm_aload_n (i := 0) (j := 1) (pc' := 13) d_M_does_12 rfl rfl rfl ?_)
    refine sm_getR (pc' := 16) d_M_does_13 rfl fl_M_35 rfl rfl (fun v19 => ?_)
    refine sm_iload_n (i := 1) (j := 2) (pc' := 17) d_M_does_16 rfl rfl rfl (sm_iconst (pc' := 18) d_M_does_17 rfl ic_1 (sm_iadd (pc' := 19) d_M_does_18 rfl ?_))
    refine sm_iald (pc' := 20) d_M_does_19 rfl (fun v20 => ?_)
    refine sm_callVi (ci := 11) (x := x0) (av := [.inl v20]) (st := []) (mc := 0) (ms := 0) (pc' := 23) d_M_does_20 rfl (sd_M_anyYears x0 v20) m_lv rfl cv_M_anyYears w_ml_M_542 rfl rfl (by decide) (Nat.le_of_ble_eq_true rfl) rfl rfl (fun v21 => ?_)
    exact sm_zretC d_M_does_23 rfl rfl
theorem d_M_isSo_0 : m_D k_M_isSo 0 (.aload_n 0) 1 := (by decide +kernel : decode prog_14_method_159_code 0 = .ok (.aload_n 0, 1))
theorem d_M_isSo_1 : m_D k_M_isSo 1 (.getfield 35) 3 := (by decide +kernel : decode prog_14_method_159_code 1 = .ok (.getfield 35, 3))
theorem d_M_isSo_4 : m_D k_M_isSo 4 (.iload_n 1) 1 := (by decide +kernel : decode prog_14_method_159_code 4 = .ok (.iload_n 1, 1))
theorem d_M_isSo_5 : m_D k_M_isSo 5 (.bipush 6) 2 := (by decide +kernel : decode prog_14_method_159_code 5 = .ok (.bipush 6, 2))
theorem d_M_isSo_7 : m_D k_M_isSo 7 (.iadd) 1 := (by decide +kernel : decode prog_14_method_159_code 7 = .ok (.iadd, 1))
theorem d_M_isSo_8 : m_D k_M_isSo 8 (.iaload) 1 := (by decide +kernel : decode prog_14_method_159_code 8 = .ok (.iaload, 1))
theorem d_M_isSo_9 : m_D k_M_isSo 9 (.istore_n 2) 1 := (by decide +kernel : decode prog_14_method_159_code 9 = .ok (.istore_n 2, 1))
theorem d_M_isSo_10 : m_D k_M_isSo 10 (.aload_n 0) 1 := (by decide +kernel : decode prog_14_method_159_code 10 = .ok (.aload_n 0, 1))
theorem d_M_isSo_11 : m_D k_M_isSo 11 (.getfield 35) 3 := (by decide +kernel : decode prog_14_method_159_code 11 = .ok (.getfield 35, 3))
theorem d_M_isSo_14 : m_D k_M_isSo 14 (.iload_n 1) 1 := (by decide +kernel : decode prog_14_method_159_code 14 = .ok (.iload_n 1, 1))
theorem d_M_isSo_15 : m_D k_M_isSo 15 (.iconst 1) 1 := (by decide +kernel : decode prog_14_method_159_code 15 = .ok (.iconst 1, 1))
theorem d_M_isSo_16 : m_D k_M_isSo 16 (.iadd) 1 := (by decide +kernel : decode prog_14_method_159_code 16 = .ok (.iadd, 1))
theorem d_M_isSo_17 : m_D k_M_isSo 17 (.iaload) 1 := (by decide +kernel : decode prog_14_method_159_code 17 = .ok (.iaload, 1))
theorem d_M_isSo_18 : m_D k_M_isSo 18 (.istore_n 3) 1 := (by decide +kernel : decode prog_14_method_159_code 18 = .ok (.istore_n 3, 1))
theorem d_M_isSo_19 : m_D k_M_isSo 19 (.iload_n 2) 1 := (by decide +kernel : decode prog_14_method_159_code 19 = .ok (.iload_n 2, 1))
theorem d_M_isSo_20 : m_D k_M_isSo 20 (.ifCond .ne 9) 3 := (by decide +kernel : decode prog_14_method_159_code 20 = .ok (.ifCond .ne 9, 3))
theorem d_M_isSo_23 : m_D k_M_isSo 23 (.aload_n 0) 1 := (by decide +kernel : decode prog_14_method_159_code 23 = .ok (.aload_n 0, 1))
theorem d_M_isSo_24 : m_D k_M_isSo 24 (.iload_n 3) 1 := (by decide +kernel : decode prog_14_method_159_code 24 = .ok (.iload_n 3, 1))
theorem d_M_isSo_25 : m_D k_M_isSo 25 (.invokevirtual 319) 3 := (by decide +kernel : decode prog_14_method_159_code 25 = .ok (.invokevirtual 319, 3))
theorem d_M_isSo_28 : m_D k_M_isSo 28 (.ireturn) 1 := (by decide +kernel : decode prog_14_method_159_code 28 = .ok (.ireturn, 1))
theorem d_M_isSo_29 : m_D k_M_isSo 29 (.iload_n 2) 1 := (by decide +kernel : decode prog_14_method_159_code 29 = .ok (.iload_n 2, 1))
theorem d_M_isSo_30 : m_D k_M_isSo 30 (.iconst 2) 1 := (by decide +kernel : decode prog_14_method_159_code 30 = .ok (.iconst 2, 1))
theorem d_M_isSo_31 : m_D k_M_isSo 31 (.if_icmp .ne 9) 3 := (by decide +kernel : decode prog_14_method_159_code 31 = .ok (.if_icmp .ne 9, 3))
theorem d_M_isSo_34 : m_D k_M_isSo 34 (.aload_n 0) 1 := (by decide +kernel : decode prog_14_method_159_code 34 = .ok (.aload_n 0, 1))
theorem d_M_isSo_35 : m_D k_M_isSo 35 (.iload_n 3) 1 := (by decide +kernel : decode prog_14_method_159_code 35 = .ok (.iload_n 3, 1))
theorem d_M_isSo_36 : m_D k_M_isSo 36 (.invokevirtual 313) 3 := (by decide +kernel : decode prog_14_method_159_code 36 = .ok (.invokevirtual 313, 3))
theorem d_M_isSo_39 : m_D k_M_isSo 39 (.ireturn) 1 := (by decide +kernel : decode prog_14_method_159_code 39 = .ok (.ireturn, 1))
theorem d_M_isSo_40 : m_D k_M_isSo 40 (.aload_n 0) 1 := (by decide +kernel : decode prog_14_method_159_code 40 = .ok (.aload_n 0, 1))
theorem d_M_isSo_41 : m_D k_M_isSo 41 (.getfield 35) 3 := (by decide +kernel : decode prog_14_method_159_code 41 = .ok (.getfield 35, 3))
theorem d_M_isSo_44 : m_D k_M_isSo 44 (.bipush 41) 2 := (by decide +kernel : decode prog_14_method_159_code 44 = .ok (.bipush 41, 2))
theorem d_M_isSo_46 : m_D k_M_isSo 46 (.iload_n 3) 1 := (by decide +kernel : decode prog_14_method_159_code 46 = .ok (.iload_n 3, 1))
theorem d_M_isSo_47 : m_D k_M_isSo 47 (.iadd) 1 := (by decide +kernel : decode prog_14_method_159_code 47 = .ok (.iadd, 1))
theorem d_M_isSo_48 : m_D k_M_isSo 48 (.iaload) 1 := (by decide +kernel : decode prog_14_method_159_code 48 = .ok (.iaload, 1))
theorem d_M_isSo_49 : m_D k_M_isSo 49 (.istore 4) 2 := (by decide +kernel : decode prog_14_method_159_code 49 = .ok (.istore 4, 2))
theorem d_M_isSo_51 : m_D k_M_isSo 51 (.aload_n 0) 1 := (by decide +kernel : decode prog_14_method_159_code 51 = .ok (.aload_n 0, 1))
theorem d_M_isSo_52 : m_D k_M_isSo 52 (.getfield 35) 3 := (by decide +kernel : decode prog_14_method_159_code 52 = .ok (.getfield 35, 3))
theorem d_M_isSo_55 : m_D k_M_isSo 55 (.iload_n 1) 1 := (by decide +kernel : decode prog_14_method_159_code 55 = .ok (.iload_n 1, 1))
theorem d_M_isSo_56 : m_D k_M_isSo 56 (.bipush 7) 2 := (by decide +kernel : decode prog_14_method_159_code 56 = .ok (.bipush 7, 2))
theorem d_M_isSo_58 : m_D k_M_isSo 58 (.iadd) 1 := (by decide +kernel : decode prog_14_method_159_code 58 = .ok (.iadd, 1))
theorem d_M_isSo_59 : m_D k_M_isSo 59 (.iaload) 1 := (by decide +kernel : decode prog_14_method_159_code 59 = .ok (.iaload, 1))
theorem d_M_isSo_60 : m_D k_M_isSo 60 (.bipush 60) 2 := (by decide +kernel : decode prog_14_method_159_code 60 = .ok (.bipush 60, 2))
theorem d_M_isSo_62 : m_D k_M_isSo 62 (.if_icmp .ne 24) 3 := (by decide +kernel : decode prog_14_method_159_code 62 = .ok (.if_icmp .ne 24, 3))
theorem d_M_isSo_65 : m_D k_M_isSo 65 (.iload 4) 2 := (by decide +kernel : decode prog_14_method_159_code 65 = .ok (.iload 4, 2))
theorem d_M_isSo_67 : m_D k_M_isSo 67 (.aload_n 0) 1 := (by decide +kernel : decode prog_14_method_159_code 67 = .ok (.aload_n 0, 1))
theorem d_M_isSo_68 : m_D k_M_isSo 68 (.getfield 35) 3 := (by decide +kernel : decode prog_14_method_159_code 68 = .ok (.getfield 35, 3))
theorem d_M_isSo_71 : m_D k_M_isSo 71 (.iload_n 1) 1 := (by decide +kernel : decode prog_14_method_159_code 71 = .ok (.iload_n 1, 1))
theorem d_M_isSo_72 : m_D k_M_isSo 72 (.iconst 2) 1 := (by decide +kernel : decode prog_14_method_159_code 72 = .ok (.iconst 2, 1))
theorem d_M_isSo_73 : m_D k_M_isSo 73 (.iadd) 1 := (by decide +kernel : decode prog_14_method_159_code 73 = .ok (.iadd, 1))
theorem d_M_isSo_74 : m_D k_M_isSo 74 (.iaload) 1 := (by decide +kernel : decode prog_14_method_159_code 74 = .ok (.iaload, 1))
theorem d_M_isSo_75 : m_D k_M_isSo 75 (.if_icmp .ge 7) 3 := (by decide +kernel : decode prog_14_method_159_code 75 = .ok (.if_icmp .ge 7, 3))
theorem d_M_isSo_78 : m_D k_M_isSo 78 (.iconst 1) 1 := (by decide +kernel : decode prog_14_method_159_code 78 = .ok (.iconst 1, 1))
theorem d_M_isSo_79 : m_D k_M_isSo 79 (.goto 60) 3 := (by decide +kernel : decode prog_14_method_159_code 79 = .ok (.goto 60, 3))
theorem d_M_isSo_82 : m_D k_M_isSo 82 (.iconst 0) 1 := (by decide +kernel : decode prog_14_method_159_code 82 = .ok (.iconst 0, 1))
theorem d_M_isSo_83 : m_D k_M_isSo 83 (.goto 56) 3 := (by decide +kernel : decode prog_14_method_159_code 83 = .ok (.goto 56, 3))
theorem d_M_isSo_86 : m_D k_M_isSo 86 (.aload_n 0) 1 := (by decide +kernel : decode prog_14_method_159_code 86 = .ok (.aload_n 0, 1))
theorem d_M_isSo_87 : m_D k_M_isSo 87 (.getfield 35) 3 := (by decide +kernel : decode prog_14_method_159_code 87 = .ok (.getfield 35, 3))
theorem d_M_isSo_90 : m_D k_M_isSo 90 (.iload_n 1) 1 := (by decide +kernel : decode prog_14_method_159_code 90 = .ok (.iload_n 1, 1))
theorem d_M_isSo_91 : m_D k_M_isSo 91 (.bipush 7) 2 := (by decide +kernel : decode prog_14_method_159_code 91 = .ok (.bipush 7, 2))
theorem d_M_isSo_93 : m_D k_M_isSo 93 (.iadd) 1 := (by decide +kernel : decode prog_14_method_159_code 93 = .ok (.iadd, 1))
theorem d_M_isSo_94 : m_D k_M_isSo 94 (.iaload) 1 := (by decide +kernel : decode prog_14_method_159_code 94 = .ok (.iaload, 1))
theorem d_M_isSo_95 : m_D k_M_isSo 95 (.bipush 62) 2 := (by decide +kernel : decode prog_14_method_159_code 95 = .ok (.bipush 62, 2))
theorem d_M_isSo_97 : m_D k_M_isSo 97 (.if_icmp .ne 24) 3 := (by decide +kernel : decode prog_14_method_159_code 97 = .ok (.if_icmp .ne 24, 3))
theorem d_M_isSo_100 : m_D k_M_isSo 100 (.iload 4) 2 := (by decide +kernel : decode prog_14_method_159_code 100 = .ok (.iload 4, 2))
theorem d_M_isSo_102 : m_D k_M_isSo 102 (.aload_n 0) 1 := (by decide +kernel : decode prog_14_method_159_code 102 = .ok (.aload_n 0, 1))
theorem d_M_isSo_103 : m_D k_M_isSo 103 (.getfield 35) 3 := (by decide +kernel : decode prog_14_method_159_code 103 = .ok (.getfield 35, 3))
theorem d_M_isSo_106 : m_D k_M_isSo 106 (.iload_n 1) 1 := (by decide +kernel : decode prog_14_method_159_code 106 = .ok (.iload_n 1, 1))
theorem d_M_isSo_107 : m_D k_M_isSo 107 (.iconst 2) 1 := (by decide +kernel : decode prog_14_method_159_code 107 = .ok (.iconst 2, 1))
theorem d_M_isSo_108 : m_D k_M_isSo 108 (.iadd) 1 := (by decide +kernel : decode prog_14_method_159_code 108 = .ok (.iadd, 1))
theorem d_M_isSo_109 : m_D k_M_isSo 109 (.iaload) 1 := (by decide +kernel : decode prog_14_method_159_code 109 = .ok (.iaload, 1))
theorem d_M_isSo_110 : m_D k_M_isSo 110 (.if_icmp .le 7) 3 := (by decide +kernel : decode prog_14_method_159_code 110 = .ok (.if_icmp .le 7, 3))
theorem d_M_isSo_113 : m_D k_M_isSo 113 (.iconst 1) 1 := (by decide +kernel : decode prog_14_method_159_code 113 = .ok (.iconst 1, 1))
theorem d_M_isSo_114 : m_D k_M_isSo 114 (.goto 25) 3 := (by decide +kernel : decode prog_14_method_159_code 114 = .ok (.goto 25, 3))
theorem d_M_isSo_117 : m_D k_M_isSo 117 (.iconst 0) 1 := (by decide +kernel : decode prog_14_method_159_code 117 = .ok (.iconst 0, 1))
theorem d_M_isSo_118 : m_D k_M_isSo 118 (.goto 21) 3 := (by decide +kernel : decode prog_14_method_159_code 118 = .ok (.goto 21, 3))
theorem d_M_isSo_121 : m_D k_M_isSo 121 (.iload 4) 2 := (by decide +kernel : decode prog_14_method_159_code 121 = .ok (.iload 4, 2))
theorem d_M_isSo_123 : m_D k_M_isSo 123 (.aload_n 0) 1 := (by decide +kernel : decode prog_14_method_159_code 123 = .ok (.aload_n 0, 1))
theorem d_M_isSo_124 : m_D k_M_isSo 124 (.getfield 35) 3 := (by decide +kernel : decode prog_14_method_159_code 124 = .ok (.getfield 35, 3))
theorem d_M_isSo_127 : m_D k_M_isSo 127 (.iload_n 1) 1 := (by decide +kernel : decode prog_14_method_159_code 127 = .ok (.iload_n 1, 1))
theorem d_M_isSo_128 : m_D k_M_isSo 128 (.iconst 2) 1 := (by decide +kernel : decode prog_14_method_159_code 128 = .ok (.iconst 2, 1))
theorem d_M_isSo_129 : m_D k_M_isSo 129 (.iadd) 1 := (by decide +kernel : decode prog_14_method_159_code 129 = .ok (.iadd, 1))
theorem d_M_isSo_130 : m_D k_M_isSo 130 (.iaload) 1 := (by decide +kernel : decode prog_14_method_159_code 130 = .ok (.iaload, 1))
theorem d_M_isSo_131 : m_D k_M_isSo 131 (.if_icmp .ne 7) 3 := (by decide +kernel : decode prog_14_method_159_code 131 = .ok (.if_icmp .ne 7, 3))
theorem d_M_isSo_134 : m_D k_M_isSo 134 (.iconst 1) 1 := (by decide +kernel : decode prog_14_method_159_code 134 = .ok (.iconst 1, 1))
theorem d_M_isSo_135 : m_D k_M_isSo 135 (.goto 4) 3 := (by decide +kernel : decode prog_14_method_159_code 135 = .ok (.goto 4, 3))
theorem d_M_isSo_138 : m_D k_M_isSo 138 (.iconst 0) 1 := (by decide +kernel : decode prog_14_method_159_code 138 = .ok (.iconst 0, 1))
theorem d_M_isSo_139 : m_D k_M_isSo 139 (.ireturn) 1 := (by decide +kernel : decode prog_14_method_159_code 139 = .ok (.ireturn, 1))
def fn_M_isSo (x0 : Option mA) (x1 : Int32) : mP Int32 :=
  m_th 11 x0 <|
  m_bd (m_gR 11 20 x0) fun v1 =>
  m_bd (m_aI 0 v1 (x1 + 6)) fun v2 =>
  m_bd (m_gR 11 20 x0) fun v3 =>
  m_bd (m_aI 0 v3 (x1 + 1)) fun v4 =>
  if v2 = 0 then
    m_bd (fn_M_isThrough x0 v4) fun v18 =>
    m_bd (m_cz v18) fun _ => m_rt v18
  else
    if v2 = 2 then
      m_bd (fn_M_showsNow x0 v4) fun v17 =>
      m_bd (m_cz v17) fun _ => m_rt v17
    else
      m_bd (m_gR 11 20 x0) fun v5 =>
      m_bd (m_aI 0 v5 (41 + v4)) fun v6 =>
      m_bd (m_gR 11 20 x0) fun v7 =>
      m_bd (m_aI 0 v7 (x1 + 7)) fun v8 =>
      if v8 = 60 then
        m_bd (m_gR 11 20 x0) fun v15 =>
        m_bd (m_aI 0 v15 (x1 + 2)) fun v16 =>
        if v16 ≤ v6 then
          m_rt 0
        else
          m_rt 1
      else
        m_bd (m_gR 11 20 x0) fun v9 =>
        m_bd (m_aI 0 v9 (x1 + 7)) fun v10 =>
        if v10 = 62 then
          m_bd (m_gR 11 20 x0) fun v13 =>
          m_bd (m_aI 0 v13 (x1 + 2)) fun v14 =>
          if v6 ≤ v14 then
            m_rt 0
          else
            m_rt 1
        else
          m_bd (m_gR 11 20 x0) fun v11 =>
          m_bd (m_aI 0 v11 (x1 + 2)) fun v12 =>
          if v6 = v12 then
            m_rt 1
          else
            m_rt 0
set_option maxHeartbeats 4000000 in
set_option maxRecDepth 100000 in
theorem sd_M_isSo (x0 : Option mA) (x1 : Int32) : m_Sm k_M_isSo 2 0 0 [.inr (.inr x0), .inl x1] (fn_M_isSo x0 x1) (fun b => some (.inl b)) := by
  refine ⟨Nat.le_of_ble_eq_true rfl, ?_⟩
  refine sm_th ?_
  refine sm_aload_n (i := 0) (j := 0) (pc' := 1) d_M_isSo_0 rfl rfl rfl ?_
  refine sm_getR (pc' := 4) d_M_isSo_1 rfl fl_M_35 rfl rfl (fun v1 => ?_)
  refine sm_iload_n (i := 1) (j := 1) (pc' := 5) d_M_isSo_4 rfl rfl rfl (sm_bipush (pc' := 7) d_M_isSo_5 rfl ib_6 (sm_iadd (pc' := 8) d_M_isSo_7 rfl ?_))
  refine sm_iald (pc' := 9) d_M_isSo_8 rfl (fun v2 => ?_)
  refine sm_istore_n (i := 2) (L' := [(2, .inl v2), (0, .inr (.inr x0)), (1, .inl x1)]) (pc' := 10) d_M_isSo_9 rfl rfl (Nat.le_of_ble_eq_true rfl) rfl (sm_aload_n (i := 0) (j := 1) (pc' := 11) d_M_isSo_10 rfl rfl rfl ?_)
  refine sm_getR (pc' := 14) d_M_isSo_11 rfl fl_M_35 rfl rfl (fun v3 => ?_)
  refine sm_iload_n (i := 1) (j := 2) (pc' := 15) d_M_isSo_14 rfl rfl rfl (sm_iconst (pc' := 16) d_M_isSo_15 rfl ic_1 (sm_iadd (pc' := 17) d_M_isSo_16 rfl ?_))
  refine sm_iald (pc' := 18) d_M_isSo_17 rfl (fun v4 => ?_)
  refine sm_istore_n (i := 3) (L' := [(3, .inl v4), (2, .inl v2), (0, .inr (.inr x0)), (1, .inl x1)]) (pc' := 19) d_M_isSo_18 rfl rfl (Nat.le_of_ble_eq_true rfl) rfl (sm_iload_n (i := 2) (j := 1) (pc' := 20) d_M_isSo_19 rfl rfl rfl ?_)
  refine sm_if_ne (tgt := 29) (pc' := 23) d_M_isSo_20 rfl rfl ?_ ?_
  · refine sm_iload_n (i := 2) (j := 1) (pc' := 30) d_M_isSo_29 rfl rfl rfl (sm_iconst (pc' := 31) d_M_isSo_30 rfl ic_2 ?_)
    refine sm_icmp_ne (tgt := 40) (pc' := 34) d_M_isSo_31 rfl rfl ?_ ?_
    · refine sm_aload_n (i := 0) (j := 2) (pc' := 41) d_M_isSo_40 rfl rfl rfl ?_
      refine sm_getR (pc' := 44) d_M_isSo_41 rfl fl_M_35 rfl rfl (fun v5 => ?_)
      refine sm_bipush (pc' := 46) d_M_isSo_44 rfl ib_41 (sm_iload_n (i := 3) (j := 0) (pc' := 47) d_M_isSo_46 rfl rfl rfl (sm_iadd (pc' := 48) d_M_isSo_47 rfl ?_))
      refine sm_iald (pc' := 49) d_M_isSo_48 rfl (fun v6 => ?_)
      refine sm_istore (L' := [(4, .inl v6), (3, .inl v4), (2, .inl v2), (0, .inr (.inr x0)), (1, .inl x1)]) (pc' := 51) d_M_isSo_49 rfl (Nat.le_of_ble_eq_true rfl) rfl (sm_aload_n (i := 0) (j := 3) (pc' := 52) d_M_isSo_51 rfl rfl rfl ?_)
      refine sm_getR (pc' := 55) d_M_isSo_52 rfl fl_M_35 rfl rfl (fun v7 => ?_)
      refine sm_iload_n (i := 1) (j := 4) (pc' := 56) d_M_isSo_55 rfl rfl rfl (sm_bipush (pc' := 58) d_M_isSo_56 rfl ib_7 (sm_iadd (pc' := 59) d_M_isSo_58 rfl ?_))
      refine sm_iald (pc' := 60) d_M_isSo_59 rfl (fun v8 => ?_)
      refine sm_bipush (pc' := 62) d_M_isSo_60 rfl ib_60 ?_
      refine sm_icmp_ne (tgt := 86) (pc' := 65) d_M_isSo_62 rfl rfl ?_ ?_
      · refine sm_aload_n (i := 0) (j := 3) (pc' := 87) d_M_isSo_86 rfl rfl rfl ?_
        refine sm_getR (pc' := 90) d_M_isSo_87 rfl fl_M_35 rfl rfl (fun v9 => ?_)
        refine sm_iload_n (i := 1) (j := 4) (pc' := 91) d_M_isSo_90 rfl rfl rfl (sm_bipush (pc' := 93) d_M_isSo_91 rfl ib_7 (sm_iadd (pc' := 94) d_M_isSo_93 rfl ?_))
        refine sm_iald (pc' := 95) d_M_isSo_94 rfl (fun v10 => ?_)
        refine sm_bipush (pc' := 97) d_M_isSo_95 rfl ib_62 ?_
        refine sm_icmp_ne (tgt := 121) (pc' := 100) d_M_isSo_97 rfl rfl ?_ ?_
        · refine sm_iload (j := 0) (pc' := 123) d_M_isSo_121 rfl rfl (sm_aload_n (i := 0) (j := 3) (pc' := 124) d_M_isSo_123 rfl rfl rfl ?_)
          refine sm_getR (pc' := 127) d_M_isSo_124 rfl fl_M_35 rfl rfl (fun v11 => ?_)
          refine sm_iload_n (i := 1) (j := 4) (pc' := 128) d_M_isSo_127 rfl rfl rfl (sm_iconst (pc' := 129) d_M_isSo_128 rfl ic_2 (sm_iadd (pc' := 130) d_M_isSo_129 rfl ?_))
          refine sm_iald (pc' := 131) d_M_isSo_130 rfl (fun v12 => ?_)
          refine sm_icmp_ne (tgt := 138) (pc' := 134) d_M_isSo_131 rfl rfl ?_ ?_
          · refine sm_iconst (pc' := 139) d_M_isSo_138 rfl ic_0 ?_
            exact sm_zreturn d_M_isSo_139 rfl (by decide) rfl
          · refine sm_iconst (pc' := 135) d_M_isSo_134 rfl ic_1 (sm_goto (tgt := 139) d_M_isSo_135 rfl ?_)
            exact sm_zreturn d_M_isSo_139 rfl (by decide) rfl
        · refine sm_iload (j := 0) (pc' := 102) d_M_isSo_100 rfl rfl (sm_aload_n (i := 0) (j := 3) (pc' := 103) d_M_isSo_102 rfl rfl rfl ?_)
          refine sm_getR (pc' := 106) d_M_isSo_103 rfl fl_M_35 rfl rfl (fun v13 => ?_)
          refine sm_iload_n (i := 1) (j := 4) (pc' := 107) d_M_isSo_106 rfl rfl rfl (sm_iconst (pc' := 108) d_M_isSo_107 rfl ic_2 (sm_iadd (pc' := 109) d_M_isSo_108 rfl ?_))
          refine sm_iald (pc' := 110) d_M_isSo_109 rfl (fun v14 => ?_)
          refine sm_icmp_le (tgt := 117) (pc' := 113) d_M_isSo_110 rfl rfl ?_ ?_
          · refine sm_iconst (pc' := 118) d_M_isSo_117 rfl ic_0 (sm_goto (tgt := 139) d_M_isSo_118 rfl ?_)
            exact sm_zreturn d_M_isSo_139 rfl (by decide) rfl
          · refine sm_iconst (pc' := 114) d_M_isSo_113 rfl ic_1 (sm_goto (tgt := 139) d_M_isSo_114 rfl ?_)
            exact sm_zreturn d_M_isSo_139 rfl (by decide) rfl
      · refine sm_iload (j := 0) (pc' := 67) d_M_isSo_65 rfl rfl (sm_aload_n (i := 0) (j := 3) (pc' := 68) d_M_isSo_67 rfl rfl rfl ?_)
        refine sm_getR (pc' := 71) d_M_isSo_68 rfl fl_M_35 rfl rfl (fun v15 => ?_)
        refine sm_iload_n (i := 1) (j := 4) (pc' := 72) d_M_isSo_71 rfl rfl rfl (sm_iconst (pc' := 73) d_M_isSo_72 rfl ic_2 (sm_iadd (pc' := 74) d_M_isSo_73 rfl ?_))
        refine sm_iald (pc' := 75) d_M_isSo_74 rfl (fun v16 => ?_)
        refine sm_icmp_ge (tgt := 82) (pc' := 78) d_M_isSo_75 rfl rfl ?_ ?_
        · refine sm_iconst (pc' := 83) d_M_isSo_82 rfl ic_0 (sm_goto (tgt := 139) d_M_isSo_83 rfl ?_)
          exact sm_zreturn d_M_isSo_139 rfl (by decide) rfl
        · refine sm_iconst (pc' := 79) d_M_isSo_78 rfl ic_1 (sm_goto (tgt := 139) d_M_isSo_79 rfl ?_)
          exact sm_zreturn d_M_isSo_139 rfl (by decide) rfl
    · refine sm_aload_n (i := 0) (j := 2) (pc' := 35) d_M_isSo_34 rfl rfl rfl (sm_iload_n (i := 3) (j := 0) (pc' := 36) d_M_isSo_35 rfl rfl rfl ?_)
      refine sm_callVi (ci := 11) (x := x0) (av := [.inl v4]) (st := []) (mc := 0) (ms := 0) (pc' := 39) d_M_isSo_36 rfl (sd_M_showsNow x0 v4) m_lv rfl cv_M_showsNow w_ml_M_313 rfl rfl (by decide) (Nat.le_of_ble_eq_true rfl) rfl rfl (fun v17 => ?_)
      exact sm_zretC d_M_isSo_39 rfl rfl
  · refine sm_aload_n (i := 0) (j := 2) (pc' := 24) d_M_isSo_23 rfl rfl rfl (sm_iload_n (i := 3) (j := 0) (pc' := 25) d_M_isSo_24 rfl rfl rfl ?_)
    refine sm_callVi (ci := 11) (x := x0) (av := [.inl v4]) (st := []) (mc := 0) (ms := 0) (pc' := 28) d_M_isSo_25 rfl (sd_M_isThrough x0 v4) m_lv rfl cv_M_isThrough w_ml_M_319 rfl rfl (by decide) (Nat.le_of_ble_eq_true rfl) rfl rfl (fun v18 => ?_)
    exact sm_zretC d_M_isSo_28 rfl rfl
theorem d_M_doOne_0 : m_D k_M_doOne 0 (.aload_n 0) 1 := (by decide +kernel : decode prog_14_method_160_code 0 = .ok (.aload_n 0, 1))
theorem d_M_doOne_1 : m_D k_M_doOne 1 (.getfield 554) 3 := (by decide +kernel : decode prog_14_method_160_code 1 = .ok (.getfield 554, 3))
theorem d_M_doOne_4 : m_D k_M_doOne 4 (.sipush 300) 3 := (by decide +kernel : decode prog_14_method_160_code 4 = .ok (.sipush 300, 3))
theorem d_M_doOne_7 : m_D k_M_doOne 7 (.if_icmp .ne 14) 3 := (by decide +kernel : decode prog_14_method_160_code 7 = .ok (.if_icmp .ne 14, 3))
theorem d_M_doOne_10 : m_D k_M_doOne 10 (.aload_n 0) 1 := (by decide +kernel : decode prog_14_method_160_code 10 = .ok (.aload_n 0, 1))
theorem d_M_doOne_11 : m_D k_M_doOne 11 (.iconst 1) 1 := (by decide +kernel : decode prog_14_method_160_code 11 = .ok (.iconst 1, 1))
theorem d_M_doOne_12 : m_D k_M_doOne 12 (.putfield 557) 3 := (by decide +kernel : decode prog_14_method_160_code 12 = .ok (.putfield 557, 3))
theorem d_M_doOne_15 : m_D k_M_doOne 15 (.aload_n 0) 1 := (by decide +kernel : decode prog_14_method_160_code 15 = .ok (.aload_n 0, 1))
theorem d_M_doOne_16 : m_D k_M_doOne 16 (.iconst 1) 1 := (by decide +kernel : decode prog_14_method_160_code 16 = .ok (.iconst 1, 1))
theorem d_M_doOne_17 : m_D k_M_doOne 17 (.putfield 561) 3 := (by decide +kernel : decode prog_14_method_160_code 17 = .ok (.putfield 561, 3))
theorem d_M_doOne_20 : m_D k_M_doOne 20 (.return_) 1 := (by decide +kernel : decode prog_14_method_160_code 20 = .ok (.return_, 1))
theorem d_M_doOne_21 : m_D k_M_doOne 21 (.aload_n 0) 1 := (by decide +kernel : decode prog_14_method_160_code 21 = .ok (.aload_n 0, 1))
theorem d_M_doOne_22 : m_D k_M_doOne 22 (.dup) 1 := (by decide +kernel : decode prog_14_method_160_code 22 = .ok (.dup, 1))
theorem d_M_doOne_23 : m_D k_M_doOne 23 (.getfield 554) 3 := (by decide +kernel : decode prog_14_method_160_code 23 = .ok (.getfield 554, 3))
theorem d_M_doOne_26 : m_D k_M_doOne 26 (.iconst 1) 1 := (by decide +kernel : decode prog_14_method_160_code 26 = .ok (.iconst 1, 1))
theorem d_M_doOne_27 : m_D k_M_doOne 27 (.iadd) 1 := (by decide +kernel : decode prog_14_method_160_code 27 = .ok (.iadd, 1))
theorem d_M_doOne_28 : m_D k_M_doOne 28 (.putfield 554) 3 := (by decide +kernel : decode prog_14_method_160_code 28 = .ok (.putfield 554, 3))
theorem d_M_doOne_31 : m_D k_M_doOne 31 (.bipush 107) 2 := (by decide +kernel : decode prog_14_method_160_code 31 = .ok (.bipush 107, 2))
theorem d_M_doOne_33 : m_D k_M_doOne 33 (.bipush 9) 2 := (by decide +kernel : decode prog_14_method_160_code 33 = .ok (.bipush 9, 2))
theorem d_M_doOne_35 : m_D k_M_doOne 35 (.iload_n 1) 1 := (by decide +kernel : decode prog_14_method_160_code 35 = .ok (.iload_n 1, 1))
theorem d_M_doOne_36 : m_D k_M_doOne 36 (.imul) 1 := (by decide +kernel : decode prog_14_method_160_code 36 = .ok (.imul, 1))
theorem d_M_doOne_37 : m_D k_M_doOne 37 (.iadd) 1 := (by decide +kernel : decode prog_14_method_160_code 37 = .ok (.iadd, 1))
theorem d_M_doOne_38 : m_D k_M_doOne 38 (.istore_n 2) 1 := (by decide +kernel : decode prog_14_method_160_code 38 = .ok (.istore_n 2, 1))
theorem d_M_doOne_39 : m_D k_M_doOne 39 (.aload_n 0) 1 := (by decide +kernel : decode prog_14_method_160_code 39 = .ok (.aload_n 0, 1))
theorem d_M_doOne_40 : m_D k_M_doOne 40 (.getfield 35) 3 := (by decide +kernel : decode prog_14_method_160_code 40 = .ok (.getfield 35, 3))
theorem d_M_doOne_43 : m_D k_M_doOne 43 (.iload_n 2) 1 := (by decide +kernel : decode prog_14_method_160_code 43 = .ok (.iload_n 2, 1))
theorem d_M_doOne_44 : m_D k_M_doOne 44 (.iaload) 1 := (by decide +kernel : decode prog_14_method_160_code 44 = .ok (.iaload, 1))
theorem d_M_doOne_45 : m_D k_M_doOne 45 (.istore_n 3) 1 := (by decide +kernel : decode prog_14_method_160_code 45 = .ok (.istore_n 3, 1))
theorem d_M_doOne_46 : m_D k_M_doOne 46 (.iload_n 3) 1 := (by decide +kernel : decode prog_14_method_160_code 46 = .ok (.iload_n 3, 1))
theorem d_M_doOne_47 : m_D k_M_doOne 47 (.bipush 7) 2 := (by decide +kernel : decode prog_14_method_160_code 47 = .ok (.bipush 7, 2))
theorem d_M_doOne_49 : m_D k_M_doOne 49 (.if_icmp .ge 28) 3 := (by decide +kernel : decode prog_14_method_160_code 49 = .ok (.if_icmp .ge 28, 3))
theorem d_M_doOne_52 : m_D k_M_doOne 52 (.aload_n 0) 1 := (by decide +kernel : decode prog_14_method_160_code 52 = .ok (.aload_n 0, 1))
theorem d_M_doOne_53 : m_D k_M_doOne 53 (.dup) 1 := (by decide +kernel : decode prog_14_method_160_code 53 = .ok (.dup, 1))
theorem d_M_doOne_54 : m_D k_M_doOne 54 (.getfield 564) 3 := (by decide +kernel : decode prog_14_method_160_code 54 = .ok (.getfield 564, 3))
theorem d_M_doOne_57 : m_D k_M_doOne 57 (.aload_n 0) 1 := (by decide +kernel : decode prog_14_method_160_code 57 = .ok (.aload_n 0, 1))
theorem d_M_doOne_58 : m_D k_M_doOne 58 (.iload_n 2) 1 := (by decide +kernel : decode prog_14_method_160_code 58 = .ok (.iload_n 2, 1))
theorem d_M_doOne_59 : m_D k_M_doOne 59 (.invokevirtual 567) 3 := (by decide +kernel : decode prog_14_method_160_code 59 = .ok (.invokevirtual 567, 3))
theorem d_M_doOne_62 : m_D k_M_doOne 62 (.ifCond .eq 7) 3 := (by decide +kernel : decode prog_14_method_160_code 62 = .ok (.ifCond .eq 7, 3))
theorem d_M_doOne_65 : m_D k_M_doOne 65 (.iconst 0) 1 := (by decide +kernel : decode prog_14_method_160_code 65 = .ok (.iconst 0, 1))
theorem d_M_doOne_66 : m_D k_M_doOne 66 (.goto 4) 3 := (by decide +kernel : decode prog_14_method_160_code 66 = .ok (.goto 4, 3))
theorem d_M_doOne_69 : m_D k_M_doOne 69 (.iconst 1) 1 := (by decide +kernel : decode prog_14_method_160_code 69 = .ok (.iconst 1, 1))
theorem d_M_doOne_70 : m_D k_M_doOne 70 (.iadd) 1 := (by decide +kernel : decode prog_14_method_160_code 70 = .ok (.iadd, 1))
theorem d_M_doOne_71 : m_D k_M_doOne 71 (.putfield 564) 3 := (by decide +kernel : decode prog_14_method_160_code 71 = .ok (.putfield 564, 3))
theorem d_M_doOne_74 : m_D k_M_doOne 74 (.goto 101) 3 := (by decide +kernel : decode prog_14_method_160_code 74 = .ok (.goto 101, 3))
theorem d_M_doOne_77 : m_D k_M_doOne 77 (.iload_n 3) 1 := (by decide +kernel : decode prog_14_method_160_code 77 = .ok (.iload_n 3, 1))
theorem d_M_doOne_78 : m_D k_M_doOne 78 (.bipush 7) 2 := (by decide +kernel : decode prog_14_method_160_code 78 = .ok (.bipush 7, 2))
theorem d_M_doOne_80 : m_D k_M_doOne 80 (.if_icmp .ne 30) 3 := (by decide +kernel : decode prog_14_method_160_code 80 = .ok (.if_icmp .ne 30, 3))
theorem d_M_doOne_83 : m_D k_M_doOne 83 (.aload_n 0) 1 := (by decide +kernel : decode prog_14_method_160_code 83 = .ok (.aload_n 0, 1))
theorem d_M_doOne_84 : m_D k_M_doOne 84 (.iload_n 2) 1 := (by decide +kernel : decode prog_14_method_160_code 84 = .ok (.iload_n 2, 1))
theorem d_M_doOne_85 : m_D k_M_doOne 85 (.invokevirtual 570) 3 := (by decide +kernel : decode prog_14_method_160_code 85 = .ok (.invokevirtual 570, 3))
theorem d_M_doOne_88 : m_D k_M_doOne 88 (.ifCond .eq 22) 3 := (by decide +kernel : decode prog_14_method_160_code 88 = .ok (.ifCond .eq 22, 3))
theorem d_M_doOne_91 : m_D k_M_doOne 91 (.aload_n 0) 1 := (by decide +kernel : decode prog_14_method_160_code 91 = .ok (.aload_n 0, 1))
theorem d_M_doOne_92 : m_D k_M_doOne 92 (.iload_n 1) 1 := (by decide +kernel : decode prog_14_method_160_code 92 = .ok (.iload_n 1, 1))
theorem d_M_doOne_93 : m_D k_M_doOne 93 (.iconst 1) 1 := (by decide +kernel : decode prog_14_method_160_code 93 = .ok (.iconst 1, 1))
theorem d_M_doOne_94 : m_D k_M_doOne 94 (.iadd) 1 := (by decide +kernel : decode prog_14_method_160_code 94 = .ok (.iadd, 1))
theorem d_M_doOne_95 : m_D k_M_doOne 95 (.aload_n 0) 1 := (by decide +kernel : decode prog_14_method_160_code 95 = .ok (.aload_n 0, 1))
theorem d_M_doOne_96 : m_D k_M_doOne 96 (.getfield 35) 3 := (by decide +kernel : decode prog_14_method_160_code 96 = .ok (.getfield 35, 3))
theorem d_M_doOne_99 : m_D k_M_doOne 99 (.iload_n 2) 1 := (by decide +kernel : decode prog_14_method_160_code 99 = .ok (.iload_n 2, 1))
theorem d_M_doOne_100 : m_D k_M_doOne 100 (.bipush 8) 2 := (by decide +kernel : decode prog_14_method_160_code 100 = .ok (.bipush 8, 2))
theorem d_M_doOne_102 : m_D k_M_doOne 102 (.iadd) 1 := (by decide +kernel : decode prog_14_method_160_code 102 = .ok (.iadd, 1))
theorem d_M_doOne_103 : m_D k_M_doOne 103 (.iaload) 1 := (by decide +kernel : decode prog_14_method_160_code 103 = .ok (.iaload, 1))
theorem d_M_doOne_104 : m_D k_M_doOne 104 (.invokevirtual 573) 3 := (by decide +kernel : decode prog_14_method_160_code 104 = .ok (.invokevirtual 573, 3))
theorem d_M_doOne_107 : m_D k_M_doOne 107 (.goto 68) 3 := (by decide +kernel : decode prog_14_method_160_code 107 = .ok (.goto 68, 3))
theorem d_M_doOne_110 : m_D k_M_doOne 110 (.iload_n 3) 1 := (by decide +kernel : decode prog_14_method_160_code 110 = .ok (.iload_n 3, 1))
theorem d_M_doOne_111 : m_D k_M_doOne 111 (.bipush 8) 2 := (by decide +kernel : decode prog_14_method_160_code 111 = .ok (.bipush 8, 2))
theorem d_M_doOne_113 : m_D k_M_doOne 113 (.if_icmp .ne 51) 3 := (by decide +kernel : decode prog_14_method_160_code 113 = .ok (.if_icmp .ne 51, 3))
theorem d_M_doOne_116 : m_D k_M_doOne 116 (.iconst 0) 1 := (by decide +kernel : decode prog_14_method_160_code 116 = .ok (.iconst 0, 1))
theorem d_M_doOne_117 : m_D k_M_doOne 117 (.istore 4) 2 := (by decide +kernel : decode prog_14_method_160_code 117 = .ok (.istore 4, 2))
theorem d_M_doOne_119 : m_D k_M_doOne 119 (.iload 4) 2 := (by decide +kernel : decode prog_14_method_160_code 119 = .ok (.iload 4, 2))
theorem d_M_doOne_121 : m_D k_M_doOne 121 (.aload_n 0) 1 := (by decide +kernel : decode prog_14_method_160_code 121 = .ok (.aload_n 0, 1))
theorem d_M_doOne_122 : m_D k_M_doOne 122 (.getfield 35) 3 := (by decide +kernel : decode prog_14_method_160_code 122 = .ok (.getfield 35, 3))
theorem d_M_doOne_125 : m_D k_M_doOne 125 (.iload_n 2) 1 := (by decide +kernel : decode prog_14_method_160_code 125 = .ok (.iload_n 2, 1))
theorem d_M_doOne_126 : m_D k_M_doOne 126 (.iconst 1) 1 := (by decide +kernel : decode prog_14_method_160_code 126 = .ok (.iconst 1, 1))
theorem d_M_doOne_127 : m_D k_M_doOne 127 (.iadd) 1 := (by decide +kernel : decode prog_14_method_160_code 127 = .ok (.iadd, 1))
theorem d_M_doOne_128 : m_D k_M_doOne 128 (.iaload) 1 := (by decide +kernel : decode prog_14_method_160_code 128 = .ok (.iaload, 1))
theorem d_M_doOne_129 : m_D k_M_doOne 129 (.if_icmp .ge 32) 3 := (by decide +kernel : decode prog_14_method_160_code 129 = .ok (.if_icmp .ge 32, 3))
theorem d_M_doOne_132 : m_D k_M_doOne 132 (.aload_n 0) 1 := (by decide +kernel : decode prog_14_method_160_code 132 = .ok (.aload_n 0, 1))
theorem d_M_doOne_133 : m_D k_M_doOne 133 (.getfield 557) 3 := (by decide +kernel : decode prog_14_method_160_code 133 = .ok (.getfield 557, 3))
theorem d_M_doOne_136 : m_D k_M_doOne 136 (.ifCond .ne 25) 3 := (by decide +kernel : decode prog_14_method_160_code 136 = .ok (.ifCond .ne 25, 3))
theorem d_M_doOne_139 : m_D k_M_doOne 139 (.aload_n 0) 1 := (by decide +kernel : decode prog_14_method_160_code 139 = .ok (.aload_n 0, 1))
theorem d_M_doOne_140 : m_D k_M_doOne 140 (.iload_n 1) 1 := (by decide +kernel : decode prog_14_method_160_code 140 = .ok (.iload_n 1, 1))
theorem d_M_doOne_141 : m_D k_M_doOne 141 (.iconst 1) 1 := (by decide +kernel : decode prog_14_method_160_code 141 = .ok (.iconst 1, 1))
theorem d_M_doOne_142 : m_D k_M_doOne 142 (.iadd) 1 := (by decide +kernel : decode prog_14_method_160_code 142 = .ok (.iadd, 1))
theorem d_M_doOne_143 : m_D k_M_doOne 143 (.aload_n 0) 1 := (by decide +kernel : decode prog_14_method_160_code 143 = .ok (.aload_n 0, 1))
theorem d_M_doOne_144 : m_D k_M_doOne 144 (.getfield 35) 3 := (by decide +kernel : decode prog_14_method_160_code 144 = .ok (.getfield 35, 3))
theorem d_M_doOne_147 : m_D k_M_doOne 147 (.iload_n 2) 1 := (by decide +kernel : decode prog_14_method_160_code 147 = .ok (.iload_n 2, 1))
theorem d_M_doOne_148 : m_D k_M_doOne 148 (.bipush 8) 2 := (by decide +kernel : decode prog_14_method_160_code 148 = .ok (.bipush 8, 2))
theorem d_M_doOne_150 : m_D k_M_doOne 150 (.iadd) 1 := (by decide +kernel : decode prog_14_method_160_code 150 = .ok (.iadd, 1))
theorem d_M_doOne_151 : m_D k_M_doOne 151 (.iaload) 1 := (by decide +kernel : decode prog_14_method_160_code 151 = .ok (.iaload, 1))
theorem d_M_doOne_152 : m_D k_M_doOne 152 (.invokevirtual 573) 3 := (by decide +kernel : decode prog_14_method_160_code 152 = .ok (.invokevirtual 573, 3))
theorem d_M_doOne_155 : m_D k_M_doOne 155 (.iinc 4 1) 3 := (by decide +kernel : decode prog_14_method_160_code 155 = .ok (.iinc 4 1, 3))
theorem d_M_doOne_158 : m_D k_M_doOne 158 (.goto (-39)) 3 := (by decide +kernel : decode prog_14_method_160_code 158 = .ok (.goto (-39), 3))
theorem d_M_doOne_161 : m_D k_M_doOne 161 (.goto 14) 3 := (by decide +kernel : decode prog_14_method_160_code 161 = .ok (.goto 14, 3))
theorem d_M_doOne_164 : m_D k_M_doOne 164 (.iload_n 3) 1 := (by decide +kernel : decode prog_14_method_160_code 164 = .ok (.iload_n 3, 1))
theorem d_M_doOne_165 : m_D k_M_doOne 165 (.bipush 8) 2 := (by decide +kernel : decode prog_14_method_160_code 165 = .ok (.bipush 8, 2))
theorem d_M_doOne_167 : m_D k_M_doOne 167 (.if_icmp .le 8) 3 := (by decide +kernel : decode prog_14_method_160_code 167 = .ok (.if_icmp .le 8, 3))
theorem d_M_doOne_170 : m_D k_M_doOne 170 (.aload_n 0) 1 := (by decide +kernel : decode prog_14_method_160_code 170 = .ok (.aload_n 0, 1))
theorem d_M_doOne_171 : m_D k_M_doOne 171 (.iconst 1) 1 := (by decide +kernel : decode prog_14_method_160_code 171 = .ok (.iconst 1, 1))
theorem d_M_doOne_172 : m_D k_M_doOne 172 (.putfield 557) 3 := (by decide +kernel : decode prog_14_method_160_code 172 = .ok (.putfield 557, 3))
theorem d_M_doOne_175 : m_D k_M_doOne 175 (.return_) 1 := (by decide +kernel : decode prog_14_method_160_code 175 = .ok (.return_, 1))
def fn_M_doOne_l119 (r : Option mA → Int32 → mP Unit) (x0 : Option mA) (x1 : Int32) (t5 : Int32) : mP ((Int32) ⊕ (Unit)) :=
  m_bd (m_gR 11 20 x0) fun v6 =>
  m_bd (m_aI 0 v6 ((107 + (9 * x1)) + 1)) fun v7 =>
  if v7 ≤ t5 then
    m_rt (.inr ())
  else
    m_bd (m_gI 11 44 x0) fun v8 =>
    if v8 = 0 then
      m_bd (m_gR 11 20 x0) fun v9 =>
      m_bd (m_aI 0 v9 ((107 + (9 * x1)) + 8)) fun v10 =>
      m_bd (fn_M_doAll r x0 (x1 + 1) v10) fun _ =>
      m_rt (.inl (t5 + 1))
    else
      m_rt (.inr ())
def fn_M_doOne_r (r : Option mA → Int32 → mP Unit) (x0 : Option mA) (x1 : Int32) : mP Unit :=
  m_th 11 x0 <|
  m_bd (m_gI 11 46 x0) fun v1 =>
  if v1 = 300 then
    m_bd (m_pZ 11 44 x0 1) fun _ =>
    m_bd (m_pI 11 50 x0 1) fun _ =>
    m_rt ()
  else
    m_bd (m_gI 11 46 x0) fun v2 =>
    m_bd (m_pI 11 46 x0 (v2 + 1)) fun _ =>
    m_bd (m_gR 11 20 x0) fun v3 =>
    m_bd (m_aI 0 v3 (107 + (9 * x1))) fun v4 =>
    if 7 ≤ v4 then
      if v4 = 7 then
        m_bd (fn_M_isSo x0 (107 + (9 * x1))) fun v12 =>
        if v12 = 0 then
          if v4 = 8 then
            m_bd (m_lp (fn_M_doOne_l119 r x0 x1) m_F 0) fun (t19 : Unit) =>
            m_rt ()
          else
            if v4 ≤ 8 then
              m_rt ()
            else
              m_bd (m_pZ 11 44 x0 1) fun _ =>
              m_rt ()
        else
          m_bd (m_gR 11 20 x0) fun v20 =>
          m_bd (m_aI 0 v20 ((107 + (9 * x1)) + 8)) fun v21 =>
          m_bd (fn_M_doAll r x0 (x1 + 1) v21) fun _ =>
          m_rt ()
      else
        if v4 = 8 then
          m_bd (m_lp (fn_M_doOne_l119 r x0 x1) m_F 0) fun (t11 : Unit) =>
          m_rt ()
        else
          if v4 ≤ 8 then
            m_rt ()
          else
            m_bd (m_pZ 11 44 x0 1) fun _ =>
            m_rt ()
    else
      m_bd (m_gI 11 47 x0) fun v22 =>
      m_bd (fn_M_does x0 (107 + (9 * x1))) fun v23 =>
      m_bd (α := Int32) (
        if v23 = 0 then
          m_rt 1
        else
          m_rt 0
        ) fun (t24 : Int32) =>
      m_bd (m_pI 11 47 x0 (v22 + t24)) fun _ =>
      m_rt ()
set_option maxHeartbeats 4000000 in
set_option maxRecDepth 100000 in
theorem sd_M_doOne_r (r : Option mA → Int32 → mP Unit) (dr : Nat) (hr : ∀ (y0 : Option mA) (y1 : Int32), m_Sm k_M_doOne dr 0 0 [.inr (.inr y0), .inl y1] (r y0 y1) (fun _ => none)) (hv : ∀ (y0 : Option mA) (y1 : Int32), m_Lv 11 y0 (r y0 y1)) (x0 : Option mA) (x1 : Int32) : m_Sm k_M_doOne ((max 7 (dr + 2))) 0 0 [.inr (.inr x0), .inl x1] (fn_M_doOne_r r x0 x1) (fun _ => none) := by
  refine ⟨Nat.le_of_ble_eq_true rfl, ?_⟩
  refine sm_th ?_
  refine sm_aload_n (i := 0) (j := 0) (pc' := 1) d_M_doOne_0 rfl rfl rfl ?_
  refine sm_getI (pc' := 4) d_M_doOne_1 rfl fl_M_554 rfl ⟨by decide, by decide⟩ (fun v1 => ?_)
  refine sm_sipush (pc' := 7) d_M_doOne_4 rfl is_300 ?_
  refine sm_icmp_ne (tgt := 21) (pc' := 10) d_M_doOne_7 rfl rfl ?_ ?_
  · refine sm_aload_n (i := 0) (j := 0) (pc' := 22) d_M_doOne_21 rfl rfl rfl (sm_dup (pc' := 23) d_M_doOne_22 rfl rfl ?_)
    refine sm_getI (pc' := 26) d_M_doOne_23 rfl fl_M_554 rfl ⟨by decide, by decide⟩ (fun v2 => ?_)
    refine sm_iconst (pc' := 27) d_M_doOne_26 rfl ic_1 (sm_iadd (pc' := 28) d_M_doOne_27 rfl (sm_putI (pc' := 31) d_M_doOne_28 rfl fl_M_554 (Or.inl rfl) rfl (sm_bipush (pc' := 33) d_M_doOne_31 rfl ib_107 (sm_bipush (pc' := 35) d_M_doOne_33 rfl ib_9 (sm_iload_n (i := 1) (j := 1) (pc' := 36) d_M_doOne_35 rfl rfl rfl (sm_imul (pc' := 37) d_M_doOne_36 rfl (sm_iadd (pc' := 38) d_M_doOne_37 rfl (sm_istore_n (i := 2) (L' := [(2, .inl (107 + (9 * x1))), (0, .inr (.inr x0)), (1, .inl x1)]) (pc' := 39) d_M_doOne_38 rfl rfl (Nat.le_of_ble_eq_true rfl) rfl (sm_aload_n (i := 0) (j := 1) (pc' := 40) d_M_doOne_39 rfl rfl rfl ?_)))))))))
    refine sm_getR (pc' := 43) d_M_doOne_40 rfl fl_M_35 rfl rfl (fun v3 => ?_)
    refine sm_iload_n (i := 2) (j := 0) (pc' := 44) d_M_doOne_43 rfl rfl rfl ?_
    refine sm_iald (pc' := 45) d_M_doOne_44 rfl (fun v4 => ?_)
    refine sm_istore_n (i := 3) (L' := [(3, .inl v4), (2, .inl (107 + (9 * x1))), (0, .inr (.inr x0)), (1, .inl x1)]) (pc' := 46) d_M_doOne_45 rfl rfl (Nat.le_of_ble_eq_true rfl) rfl (sm_iload_n (i := 3) (j := 0) (pc' := 47) d_M_doOne_46 rfl rfl rfl (sm_bipush (pc' := 49) d_M_doOne_47 rfl ib_7 ?_))
    refine sm_icmp_ge (tgt := 77) (pc' := 52) d_M_doOne_49 rfl rfl ?_ ?_
    · refine sm_iload_n (i := 3) (j := 0) (pc' := 78) d_M_doOne_77 rfl rfl rfl (sm_bipush (pc' := 80) d_M_doOne_78 rfl ib_7 ?_)
      refine sm_icmp_ne (tgt := 110) (pc' := 83) d_M_doOne_80 rfl rfl ?_ ?_
      · refine sm_iload_n (i := 3) (j := 0) (pc' := 111) d_M_doOne_110 rfl rfl rfl (sm_bipush (pc' := 113) d_M_doOne_111 rfl ib_8 ?_)
        refine sm_icmp_ne (tgt := 164) (pc' := 116) d_M_doOne_113 rfl rfl ?_ ?_
        · refine sm_iload_n (i := 3) (j := 0) (pc' := 165) d_M_doOne_164 rfl rfl rfl (sm_bipush (pc' := 167) d_M_doOne_165 rfl ib_8 ?_)
          refine sm_icmp_le (tgt := 175) (pc' := 170) d_M_doOne_167 rfl rfl ?_ ?_
          · exact sm_return d_M_doOne_175 rfl rfl
          · refine sm_aload_n (i := 0) (j := 2) (pc' := 171) d_M_doOne_170 rfl rfl rfl (sm_iconst (pc' := 172) d_M_doOne_171 rfl ic_1 (sm_putZ (pc' := 175) d_M_doOne_172 rfl fl_M_557 (Or.inl rfl) rfl ?_))
            exact sm_return d_M_doOne_175 rfl rfl
        · refine sm_iconst (pc' := 117) d_M_doOne_116 rfl ic_0 (sm_istore (L' := [(4, .inl 0), (3, .inl v4), (2, .inl (107 + (9 * x1))), (0, .inr (.inr x0)), (1, .inl x1)]) (pc' := 119) d_M_doOne_117 rfl (Nat.le_of_ble_eq_true rfl) rfl ?_)
          refine sm_sub [0, 3, 4, 2] rfl ?_
          refine sm_bd (mid := fun (t11 : Unit) => .inl (161, [], [])) (sm_lp (hd := fun (t5 : Int32) => (.inl (119, [(4, .inl t5), (0, .inr (.inr x0)), (1, .inl x1), (2, .inl (107 + (9 * x1)))], []) : mC)) (fun t5 => ?_) m_F 0) (fun t11 => ?_)
          · refine sm_iload (j := 0) (pc' := 121) d_M_doOne_119 rfl rfl (sm_aload_n (i := 0) (j := 1) (pc' := 122) d_M_doOne_121 rfl rfl rfl ?_)
            refine sm_getR (pc' := 125) d_M_doOne_122 rfl fl_M_35 rfl rfl (fun v6 => ?_)
            refine sm_iload_n (i := 2) (j := 3) (pc' := 126) d_M_doOne_125 rfl rfl rfl (sm_iconst (pc' := 127) d_M_doOne_126 rfl ic_1 (sm_iadd (pc' := 128) d_M_doOne_127 rfl ?_))
            refine sm_iald (pc' := 129) d_M_doOne_128 rfl (fun v7 => ?_)
            refine sm_icmp_ge (tgt := 161) (pc' := 132) d_M_doOne_129 rfl rfl ?_ ?_
            · refine sm_sub [] rfl ?_
              exact sm_rt rfl
            · refine sm_aload_n (i := 0) (j := 1) (pc' := 133) d_M_doOne_132 rfl rfl rfl ?_
              refine sm_getI (pc' := 136) d_M_doOne_133 rfl fl_M_557 rfl ⟨by decide, by decide⟩ (fun v8 => ?_)
              refine sm_if_ne (tgt := 161) (pc' := 139) d_M_doOne_136 rfl rfl ?_ ?_
              · refine sm_sub [] rfl ?_
                exact sm_rt rfl
              · refine sm_aload_n (i := 0) (j := 1) (pc' := 140) d_M_doOne_139 rfl rfl rfl (sm_iload_n (i := 1) (j := 2) (pc' := 141) d_M_doOne_140 rfl rfl rfl (sm_iconst (pc' := 142) d_M_doOne_141 rfl ic_1 (sm_iadd (pc' := 143) d_M_doOne_142 rfl (sm_aload_n (i := 0) (j := 1) (pc' := 144) d_M_doOne_143 rfl rfl rfl ?_))))
                refine sm_getR (pc' := 147) d_M_doOne_144 rfl fl_M_35 rfl rfl (fun v9 => ?_)
                refine sm_iload_n (i := 2) (j := 3) (pc' := 148) d_M_doOne_147 rfl rfl rfl (sm_bipush (pc' := 150) d_M_doOne_148 rfl ib_8 (sm_iadd (pc' := 151) d_M_doOne_150 rfl ?_))
                refine sm_iald (pc' := 152) d_M_doOne_151 rfl (fun v10 => ?_)
                refine sm_callVv (ci := 11) (x := x0) (av := [.inl (x1 + 1), .inl v10]) (st := []) (mc := 0) (ms := 0) (pc' := 155) d_M_doOne_152 rfl (sd_M_doAll r dr hr hv x0 (x1 + 1) v10) m_lv rfl cv_M_doAll w_ml_M_573 rfl rfl (by omega) (Nat.le_of_ble_eq_true rfl) rfl rfl ?_
                refine sm_iinc (j := 0) (L' := [(4, .inl (t5 + 1)), (0, .inr (.inr x0)), (1, .inl x1), (2, .inl (107 + (9 * x1)))]) (pc' := 158) d_M_doOne_155 rfl (v := (t5 + 1)) rfl (ix_1 _) (Nat.le_of_ble_eq_true rfl) rfl (sm_goto (tgt := 119) d_M_doOne_158 rfl (sm_sub [0, 1, 2, 3] rfl ?_))
                exact sm_rt rfl
          · refine sm_goto (tgt := 175) d_M_doOne_161 rfl ?_
            exact sm_return d_M_doOne_175 rfl rfl
      · refine sm_aload_n (i := 0) (j := 2) (pc' := 84) d_M_doOne_83 rfl rfl rfl (sm_iload_n (i := 2) (j := 1) (pc' := 85) d_M_doOne_84 rfl rfl rfl ?_)
        refine sm_callVi (ci := 11) (x := x0) (av := [.inl (107 + (9 * x1))]) (st := []) (mc := 0) (ms := 0) (pc' := 88) d_M_doOne_85 rfl (sd_M_isSo x0 (107 + (9 * x1))) m_lv rfl cv_M_isSo w_ml_M_570 rfl rfl (by omega) (Nat.le_of_ble_eq_true rfl) rfl rfl (fun v12 => ?_)
        refine sm_if_eq (tgt := 110) (pc' := 91) d_M_doOne_88 rfl rfl ?_ ?_
        · refine sm_iload_n (i := 3) (j := 0) (pc' := 111) d_M_doOne_110 rfl rfl rfl (sm_bipush (pc' := 113) d_M_doOne_111 rfl ib_8 ?_)
          refine sm_icmp_ne (tgt := 164) (pc' := 116) d_M_doOne_113 rfl rfl ?_ ?_
          · refine sm_iload_n (i := 3) (j := 0) (pc' := 165) d_M_doOne_164 rfl rfl rfl (sm_bipush (pc' := 167) d_M_doOne_165 rfl ib_8 ?_)
            refine sm_icmp_le (tgt := 175) (pc' := 170) d_M_doOne_167 rfl rfl ?_ ?_
            · exact sm_return d_M_doOne_175 rfl rfl
            · refine sm_aload_n (i := 0) (j := 2) (pc' := 171) d_M_doOne_170 rfl rfl rfl (sm_iconst (pc' := 172) d_M_doOne_171 rfl ic_1 (sm_putZ (pc' := 175) d_M_doOne_172 rfl fl_M_557 (Or.inl rfl) rfl ?_))
              exact sm_return d_M_doOne_175 rfl rfl
          · refine sm_iconst (pc' := 117) d_M_doOne_116 rfl ic_0 (sm_istore (L' := [(4, .inl 0), (3, .inl v4), (2, .inl (107 + (9 * x1))), (0, .inr (.inr x0)), (1, .inl x1)]) (pc' := 119) d_M_doOne_117 rfl (Nat.le_of_ble_eq_true rfl) rfl ?_)
            refine sm_sub [0, 3, 4, 2] rfl ?_
            refine sm_bd (mid := fun (t19 : Unit) => .inl (161, [], [])) (sm_lp (hd := fun (t13 : Int32) => (.inl (119, [(4, .inl t13), (0, .inr (.inr x0)), (1, .inl x1), (2, .inl (107 + (9 * x1)))], []) : mC)) (fun t13 => ?_) m_F 0) (fun t19 => ?_)
            · refine sm_iload (j := 0) (pc' := 121) d_M_doOne_119 rfl rfl (sm_aload_n (i := 0) (j := 1) (pc' := 122) d_M_doOne_121 rfl rfl rfl ?_)
              refine sm_getR (pc' := 125) d_M_doOne_122 rfl fl_M_35 rfl rfl (fun v14 => ?_)
              refine sm_iload_n (i := 2) (j := 3) (pc' := 126) d_M_doOne_125 rfl rfl rfl (sm_iconst (pc' := 127) d_M_doOne_126 rfl ic_1 (sm_iadd (pc' := 128) d_M_doOne_127 rfl ?_))
              refine sm_iald (pc' := 129) d_M_doOne_128 rfl (fun v15 => ?_)
              refine sm_icmp_ge (tgt := 161) (pc' := 132) d_M_doOne_129 rfl rfl ?_ ?_
              · refine sm_sub [] rfl ?_
                exact sm_rt rfl
              · refine sm_aload_n (i := 0) (j := 1) (pc' := 133) d_M_doOne_132 rfl rfl rfl ?_
                refine sm_getI (pc' := 136) d_M_doOne_133 rfl fl_M_557 rfl ⟨by decide, by decide⟩ (fun v16 => ?_)
                refine sm_if_ne (tgt := 161) (pc' := 139) d_M_doOne_136 rfl rfl ?_ ?_
                · refine sm_sub [] rfl ?_
                  exact sm_rt rfl
                · refine sm_aload_n (i := 0) (j := 1) (pc' := 140) d_M_doOne_139 rfl rfl rfl (sm_iload_n (i := 1) (j := 2) (pc' := 141) d_M_doOne_140 rfl rfl rfl (sm_iconst (pc' := 142) d_M_doOne_141 rfl ic_1 (sm_iadd (pc' := 143) d_M_doOne_142 rfl (sm_aload_n (i := 0) (j := 1) (pc' := 144) d_M_doOne_143 rfl rfl rfl ?_))))
                  refine sm_getR (pc' := 147) d_M_doOne_144 rfl fl_M_35 rfl rfl (fun v17 => ?_)
                  refine sm_iload_n (i := 2) (j := 3) (pc' := 148) d_M_doOne_147 rfl rfl rfl (sm_bipush (pc' := 150) d_M_doOne_148 rfl ib_8 (sm_iadd (pc' := 151) d_M_doOne_150 rfl ?_))
                  refine sm_iald (pc' := 152) d_M_doOne_151 rfl (fun v18 => ?_)
                  refine sm_callVv (ci := 11) (x := x0) (av := [.inl (x1 + 1), .inl v18]) (st := []) (mc := 0) (ms := 0) (pc' := 155) d_M_doOne_152 rfl (sd_M_doAll r dr hr hv x0 (x1 + 1) v18) m_lv rfl cv_M_doAll w_ml_M_573 rfl rfl (by omega) (Nat.le_of_ble_eq_true rfl) rfl rfl ?_
                  refine sm_iinc (j := 0) (L' := [(4, .inl (t13 + 1)), (0, .inr (.inr x0)), (1, .inl x1), (2, .inl (107 + (9 * x1)))]) (pc' := 158) d_M_doOne_155 rfl (v := (t13 + 1)) rfl (ix_1 _) (Nat.le_of_ble_eq_true rfl) rfl (sm_goto (tgt := 119) d_M_doOne_158 rfl (sm_sub [0, 1, 2, 3] rfl ?_))
                  exact sm_rt rfl
            · refine sm_goto (tgt := 175) d_M_doOne_161 rfl ?_
              exact sm_return d_M_doOne_175 rfl rfl
        · refine sm_aload_n (i := 0) (j := 2) (pc' := 92) d_M_doOne_91 rfl rfl rfl (sm_iload_n (i := 1) (j := 3) (pc' := 93) d_M_doOne_92 rfl rfl rfl (sm_iconst (pc' := 94) d_M_doOne_93 rfl ic_1 (sm_iadd (pc' := 95) d_M_doOne_94 rfl (sm_aload_n (i := 0) (j := 2) (pc' := 96) d_M_doOne_95 rfl rfl rfl ?_))))
          refine sm_getR (pc' := 99) d_M_doOne_96 rfl fl_M_35 rfl rfl (fun v20 => ?_)
          refine sm_iload_n (i := 2) (j := 1) (pc' := 100) d_M_doOne_99 rfl rfl rfl (sm_bipush (pc' := 102) d_M_doOne_100 rfl ib_8 (sm_iadd (pc' := 103) d_M_doOne_102 rfl ?_))
          refine sm_iald (pc' := 104) d_M_doOne_103 rfl (fun v21 => ?_)
          refine sm_callVv (ci := 11) (x := x0) (av := [.inl (x1 + 1), .inl v21]) (st := []) (mc := 0) (ms := 0) (pc' := 107) d_M_doOne_104 rfl (sd_M_doAll r dr hr hv x0 (x1 + 1) v21) m_lv rfl cv_M_doAll w_ml_M_573 rfl rfl (by omega) (Nat.le_of_ble_eq_true rfl) rfl rfl ?_
          refine sm_goto (tgt := 175) d_M_doOne_107 rfl ?_
          exact sm_return d_M_doOne_175 rfl rfl
    · refine sm_aload_n (i := 0) (j := 2) (pc' := 53) d_M_doOne_52 rfl rfl rfl (sm_dup (pc' := 54) d_M_doOne_53 rfl rfl ?_)
      refine sm_getI (pc' := 57) d_M_doOne_54 rfl fl_M_564 rfl ⟨by decide, by decide⟩ (fun v22 => ?_)
      refine sm_aload_n (i := 0) (j := 2) (pc' := 58) d_M_doOne_57 rfl rfl rfl (sm_iload_n (i := 2) (j := 1) (pc' := 59) d_M_doOne_58 rfl rfl rfl ?_)
      refine sm_callVi (ci := 11) (x := x0) (av := [.inl (107 + (9 * x1))]) (st := [.inl v22, .inr (.inr x0)]) (mc := 0) (ms := 0) (pc' := 62) d_M_doOne_59 rfl (sd_M_does x0 (107 + (9 * x1))) m_lv rfl cv_M_does w_ml_M_567 rfl rfl (by omega) (Nat.le_of_ble_eq_true rfl) rfl rfl (fun v23 => ?_)
      refine sm_bd (mid := fun (t24 : Int32) => .inl (70, [], [.inl t24, .inl v22, .inr (.inr x0)])) ?_ (fun t24 => ?_)
      · refine sm_if_eq (tgt := 69) (pc' := 65) d_M_doOne_62 rfl rfl ?_ ?_
        · refine sm_iconst (pc' := 70) d_M_doOne_69 rfl ic_1 (sm_sub [] rfl ?_)
          exact sm_rt rfl
        · refine sm_iconst (pc' := 66) d_M_doOne_65 rfl ic_0 (sm_goto (tgt := 70) d_M_doOne_66 rfl (sm_sub [] rfl ?_))
          exact sm_rt rfl
      · refine sm_iadd (pc' := 71) d_M_doOne_70 rfl (sm_putI (pc' := 74) d_M_doOne_71 rfl fl_M_564 (Or.inl rfl) rfl (sm_goto (tgt := 175) d_M_doOne_74 rfl ?_))
        exact sm_return d_M_doOne_175 rfl rfl
  · refine sm_aload_n (i := 0) (j := 0) (pc' := 11) d_M_doOne_10 rfl rfl rfl (sm_iconst (pc' := 12) d_M_doOne_11 rfl ic_1 (sm_putZ (pc' := 15) d_M_doOne_12 rfl fl_M_557 (Or.inl rfl) rfl (sm_aload_n (i := 0) (j := 0) (pc' := 16) d_M_doOne_15 rfl rfl rfl (sm_iconst (pc' := 17) d_M_doOne_16 rfl ic_1 (sm_putI (pc' := 20) d_M_doOne_17 rfl fl_M_561 (Or.inl rfl) rfl ?_)))))
    exact sm_return d_M_doOne_20 rfl rfl
def fn_M_doOne : Nat → Option mA → Int32 → mP Unit
  | 0, _, _ => m_fl
  | n + 1, x0, x1 => fn_M_doOne_r (fn_M_doOne n) x0 x1
theorem lv_M_doOne : ∀ (n : Nat) (x0 : Option mA) (x1 : Int32), m_Lv 11 x0 (fn_M_doOne n x0 x1)
  | 0, _, _ => m_lv0
  | n + 1, _, _ => m_lv
theorem sd_M_doOne : ∀ (n : Nat) (x0 : Option mA) (x1 : Int32), m_Sm k_M_doOne (7 + n * 2) 0 0 [.inr (.inr x0), .inl x1] (fn_M_doOne n x0 x1) (fun _ => none)
  | 0, x0, x1 => ⟨Nat.le_of_ble_eq_true rfl, sm_fl⟩
  | n + 1, x0, x1 => m_Sm_mono (by omega) (sd_M_doOne_r (fn_M_doOne n) (7 + n * 2) (sd_M_doOne n) (lv_M_doOne n) x0 x1)
