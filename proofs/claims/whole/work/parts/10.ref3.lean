/-! 10.ref3, laid by wip/whole/gen.py -/
theorem d_M_throughs_0 : m_D k_M_throughs 0 (.iconst 0) 1 := (by decide +kernel : decode prog_14_method_80_code 0 = .ok (.iconst 0, 1))
theorem d_M_throughs_1 : m_D k_M_throughs 1 (.istore_n 1) 1 := (by decide +kernel : decode prog_14_method_80_code 1 = .ok (.istore_n 1, 1))
theorem d_M_throughs_2 : m_D k_M_throughs 2 (.iconst 0) 1 := (by decide +kernel : decode prog_14_method_80_code 2 = .ok (.iconst 0, 1))
theorem d_M_throughs_3 : m_D k_M_throughs 3 (.istore_n 2) 1 := (by decide +kernel : decode prog_14_method_80_code 3 = .ok (.istore_n 2, 1))
theorem d_M_throughs_4 : m_D k_M_throughs 4 (.iload_n 2) 1 := (by decide +kernel : decode prog_14_method_80_code 4 = .ok (.iload_n 2, 1))
theorem d_M_throughs_5 : m_D k_M_throughs 5 (.aload_n 0) 1 := (by decide +kernel : decode prog_14_method_80_code 5 = .ok (.aload_n 0, 1))
theorem d_M_throughs_6 : m_D k_M_throughs 6 (.getfield 35) 3 := (by decide +kernel : decode prog_14_method_80_code 6 = .ok (.getfield 35, 3))
theorem d_M_throughs_9 : m_D k_M_throughs 9 (.iconst 1) 1 := (by decide +kernel : decode prog_14_method_80_code 9 = .ok (.iconst 1, 1))
theorem d_M_throughs_10 : m_D k_M_throughs 10 (.iaload) 1 := (by decide +kernel : decode prog_14_method_80_code 10 = .ok (.iaload, 1))
theorem d_M_throughs_11 : m_D k_M_throughs 11 (.if_icmp .ge 27) 3 := (by decide +kernel : decode prog_14_method_80_code 11 = .ok (.if_icmp .ge 27, 3))
theorem d_M_throughs_14 : m_D k_M_throughs 14 (.iload_n 1) 1 := (by decide +kernel : decode prog_14_method_80_code 14 = .ok (.iload_n 1, 1))
theorem d_M_throughs_15 : m_D k_M_throughs 15 (.aload_n 0) 1 := (by decide +kernel : decode prog_14_method_80_code 15 = .ok (.aload_n 0, 1))
theorem d_M_throughs_16 : m_D k_M_throughs 16 (.iload_n 2) 1 := (by decide +kernel : decode prog_14_method_80_code 16 = .ok (.iload_n 2, 1))
theorem d_M_throughs_17 : m_D k_M_throughs 17 (.invokevirtual 319) 3 := (by decide +kernel : decode prog_14_method_80_code 17 = .ok (.invokevirtual 319, 3))
theorem d_M_throughs_20 : m_D k_M_throughs 20 (.ifCond .eq 9) 3 := (by decide +kernel : decode prog_14_method_80_code 20 = .ok (.ifCond .eq 9, 3))
theorem d_M_throughs_23 : m_D k_M_throughs 23 (.iconst 1) 1 := (by decide +kernel : decode prog_14_method_80_code 23 = .ok (.iconst 1, 1))
theorem d_M_throughs_24 : m_D k_M_throughs 24 (.iload_n 2) 1 := (by decide +kernel : decode prog_14_method_80_code 24 = .ok (.iload_n 2, 1))
theorem d_M_throughs_25 : m_D k_M_throughs 25 (.ishl) 1 := (by decide +kernel : decode prog_14_method_80_code 25 = .ok (.ishl, 1))
theorem d_M_throughs_26 : m_D k_M_throughs 26 (.goto 4) 3 := (by decide +kernel : decode prog_14_method_80_code 26 = .ok (.goto 4, 3))
theorem d_M_throughs_29 : m_D k_M_throughs 29 (.iconst 0) 1 := (by decide +kernel : decode prog_14_method_80_code 29 = .ok (.iconst 0, 1))
theorem d_M_throughs_30 : m_D k_M_throughs 30 (.ior) 1 := (by decide +kernel : decode prog_14_method_80_code 30 = .ok (.ior, 1))
theorem d_M_throughs_31 : m_D k_M_throughs 31 (.istore_n 1) 1 := (by decide +kernel : decode prog_14_method_80_code 31 = .ok (.istore_n 1, 1))
theorem d_M_throughs_32 : m_D k_M_throughs 32 (.iinc 2 1) 3 := (by decide +kernel : decode prog_14_method_80_code 32 = .ok (.iinc 2 1, 3))
theorem d_M_throughs_35 : m_D k_M_throughs 35 (.goto (-31)) 3 := (by decide +kernel : decode prog_14_method_80_code 35 = .ok (.goto (-31), 3))
theorem d_M_throughs_38 : m_D k_M_throughs 38 (.iload_n 1) 1 := (by decide +kernel : decode prog_14_method_80_code 38 = .ok (.iload_n 1, 1))
theorem d_M_throughs_39 : m_D k_M_throughs 39 (.ireturn) 1 := (by decide +kernel : decode prog_14_method_80_code 39 = .ok (.ireturn, 1))
def fn_M_throughs_l4 (x0 : Option mA) (t1 : Int32 × Int32) : mP ((Int32 × Int32) ⊕ (Int32)) :=
  m_bd (m_gR 11 20 x0) fun v2 =>
  m_bd (m_aI 0 v2 1) fun v3 =>
  if v3 ≤ t1.2 then
    m_rt (.inr t1.1)
  else
    m_bd (fn_M_isThrough x0 t1.2) fun v4 =>
    m_bd (α := Int32) (
      if v4 = 0 then
        m_rt 0
      else
        m_rt (1 <<< (t1.2 &&& 31))
      ) fun (t5 : Int32) =>
    m_rt (.inl ((t1.1 ||| t5), (t1.2 + 1)))
def fn_M_throughs (x0 : Option mA) : mP Int32 :=
  m_th 11 x0 <|
  m_bd (m_lp (fn_M_throughs_l4 x0) m_F (0, 0)) fun (t6 : Int32) =>
  m_rt t6
set_option maxHeartbeats 4000000 in
set_option maxRecDepth 100000 in
theorem sd_M_throughs (x0 : Option mA) : m_Sm k_M_throughs 2 0 0 [.inr (.inr x0)] (fn_M_throughs x0) (fun b => some (.inl b)) := by
  refine ⟨Nat.le_of_ble_eq_true rfl, ?_⟩
  refine sm_th ?_
  refine sm_iconst (pc' := 1) d_M_throughs_0 rfl ic_0 (sm_istore_n (i := 1) (L' := [(1, .inl 0), (0, .inr (.inr x0))]) (pc' := 2) d_M_throughs_1 rfl rfl (Nat.le_of_ble_eq_true rfl) rfl (sm_iconst (pc' := 3) d_M_throughs_2 rfl ic_0 (sm_istore_n (i := 2) (L' := [(2, .inl 0), (1, .inl 0), (0, .inr (.inr x0))]) (pc' := 4) d_M_throughs_3 rfl rfl (Nat.le_of_ble_eq_true rfl) rfl ?_)))
  refine sm_sub [1, 0, 2] rfl ?_
  refine sm_bd (mid := fun (t6 : Int32) => .inl (38, [(1, .inl t6)], [])) (sm_lp (hd := fun (t1 : Int32 × Int32) => (.inl (4, [(1, .inl t1.1), (2, .inl t1.2), (0, .inr (.inr x0))], []) : mC)) (fun t1 => ?_) m_F (0, 0)) (fun t6 => ?_)
  · refine sm_iload_n (i := 2) (j := 1) (pc' := 5) d_M_throughs_4 rfl rfl rfl (sm_aload_n (i := 0) (j := 2) (pc' := 6) d_M_throughs_5 rfl rfl rfl ?_)
    refine sm_getR (pc' := 9) d_M_throughs_6 rfl fl_M_35 rfl rfl (fun v2 => ?_)
    refine sm_iconst (pc' := 10) d_M_throughs_9 rfl ic_1 ?_
    refine sm_iald (pc' := 11) d_M_throughs_10 rfl (fun v3 => ?_)
    refine sm_icmp_ge (tgt := 38) (pc' := 14) d_M_throughs_11 rfl rfl ?_ ?_
    · refine sm_sub [0] rfl ?_
      exact sm_rt rfl
    · refine sm_iload_n (i := 1) (j := 0) (pc' := 15) d_M_throughs_14 rfl rfl rfl (sm_aload_n (i := 0) (j := 2) (pc' := 16) d_M_throughs_15 rfl rfl rfl (sm_iload_n (i := 2) (j := 1) (pc' := 17) d_M_throughs_16 rfl rfl rfl ?_))
      refine sm_callVi (ci := 11) (x := x0) (av := [.inl t1.2]) (st := [.inl t1.1]) (mc := 0) (ms := 0) (pc' := 20) d_M_throughs_17 rfl (sd_M_isThrough x0 t1.2) m_lv rfl cv_M_isThrough w_ml_M_319 rfl rfl (by decide) (Nat.le_of_ble_eq_true rfl) rfl rfl (fun v4 => ?_)
      refine sm_bd (mid := fun (t5 : Int32) => .inl (30, [(0, .inr (.inr x0)), (2, .inl t1.2)], [.inl t5, .inl t1.1])) ?_ (fun t5 => ?_)
      · refine sm_if_eq (tgt := 29) (pc' := 23) d_M_throughs_20 rfl rfl ?_ ?_
        · refine sm_iconst (pc' := 30) d_M_throughs_29 rfl ic_0 (sm_sub [2, 1] rfl ?_)
          exact sm_rt rfl
        · refine sm_iconst (pc' := 24) d_M_throughs_23 rfl ic_1 (sm_iload_n (i := 2) (j := 1) (pc' := 25) d_M_throughs_24 rfl rfl rfl (sm_ishl (pc' := 26) d_M_throughs_25 rfl (sm_goto (tgt := 30) d_M_throughs_26 rfl (sm_sub [2, 1] rfl ?_))))
          exact sm_rt rfl
      · refine sm_ior (pc' := 31) d_M_throughs_30 rfl (sm_istore_n (i := 1) (L' := [(1, .inl (t1.1 ||| t5)), (0, .inr (.inr x0)), (2, .inl t1.2)]) (pc' := 32) d_M_throughs_31 rfl rfl (Nat.le_of_ble_eq_true rfl) rfl (sm_iinc (j := 2) (L' := [(2, .inl (t1.2 + 1)), (1, .inl (t1.1 ||| t5)), (0, .inr (.inr x0))]) (pc' := 35) d_M_throughs_32 rfl (v := (t1.2 + 1)) rfl (ix_1 _) (Nat.le_of_ble_eq_true rfl) rfl (sm_goto (tgt := 4) d_M_throughs_35 rfl (sm_sub [1, 0, 2] rfl ?_))))
        exact sm_rt rfl
  · refine sm_iload_n (i := 1) (j := 0) (pc' := 39) d_M_throughs_38 rfl rfl rfl ?_
    exact sm_ireturn d_M_throughs_39 rfl rfl
theorem d_M_many_0 : m_D k_M_many 0 (.aload_n 0) 1 := (by decide +kernel : decode prog_14_method_83_code 0 = .ok (.aload_n 0, 1))
theorem d_M_many_1 : m_D k_M_many 1 (.iconst 0) 1 := (by decide +kernel : decode prog_14_method_83_code 1 = .ok (.iconst 0, 1))
theorem d_M_many_2 : m_D k_M_many 2 (.putfield 81) 3 := (by decide +kernel : decode prog_14_method_83_code 2 = .ok (.putfield 81, 3))
theorem d_M_many_5 : m_D k_M_many 5 (.aload_n 0) 1 := (by decide +kernel : decode prog_14_method_83_code 5 = .ok (.aload_n 0, 1))
theorem d_M_many_6 : m_D k_M_many 6 (.iconst 0) 1 := (by decide +kernel : decode prog_14_method_83_code 6 = .ok (.iconst 0, 1))
theorem d_M_many_7 : m_D k_M_many 7 (.putfield 84) 3 := (by decide +kernel : decode prog_14_method_83_code 7 = .ok (.putfield 84, 3))
theorem d_M_many_10 : m_D k_M_many 10 (.iload_n 1) 1 := (by decide +kernel : decode prog_14_method_83_code 10 = .ok (.iload_n 1, 1))
theorem d_M_many_11 : m_D k_M_many 11 (.i2l) 1 := (by decide +kernel : decode prog_14_method_83_code 11 = .ok (.i2l, 1))
theorem d_M_many_12 : m_D k_M_many 12 (.lconst 0) 1 := (by decide +kernel : decode prog_14_method_83_code 12 = .ok (.lconst 0, 1))
theorem d_M_many_13 : m_D k_M_many 13 (.ldc2_w 329) 3 := (by decide +kernel : decode prog_14_method_83_code 13 = .ok (.ldc2_w 329, 3))
theorem d_M_many_16 : m_D k_M_many 16 (.invokestatic 116) 3 := (by decide +kernel : decode prog_14_method_83_code 16 = .ok (.invokestatic 116, 3))
theorem d_M_many_19 : m_D k_M_many 19 (.ifCond .ne 9) 3 := (by decide +kernel : decode prog_14_method_83_code 19 = .ok (.ifCond .ne 9, 3))
theorem d_M_many_22 : m_D k_M_many 22 (.aload_n 0) 1 := (by decide +kernel : decode prog_14_method_83_code 22 = .ok (.aload_n 0, 1))
theorem d_M_many_23 : m_D k_M_many 23 (.iconst 5) 1 := (by decide +kernel : decode prog_14_method_83_code 23 = .ok (.iconst 5, 1))
theorem d_M_many_24 : m_D k_M_many 24 (.invokevirtual 331) 3 := (by decide +kernel : decode prog_14_method_83_code 24 = .ok (.invokevirtual 331, 3))
theorem d_M_many_27 : m_D k_M_many 27 (.ireturn) 1 := (by decide +kernel : decode prog_14_method_83_code 27 = .ok (.ireturn, 1))
theorem d_M_many_28 : m_D k_M_many 28 (.iload_n 1) 1 := (by decide +kernel : decode prog_14_method_83_code 28 = .ok (.iload_n 1, 1))
theorem d_M_many_29 : m_D k_M_many 29 (.bipush 7) 2 := (by decide +kernel : decode prog_14_method_83_code 29 = .ok (.bipush 7, 2))
theorem d_M_many_31 : m_D k_M_many 31 (.if_icmp .ge 10) 3 := (by decide +kernel : decode prog_14_method_83_code 31 = .ok (.if_icmp .ge 10, 3))
theorem d_M_many_34 : m_D k_M_many 34 (.aload_n 0) 1 := (by decide +kernel : decode prog_14_method_83_code 34 = .ok (.aload_n 0, 1))
theorem d_M_many_35 : m_D k_M_many 35 (.getfield 35) 3 := (by decide +kernel : decode prog_14_method_83_code 35 = .ok (.getfield 35, 3))
theorem d_M_many_38 : m_D k_M_many 38 (.iload_n 1) 1 := (by decide +kernel : decode prog_14_method_83_code 38 = .ok (.iload_n 1, 1))
theorem d_M_many_39 : m_D k_M_many 39 (.iaload) 1 := (by decide +kernel : decode prog_14_method_83_code 39 = .ok (.iaload, 1))
theorem d_M_many_40 : m_D k_M_many 40 (.ireturn) 1 := (by decide +kernel : decode prog_14_method_83_code 40 = .ok (.ireturn, 1))
theorem d_M_many_41 : m_D k_M_many 41 (.iload_n 1) 1 := (by decide +kernel : decode prog_14_method_83_code 41 = .ok (.iload_n 1, 1))
theorem d_M_many_42 : m_D k_M_many 42 (.bipush 7) 2 := (by decide +kernel : decode prog_14_method_83_code 42 = .ok (.bipush 7, 2))
theorem d_M_many_44 : m_D k_M_many 44 (.if_icmp .ne 8) 3 := (by decide +kernel : decode prog_14_method_83_code 44 = .ok (.if_icmp .ne 8, 3))
theorem d_M_many_47 : m_D k_M_many 47 (.aload_n 0) 1 := (by decide +kernel : decode prog_14_method_83_code 47 = .ok (.aload_n 0, 1))
theorem d_M_many_48 : m_D k_M_many 48 (.invokevirtual 334) 3 := (by decide +kernel : decode prog_14_method_83_code 48 = .ok (.invokevirtual 334, 3))
theorem d_M_many_51 : m_D k_M_many 51 (.ireturn) 1 := (by decide +kernel : decode prog_14_method_83_code 51 = .ok (.ireturn, 1))
theorem d_M_many_52 : m_D k_M_many 52 (.iload_n 1) 1 := (by decide +kernel : decode prog_14_method_83_code 52 = .ok (.iload_n 1, 1))
theorem d_M_many_53 : m_D k_M_many 53 (.bipush 8) 2 := (by decide +kernel : decode prog_14_method_83_code 53 = .ok (.bipush 8, 2))
theorem d_M_many_55 : m_D k_M_many 55 (.if_icmp .ne 10) 3 := (by decide +kernel : decode prog_14_method_83_code 55 = .ok (.if_icmp .ne 10, 3))
theorem d_M_many_58 : m_D k_M_many 58 (.aload_n 0) 1 := (by decide +kernel : decode prog_14_method_83_code 58 = .ok (.aload_n 0, 1))
theorem d_M_many_59 : m_D k_M_many 59 (.invokevirtual 337) 3 := (by decide +kernel : decode prog_14_method_83_code 59 = .ok (.invokevirtual 337, 3))
theorem d_M_many_62 : m_D k_M_many 62 (.goto 33) 3 := (by decide +kernel : decode prog_14_method_83_code 62 = .ok (.goto 33, 3))
theorem d_M_many_65 : m_D k_M_many 65 (.iload_n 1) 1 := (by decide +kernel : decode prog_14_method_83_code 65 = .ok (.iload_n 1, 1))
theorem d_M_many_66 : m_D k_M_many 66 (.bipush 9) 2 := (by decide +kernel : decode prog_14_method_83_code 66 = .ok (.bipush 9, 2))
theorem d_M_many_68 : m_D k_M_many 68 (.if_icmp .ne 10) 3 := (by decide +kernel : decode prog_14_method_83_code 68 = .ok (.if_icmp .ne 10, 3))
theorem d_M_many_71 : m_D k_M_many 71 (.aload_n 0) 1 := (by decide +kernel : decode prog_14_method_83_code 71 = .ok (.aload_n 0, 1))
theorem d_M_many_72 : m_D k_M_many 72 (.invokevirtual 340) 3 := (by decide +kernel : decode prog_14_method_83_code 72 = .ok (.invokevirtual 340, 3))
theorem d_M_many_75 : m_D k_M_many 75 (.goto 20) 3 := (by decide +kernel : decode prog_14_method_83_code 75 = .ok (.goto 20, 3))
theorem d_M_many_78 : m_D k_M_many 78 (.iload_n 1) 1 := (by decide +kernel : decode prog_14_method_83_code 78 = .ok (.iload_n 1, 1))
theorem d_M_many_79 : m_D k_M_many 79 (.bipush 10) 2 := (by decide +kernel : decode prog_14_method_83_code 79 = .ok (.bipush 10, 2))
theorem d_M_many_81 : m_D k_M_many 81 (.if_icmp .ne 10) 3 := (by decide +kernel : decode prog_14_method_83_code 81 = .ok (.if_icmp .ne 10, 3))
theorem d_M_many_84 : m_D k_M_many 84 (.aload_n 0) 1 := (by decide +kernel : decode prog_14_method_83_code 84 = .ok (.aload_n 0, 1))
theorem d_M_many_85 : m_D k_M_many 85 (.invokevirtual 343) 3 := (by decide +kernel : decode prog_14_method_83_code 85 = .ok (.invokevirtual 343, 3))
theorem d_M_many_88 : m_D k_M_many 88 (.goto 7) 3 := (by decide +kernel : decode prog_14_method_83_code 88 = .ok (.goto 7, 3))
theorem d_M_many_91 : m_D k_M_many 91 (.aload_n 0) 1 := (by decide +kernel : decode prog_14_method_83_code 91 = .ok (.aload_n 0, 1))
theorem d_M_many_92 : m_D k_M_many 92 (.invokevirtual 346) 3 := (by decide +kernel : decode prog_14_method_83_code 92 = .ok (.invokevirtual 346, 3))
theorem d_M_many_95 : m_D k_M_many 95 (.ireturn) 1 := (by decide +kernel : decode prog_14_method_83_code 95 = .ok (.ireturn, 1))
def fn_M_many (x0 : Option mA) (x1 : Int32) : mP Int32 :=
  m_th 11 x0 <|
  m_bd (m_pI 11 1 x0 0) fun _ =>
  m_bd (m_pI 11 0 x0 0) fun _ =>
  m_bd (fn_M_isIn (x1).toInt64 0 11) fun v1 =>
  if v1 = 0 then
    m_bd (fn_M_refuse x0 5) fun v9 =>
    m_rt v9
  else
    if 7 ≤ x1 then
      if x1 = 7 then
        m_bd (fn_M_living x0) fun v6 =>
        m_rt v6
      else
        if x1 = 8 then
          m_bd (fn_M_showing x0) fun v5 =>
          m_rt v5
        else
          if x1 = 9 then
            m_bd (fn_M_throughs x0) fun v4 =>
            m_rt v4
          else
            if x1 = 10 then
              m_bd (fn_M_oiled x0) fun v3 =>
              m_rt v3
            else
              m_bd (fn_M_allRust x0) fun v2 =>
              m_rt v2
    else
      m_bd (m_gR 11 20 x0) fun v7 =>
      m_bd (m_aI 0 v7 x1) fun v8 =>
      m_rt v8
set_option maxHeartbeats 4000000 in
set_option maxRecDepth 100000 in
theorem sd_M_many (x0 : Option mA) (x1 : Int32) : m_Sm k_M_many 3 0 0 [.inr (.inr x0), .inl x1] (fn_M_many x0 x1) (fun b => some (.inl b)) := by
  refine ⟨Nat.le_of_ble_eq_true rfl, ?_⟩
  refine sm_th ?_
  refine sm_aload_n (i := 0) (j := 0) (pc' := 1) d_M_many_0 rfl rfl rfl (sm_iconst (pc' := 2) d_M_many_1 rfl ic_0 (sm_putI (pc' := 5) d_M_many_2 rfl fl_M_81 (Or.inl rfl) rfl (sm_aload_n (i := 0) (j := 0) (pc' := 6) d_M_many_5 rfl rfl rfl (sm_iconst (pc' := 7) d_M_many_6 rfl ic_0 (sm_putI (pc' := 10) d_M_many_7 rfl fl_M_84 (Or.inl rfl) rfl (sm_iload_n (i := 1) (j := 1) (pc' := 11) d_M_many_10 rfl rfl rfl (sm_i2l (pc' := 12) d_M_many_11 rfl (sm_lconst (pc' := 13) (v := 0) d_M_many_12 rfl rfl (sm_ldc2 (v := 11) (pc' := 16) d_M_many_13 rfl w_cl_M_329 ?_)))))))))
  refine sm_callSi (av := [.inr (.inl (x1).toInt64), .inr (.inl 0), .inr (.inl 11)]) (st := []) (mc := 0) (ms := 0) (pc' := 19) d_M_many_16 rfl (sd_M_isIn (x1).toInt64 0 11) cs_M_isIn w_ml_M_116 rfl rfl (by decide) (Nat.le_of_ble_eq_true rfl) rfl rfl (fun v1 => ?_)
  refine sm_if_ne (tgt := 28) (pc' := 22) d_M_many_19 rfl rfl ?_ ?_
  · refine sm_iload_n (i := 1) (j := 1) (pc' := 29) d_M_many_28 rfl rfl rfl (sm_bipush (pc' := 31) d_M_many_29 rfl ib_7 ?_)
    refine sm_icmp_ge (tgt := 41) (pc' := 34) d_M_many_31 rfl rfl ?_ ?_
    · refine sm_iload_n (i := 1) (j := 1) (pc' := 42) d_M_many_41 rfl rfl rfl (sm_bipush (pc' := 44) d_M_many_42 rfl ib_7 ?_)
      refine sm_icmp_ne (tgt := 52) (pc' := 47) d_M_many_44 rfl rfl ?_ ?_
      · refine sm_iload_n (i := 1) (j := 1) (pc' := 53) d_M_many_52 rfl rfl rfl (sm_bipush (pc' := 55) d_M_many_53 rfl ib_8 ?_)
        refine sm_icmp_ne (tgt := 65) (pc' := 58) d_M_many_55 rfl rfl ?_ ?_
        · refine sm_iload_n (i := 1) (j := 1) (pc' := 66) d_M_many_65 rfl rfl rfl (sm_bipush (pc' := 68) d_M_many_66 rfl ib_9 ?_)
          refine sm_icmp_ne (tgt := 78) (pc' := 71) d_M_many_68 rfl rfl ?_ ?_
          · refine sm_iload_n (i := 1) (j := 1) (pc' := 79) d_M_many_78 rfl rfl rfl (sm_bipush (pc' := 81) d_M_many_79 rfl ib_10 ?_)
            refine sm_icmp_ne (tgt := 91) (pc' := 84) d_M_many_81 rfl rfl ?_ ?_
            · refine sm_aload_n (i := 0) (j := 0) (pc' := 92) d_M_many_91 rfl rfl rfl ?_
              refine sm_callVi (ci := 11) (x := x0) (av := []) (st := []) (mc := 0) (ms := 0) (pc' := 95) d_M_many_92 rfl (sd_M_allRust x0) m_lv rfl cv_M_allRust w_ml_M_346 rfl rfl (by decide) (Nat.le_of_ble_eq_true rfl) rfl rfl (fun v2 => ?_)
              exact sm_ireturn d_M_many_95 rfl rfl
            · refine sm_aload_n (i := 0) (j := 0) (pc' := 85) d_M_many_84 rfl rfl rfl ?_
              refine sm_callVi (ci := 11) (x := x0) (av := []) (st := []) (mc := 0) (ms := 0) (pc' := 88) d_M_many_85 rfl (sd_M_oiled x0) m_lv rfl cv_M_oiled w_ml_M_343 rfl rfl (by decide) (Nat.le_of_ble_eq_true rfl) rfl rfl (fun v3 => ?_)
              refine sm_goto (tgt := 95) d_M_many_88 rfl ?_
              exact sm_ireturn d_M_many_95 rfl rfl
          · refine sm_aload_n (i := 0) (j := 0) (pc' := 72) d_M_many_71 rfl rfl rfl ?_
            refine sm_callVi (ci := 11) (x := x0) (av := []) (st := []) (mc := 0) (ms := 0) (pc' := 75) d_M_many_72 rfl (sd_M_throughs x0) m_lv rfl cv_M_throughs w_ml_M_340 rfl rfl (by decide) (Nat.le_of_ble_eq_true rfl) rfl rfl (fun v4 => ?_)
            refine sm_goto (tgt := 95) d_M_many_75 rfl ?_
            exact sm_ireturn d_M_many_95 rfl rfl
        · refine sm_aload_n (i := 0) (j := 0) (pc' := 59) d_M_many_58 rfl rfl rfl ?_
          refine sm_callVi (ci := 11) (x := x0) (av := []) (st := []) (mc := 0) (ms := 0) (pc' := 62) d_M_many_59 rfl (sd_M_showing x0) m_lv rfl cv_M_showing w_ml_M_337 rfl rfl (by decide) (Nat.le_of_ble_eq_true rfl) rfl rfl (fun v5 => ?_)
          refine sm_goto (tgt := 95) d_M_many_62 rfl ?_
          exact sm_ireturn d_M_many_95 rfl rfl
      · refine sm_aload_n (i := 0) (j := 0) (pc' := 48) d_M_many_47 rfl rfl rfl ?_
        refine sm_callVi (ci := 11) (x := x0) (av := []) (st := []) (mc := 0) (ms := 0) (pc' := 51) d_M_many_48 rfl (sd_M_living x0) m_lv rfl cv_M_living w_ml_M_334 rfl rfl (by decide) (Nat.le_of_ble_eq_true rfl) rfl rfl (fun v6 => ?_)
        exact sm_ireturn d_M_many_51 rfl rfl
    · refine sm_aload_n (i := 0) (j := 0) (pc' := 35) d_M_many_34 rfl rfl rfl ?_
      refine sm_getR (pc' := 38) d_M_many_35 rfl fl_M_35 rfl rfl (fun v7 => ?_)
      refine sm_iload_n (i := 1) (j := 1) (pc' := 39) d_M_many_38 rfl rfl rfl ?_
      refine sm_iald (pc' := 40) d_M_many_39 rfl (fun v8 => ?_)
      exact sm_ireturn d_M_many_40 rfl rfl
  · refine sm_aload_n (i := 0) (j := 0) (pc' := 23) d_M_many_22 rfl rfl rfl (sm_iconst (pc' := 24) d_M_many_23 rfl ic_5 ?_)
    refine sm_callVi (ci := 11) (x := x0) (av := [.inl 5]) (st := []) (mc := 0) (ms := 0) (pc' := 27) d_M_many_24 rfl (sd_M_refuse x0 5) m_lv rfl cv_M_refuse w_ml_M_331 rfl rfl (by decide) (Nat.le_of_ble_eq_true rfl) rfl rfl (fun v9 => ?_)
    exact sm_ireturn d_M_many_27 rfl rfl
theorem d_M_isPersonAt_0 : m_D k_M_isPersonAt 0 (.iload_n 1) 1 := (by decide +kernel : decode prog_14_method_70_code 0 = .ok (.iload_n 1, 1))
theorem d_M_isPersonAt_1 : m_D k_M_isPersonAt 1 (.i2l) 1 := (by decide +kernel : decode prog_14_method_70_code 1 = .ok (.i2l, 1))
theorem d_M_isPersonAt_2 : m_D k_M_isPersonAt 2 (.lconst 0) 1 := (by decide +kernel : decode prog_14_method_70_code 2 = .ok (.lconst 0, 1))
theorem d_M_isPersonAt_3 : m_D k_M_isPersonAt 3 (.aload_n 0) 1 := (by decide +kernel : decode prog_14_method_70_code 3 = .ok (.aload_n 0, 1))
theorem d_M_isPersonAt_4 : m_D k_M_isPersonAt 4 (.getfield 35) 3 := (by decide +kernel : decode prog_14_method_70_code 4 = .ok (.getfield 35, 3))
theorem d_M_isPersonAt_7 : m_D k_M_isPersonAt 7 (.iconst 0) 1 := (by decide +kernel : decode prog_14_method_70_code 7 = .ok (.iconst 0, 1))
theorem d_M_isPersonAt_8 : m_D k_M_isPersonAt 8 (.iaload) 1 := (by decide +kernel : decode prog_14_method_70_code 8 = .ok (.iaload, 1))
theorem d_M_isPersonAt_9 : m_D k_M_isPersonAt 9 (.iconst 1) 1 := (by decide +kernel : decode prog_14_method_70_code 9 = .ok (.iconst 1, 1))
theorem d_M_isPersonAt_10 : m_D k_M_isPersonAt 10 (.isub) 1 := (by decide +kernel : decode prog_14_method_70_code 10 = .ok (.isub, 1))
theorem d_M_isPersonAt_11 : m_D k_M_isPersonAt 11 (.i2l) 1 := (by decide +kernel : decode prog_14_method_70_code 11 = .ok (.i2l, 1))
theorem d_M_isPersonAt_12 : m_D k_M_isPersonAt 12 (.invokestatic 116) 3 := (by decide +kernel : decode prog_14_method_70_code 12 = .ok (.invokestatic 116, 3))
theorem d_M_isPersonAt_15 : m_D k_M_isPersonAt 15 (.ireturn) 1 := (by decide +kernel : decode prog_14_method_70_code 15 = .ok (.ireturn, 1))
def fn_M_isPersonAt (x0 : Option mA) (x1 : Int32) : mP Int32 :=
  m_th 11 x0 <|
  m_bd (m_gR 11 20 x0) fun v1 =>
  m_bd (m_aI 0 v1 0) fun v2 =>
  m_bd (fn_M_isIn (x1).toInt64 0 ((v2 - 1)).toInt64) fun v3 =>
  m_bd (m_cz v3) fun _ => m_rt v3
set_option maxHeartbeats 4000000 in
set_option maxRecDepth 100000 in
theorem sd_M_isPersonAt (x0 : Option mA) (x1 : Int32) : m_Sm k_M_isPersonAt 2 0 0 [.inr (.inr x0), .inl x1] (fn_M_isPersonAt x0 x1) (fun b => some (.inl b)) := by
  refine ⟨Nat.le_of_ble_eq_true rfl, ?_⟩
  refine sm_th ?_
  refine sm_iload_n (i := 1) (j := 1) (pc' := 1) d_M_isPersonAt_0 rfl rfl rfl (sm_i2l (pc' := 2) d_M_isPersonAt_1 rfl (sm_lconst (pc' := 3) (v := 0) d_M_isPersonAt_2 rfl rfl (sm_aload_n (i := 0) (j := 0) (pc' := 4) d_M_isPersonAt_3 rfl rfl rfl ?_)))
  refine sm_getR (pc' := 7) d_M_isPersonAt_4 rfl fl_M_35 rfl rfl (fun v1 => ?_)
  refine sm_iconst (pc' := 8) d_M_isPersonAt_7 rfl ic_0 ?_
  refine sm_iald (pc' := 9) d_M_isPersonAt_8 rfl (fun v2 => ?_)
  refine sm_iconst (pc' := 10) d_M_isPersonAt_9 rfl ic_1 (sm_isub (pc' := 11) d_M_isPersonAt_10 rfl (sm_i2l (pc' := 12) d_M_isPersonAt_11 rfl ?_))
  refine sm_callSi (av := [.inr (.inl (x1).toInt64), .inr (.inl 0), .inr (.inl ((v2 - 1)).toInt64)]) (st := []) (mc := 0) (ms := 0) (pc' := 15) d_M_isPersonAt_12 rfl (sd_M_isIn (x1).toInt64 0 ((v2 - 1)).toInt64) cs_M_isIn w_ml_M_116 rfl rfl (by decide) (Nat.le_of_ble_eq_true rfl) rfl rfl (fun v3 => ?_)
  exact sm_zretC d_M_isPersonAt_15 rfl rfl
theorem d_M_loveOf_0 : m_D k_M_loveOf 0 (.aload_n 0) 1 := (by decide +kernel : decode prog_14_method_74_code 0 = .ok (.aload_n 0, 1))
theorem d_M_loveOf_1 : m_D k_M_loveOf 1 (.getfield 35) 3 := (by decide +kernel : decode prog_14_method_74_code 1 = .ok (.getfield 35, 3))
theorem d_M_loveOf_4 : m_D k_M_loveOf 4 (.bipush 57) 2 := (by decide +kernel : decode prog_14_method_74_code 4 = .ok (.bipush 57, 2))
theorem d_M_loveOf_6 : m_D k_M_loveOf 6 (.bipush 8) 2 := (by decide +kernel : decode prog_14_method_74_code 6 = .ok (.bipush 8, 2))
theorem d_M_loveOf_8 : m_D k_M_loveOf 8 (.iload_n 1) 1 := (by decide +kernel : decode prog_14_method_74_code 8 = .ok (.iload_n 1, 1))
theorem d_M_loveOf_9 : m_D k_M_loveOf 9 (.imul) 1 := (by decide +kernel : decode prog_14_method_74_code 9 = .ok (.imul, 1))
theorem d_M_loveOf_10 : m_D k_M_loveOf 10 (.iadd) 1 := (by decide +kernel : decode prog_14_method_74_code 10 = .ok (.iadd, 1))
theorem d_M_loveOf_11 : m_D k_M_loveOf 11 (.iload_n 2) 1 := (by decide +kernel : decode prog_14_method_74_code 11 = .ok (.iload_n 2, 1))
theorem d_M_loveOf_12 : m_D k_M_loveOf 12 (.iadd) 1 := (by decide +kernel : decode prog_14_method_74_code 12 = .ok (.iadd, 1))
theorem d_M_loveOf_13 : m_D k_M_loveOf 13 (.iaload) 1 := (by decide +kernel : decode prog_14_method_74_code 13 = .ok (.iaload, 1))
theorem d_M_loveOf_14 : m_D k_M_loveOf 14 (.ireturn) 1 := (by decide +kernel : decode prog_14_method_74_code 14 = .ok (.ireturn, 1))
def fn_M_loveOf (x0 : Option mA) (x1 : Int32) (x2 : Int32) : mP Int32 :=
  m_th 11 x0 <|
  m_bd (m_gR 11 20 x0) fun v1 =>
  m_bd (m_aI 0 v1 ((57 + (8 * x1)) + x2)) fun v2 =>
  m_rt v2
set_option maxHeartbeats 4000000 in
set_option maxRecDepth 100000 in
theorem sd_M_loveOf (x0 : Option mA) (x1 : Int32) (x2 : Int32) : m_Sm k_M_loveOf 1 0 0 [.inr (.inr x0), .inl x1, .inl x2] (fn_M_loveOf x0 x1 x2) (fun b => some (.inl b)) := by
  refine ⟨Nat.le_of_ble_eq_true rfl, ?_⟩
  refine sm_th ?_
  refine sm_aload_n (i := 0) (j := 0) (pc' := 1) d_M_loveOf_0 rfl rfl rfl ?_
  refine sm_getR (pc' := 4) d_M_loveOf_1 rfl fl_M_35 rfl rfl (fun v1 => ?_)
  refine sm_bipush (pc' := 6) d_M_loveOf_4 rfl ib_57 (sm_bipush (pc' := 8) d_M_loveOf_6 rfl ib_8 (sm_iload_n (i := 1) (j := 1) (pc' := 9) d_M_loveOf_8 rfl rfl rfl (sm_imul (pc' := 10) d_M_loveOf_9 rfl (sm_iadd (pc' := 11) d_M_loveOf_10 rfl (sm_iload_n (i := 2) (j := 2) (pc' := 12) d_M_loveOf_11 rfl rfl rfl (sm_iadd (pc' := 13) d_M_loveOf_12 rfl ?_))))))
  refine sm_iald (pc' := 14) d_M_loveOf_13 rfl (fun v2 => ?_)
  exact sm_ireturn d_M_loveOf_14 rfl rfl
theorem d_M_lovedThings_0 : m_D k_M_lovedThings 0 (.iconst 0) 1 := (by decide +kernel : decode prog_14_method_84_code 0 = .ok (.iconst 0, 1))
theorem d_M_lovedThings_1 : m_D k_M_lovedThings 1 (.istore_n 2) 1 := (by decide +kernel : decode prog_14_method_84_code 1 = .ok (.istore_n 2, 1))
theorem d_M_lovedThings_2 : m_D k_M_lovedThings 2 (.iconst 0) 1 := (by decide +kernel : decode prog_14_method_84_code 2 = .ok (.iconst 0, 1))
theorem d_M_lovedThings_3 : m_D k_M_lovedThings 3 (.istore_n 3) 1 := (by decide +kernel : decode prog_14_method_84_code 3 = .ok (.istore_n 3, 1))
theorem d_M_lovedThings_4 : m_D k_M_lovedThings 4 (.iload_n 3) 1 := (by decide +kernel : decode prog_14_method_84_code 4 = .ok (.iload_n 3, 1))
theorem d_M_lovedThings_5 : m_D k_M_lovedThings 5 (.aload_n 0) 1 := (by decide +kernel : decode prog_14_method_84_code 5 = .ok (.aload_n 0, 1))
theorem d_M_lovedThings_6 : m_D k_M_lovedThings 6 (.getfield 35) 3 := (by decide +kernel : decode prog_14_method_84_code 6 = .ok (.getfield 35, 3))
theorem d_M_lovedThings_9 : m_D k_M_lovedThings 9 (.iconst 1) 1 := (by decide +kernel : decode prog_14_method_84_code 9 = .ok (.iconst 1, 1))
theorem d_M_lovedThings_10 : m_D k_M_lovedThings 10 (.iaload) 1 := (by decide +kernel : decode prog_14_method_84_code 10 = .ok (.iaload, 1))
theorem d_M_lovedThings_11 : m_D k_M_lovedThings 11 (.if_icmp .ge 28) 3 := (by decide +kernel : decode prog_14_method_84_code 11 = .ok (.if_icmp .ge 28, 3))
theorem d_M_lovedThings_14 : m_D k_M_lovedThings 14 (.iload_n 2) 1 := (by decide +kernel : decode prog_14_method_84_code 14 = .ok (.iload_n 2, 1))
theorem d_M_lovedThings_15 : m_D k_M_lovedThings 15 (.aload_n 0) 1 := (by decide +kernel : decode prog_14_method_84_code 15 = .ok (.aload_n 0, 1))
theorem d_M_lovedThings_16 : m_D k_M_lovedThings 16 (.iload_n 1) 1 := (by decide +kernel : decode prog_14_method_84_code 16 = .ok (.iload_n 1, 1))
theorem d_M_lovedThings_17 : m_D k_M_lovedThings 17 (.iload_n 3) 1 := (by decide +kernel : decode prog_14_method_84_code 17 = .ok (.iload_n 3, 1))
theorem d_M_lovedThings_18 : m_D k_M_lovedThings 18 (.invokevirtual 316) 3 := (by decide +kernel : decode prog_14_method_84_code 18 = .ok (.invokevirtual 316, 3))
theorem d_M_lovedThings_21 : m_D k_M_lovedThings 21 (.ifCond .le 9) 3 := (by decide +kernel : decode prog_14_method_84_code 21 = .ok (.ifCond .le 9, 3))
theorem d_M_lovedThings_24 : m_D k_M_lovedThings 24 (.iconst 1) 1 := (by decide +kernel : decode prog_14_method_84_code 24 = .ok (.iconst 1, 1))
theorem d_M_lovedThings_25 : m_D k_M_lovedThings 25 (.iload_n 3) 1 := (by decide +kernel : decode prog_14_method_84_code 25 = .ok (.iload_n 3, 1))
theorem d_M_lovedThings_26 : m_D k_M_lovedThings 26 (.ishl) 1 := (by decide +kernel : decode prog_14_method_84_code 26 = .ok (.ishl, 1))
theorem d_M_lovedThings_27 : m_D k_M_lovedThings 27 (.goto 4) 3 := (by decide +kernel : decode prog_14_method_84_code 27 = .ok (.goto 4, 3))
theorem d_M_lovedThings_30 : m_D k_M_lovedThings 30 (.iconst 0) 1 := (by decide +kernel : decode prog_14_method_84_code 30 = .ok (.iconst 0, 1))
theorem d_M_lovedThings_31 : m_D k_M_lovedThings 31 (.ior) 1 := (by decide +kernel : decode prog_14_method_84_code 31 = .ok (.ior, 1))
theorem d_M_lovedThings_32 : m_D k_M_lovedThings 32 (.istore_n 2) 1 := (by decide +kernel : decode prog_14_method_84_code 32 = .ok (.istore_n 2, 1))
theorem d_M_lovedThings_33 : m_D k_M_lovedThings 33 (.iinc 3 1) 3 := (by decide +kernel : decode prog_14_method_84_code 33 = .ok (.iinc 3 1, 3))
theorem d_M_lovedThings_36 : m_D k_M_lovedThings 36 (.goto (-32)) 3 := (by decide +kernel : decode prog_14_method_84_code 36 = .ok (.goto (-32), 3))
theorem d_M_lovedThings_39 : m_D k_M_lovedThings 39 (.iload_n 2) 1 := (by decide +kernel : decode prog_14_method_84_code 39 = .ok (.iload_n 2, 1))
theorem d_M_lovedThings_40 : m_D k_M_lovedThings 40 (.ireturn) 1 := (by decide +kernel : decode prog_14_method_84_code 40 = .ok (.ireturn, 1))
def fn_M_lovedThings_l4 (x0 : Option mA) (x1 : Int32) (t1 : Int32 × Int32) : mP ((Int32 × Int32) ⊕ (Int32)) :=
  m_bd (m_gR 11 20 x0) fun v2 =>
  m_bd (m_aI 0 v2 1) fun v3 =>
  if v3 ≤ t1.2 then
    m_rt (.inr t1.1)
  else
    m_bd (fn_M_loveOf x0 x1 t1.2) fun v4 =>
    m_bd (α := Int32) (
      if v4 ≤ 0 then
        m_rt 0
      else
        m_rt (1 <<< (t1.2 &&& 31))
      ) fun (t5 : Int32) =>
    m_rt (.inl ((t1.1 ||| t5), (t1.2 + 1)))
def fn_M_lovedThings (x0 : Option mA) (x1 : Int32) : mP Int32 :=
  m_th 11 x0 <|
  m_bd (m_lp (fn_M_lovedThings_l4 x0 x1) m_F (0, 0)) fun (t6 : Int32) =>
  m_rt t6
set_option maxHeartbeats 4000000 in
set_option maxRecDepth 100000 in
theorem sd_M_lovedThings (x0 : Option mA) (x1 : Int32) : m_Sm k_M_lovedThings 2 0 0 [.inr (.inr x0), .inl x1] (fn_M_lovedThings x0 x1) (fun b => some (.inl b)) := by
  refine ⟨Nat.le_of_ble_eq_true rfl, ?_⟩
  refine sm_th ?_
  refine sm_iconst (pc' := 1) d_M_lovedThings_0 rfl ic_0 (sm_istore_n (i := 2) (L' := [(2, .inl 0), (0, .inr (.inr x0)), (1, .inl x1)]) (pc' := 2) d_M_lovedThings_1 rfl rfl (Nat.le_of_ble_eq_true rfl) rfl (sm_iconst (pc' := 3) d_M_lovedThings_2 rfl ic_0 (sm_istore_n (i := 3) (L' := [(3, .inl 0), (2, .inl 0), (0, .inr (.inr x0)), (1, .inl x1)]) (pc' := 4) d_M_lovedThings_3 rfl rfl (Nat.le_of_ble_eq_true rfl) rfl ?_)))
  refine sm_sub [1, 0, 2, 3] rfl ?_
  refine sm_bd (mid := fun (t6 : Int32) => .inl (39, [(2, .inl t6)], [])) (sm_lp (hd := fun (t1 : Int32 × Int32) => (.inl (4, [(2, .inl t1.1), (3, .inl t1.2), (0, .inr (.inr x0)), (1, .inl x1)], []) : mC)) (fun t1 => ?_) m_F (0, 0)) (fun t6 => ?_)
  · refine sm_iload_n (i := 3) (j := 1) (pc' := 5) d_M_lovedThings_4 rfl rfl rfl (sm_aload_n (i := 0) (j := 2) (pc' := 6) d_M_lovedThings_5 rfl rfl rfl ?_)
    refine sm_getR (pc' := 9) d_M_lovedThings_6 rfl fl_M_35 rfl rfl (fun v2 => ?_)
    refine sm_iconst (pc' := 10) d_M_lovedThings_9 rfl ic_1 ?_
    refine sm_iald (pc' := 11) d_M_lovedThings_10 rfl (fun v3 => ?_)
    refine sm_icmp_ge (tgt := 39) (pc' := 14) d_M_lovedThings_11 rfl rfl ?_ ?_
    · refine sm_sub [0] rfl ?_
      exact sm_rt rfl
    · refine sm_iload_n (i := 2) (j := 0) (pc' := 15) d_M_lovedThings_14 rfl rfl rfl (sm_aload_n (i := 0) (j := 2) (pc' := 16) d_M_lovedThings_15 rfl rfl rfl (sm_iload_n (i := 1) (j := 3) (pc' := 17) d_M_lovedThings_16 rfl rfl rfl (sm_iload_n (i := 3) (j := 1) (pc' := 18) d_M_lovedThings_17 rfl rfl rfl ?_)))
      refine sm_callVi (ci := 11) (x := x0) (av := [.inl x1, .inl t1.2]) (st := [.inl t1.1]) (mc := 0) (ms := 0) (pc' := 21) d_M_lovedThings_18 rfl (sd_M_loveOf x0 x1 t1.2) m_lv rfl cv_M_loveOf w_ml_M_316 rfl rfl (by decide) (Nat.le_of_ble_eq_true rfl) rfl rfl (fun v4 => ?_)
      refine sm_bd (mid := fun (t5 : Int32) => .inl (31, [(0, .inr (.inr x0)), (1, .inl x1), (3, .inl t1.2)], [.inl t5, .inl t1.1])) ?_ (fun t5 => ?_)
      · refine sm_if_le (tgt := 30) (pc' := 24) d_M_lovedThings_21 rfl rfl ?_ ?_
        · refine sm_iconst (pc' := 31) d_M_lovedThings_30 rfl ic_0 (sm_sub [2, 3, 1] rfl ?_)
          exact sm_rt rfl
        · refine sm_iconst (pc' := 25) d_M_lovedThings_24 rfl ic_1 (sm_iload_n (i := 3) (j := 1) (pc' := 26) d_M_lovedThings_25 rfl rfl rfl (sm_ishl (pc' := 27) d_M_lovedThings_26 rfl (sm_goto (tgt := 31) d_M_lovedThings_27 rfl (sm_sub [2, 3, 1] rfl ?_))))
          exact sm_rt rfl
      · refine sm_ior (pc' := 32) d_M_lovedThings_31 rfl (sm_istore_n (i := 2) (L' := [(2, .inl (t1.1 ||| t5)), (0, .inr (.inr x0)), (1, .inl x1), (3, .inl t1.2)]) (pc' := 33) d_M_lovedThings_32 rfl rfl (Nat.le_of_ble_eq_true rfl) rfl (sm_iinc (j := 3) (L' := [(3, .inl (t1.2 + 1)), (2, .inl (t1.1 ||| t5)), (0, .inr (.inr x0)), (1, .inl x1)]) (pc' := 36) d_M_lovedThings_33 rfl (v := (t1.2 + 1)) rfl (ix_1 _) (Nat.le_of_ble_eq_true rfl) rfl (sm_goto (tgt := 4) d_M_lovedThings_36 rfl (sm_sub [1, 0, 2, 3] rfl ?_))))
        exact sm_rt rfl
  · refine sm_iload_n (i := 2) (j := 0) (pc' := 40) d_M_lovedThings_39 rfl rfl rfl ?_
    exact sm_ireturn d_M_lovedThings_40 rfl rfl
theorem d_M_person_0 : m_D k_M_person 0 (.aload_n 0) 1 := (by decide +kernel : decode prog_14_method_85_code 0 = .ok (.aload_n 0, 1))
theorem d_M_person_1 : m_D k_M_person 1 (.iconst 0) 1 := (by decide +kernel : decode prog_14_method_85_code 1 = .ok (.iconst 0, 1))
theorem d_M_person_2 : m_D k_M_person 2 (.putfield 81) 3 := (by decide +kernel : decode prog_14_method_85_code 2 = .ok (.putfield 81, 3))
theorem d_M_person_5 : m_D k_M_person 5 (.aload_n 0) 1 := (by decide +kernel : decode prog_14_method_85_code 5 = .ok (.aload_n 0, 1))
theorem d_M_person_6 : m_D k_M_person 6 (.iconst 0) 1 := (by decide +kernel : decode prog_14_method_85_code 6 = .ok (.iconst 0, 1))
theorem d_M_person_7 : m_D k_M_person 7 (.putfield 84) 3 := (by decide +kernel : decode prog_14_method_85_code 7 = .ok (.putfield 84, 3))
theorem d_M_person_10 : m_D k_M_person 10 (.aload_n 0) 1 := (by decide +kernel : decode prog_14_method_85_code 10 = .ok (.aload_n 0, 1))
theorem d_M_person_11 : m_D k_M_person 11 (.iload_n 1) 1 := (by decide +kernel : decode prog_14_method_85_code 11 = .ok (.iload_n 1, 1))
theorem d_M_person_12 : m_D k_M_person 12 (.invokevirtual 349) 3 := (by decide +kernel : decode prog_14_method_85_code 12 = .ok (.invokevirtual 349, 3))
theorem d_M_person_15 : m_D k_M_person 15 (.ifCond .ne 9) 3 := (by decide +kernel : decode prog_14_method_85_code 15 = .ok (.ifCond .ne 9, 3))
theorem d_M_person_18 : m_D k_M_person 18 (.aload_n 0) 1 := (by decide +kernel : decode prog_14_method_85_code 18 = .ok (.aload_n 0, 1))
theorem d_M_person_19 : m_D k_M_person 19 (.iconst 2) 1 := (by decide +kernel : decode prog_14_method_85_code 19 = .ok (.iconst 2, 1))
theorem d_M_person_20 : m_D k_M_person 20 (.invokevirtual 331) 3 := (by decide +kernel : decode prog_14_method_85_code 20 = .ok (.invokevirtual 331, 3))
theorem d_M_person_23 : m_D k_M_person 23 (.ireturn) 1 := (by decide +kernel : decode prog_14_method_85_code 23 = .ok (.ireturn, 1))
theorem d_M_person_24 : m_D k_M_person 24 (.iload_n 2) 1 := (by decide +kernel : decode prog_14_method_85_code 24 = .ok (.iload_n 2, 1))
theorem d_M_person_25 : m_D k_M_person 25 (.i2l) 1 := (by decide +kernel : decode prog_14_method_85_code 25 = .ok (.i2l, 1))
theorem d_M_person_26 : m_D k_M_person 26 (.lconst 0) 1 := (by decide +kernel : decode prog_14_method_85_code 26 = .ok (.lconst 0, 1))
theorem d_M_person_27 : m_D k_M_person 27 (.ldc2_w 352) 3 := (by decide +kernel : decode prog_14_method_85_code 27 = .ok (.ldc2_w 352, 3))
theorem d_M_person_30 : m_D k_M_person 30 (.invokestatic 116) 3 := (by decide +kernel : decode prog_14_method_85_code 30 = .ok (.invokestatic 116, 3))
theorem d_M_person_33 : m_D k_M_person 33 (.ifCond .ne 9) 3 := (by decide +kernel : decode prog_14_method_85_code 33 = .ok (.ifCond .ne 9, 3))
theorem d_M_person_36 : m_D k_M_person 36 (.aload_n 0) 1 := (by decide +kernel : decode prog_14_method_85_code 36 = .ok (.aload_n 0, 1))
theorem d_M_person_37 : m_D k_M_person 37 (.iconst 5) 1 := (by decide +kernel : decode prog_14_method_85_code 37 = .ok (.iconst 5, 1))
theorem d_M_person_38 : m_D k_M_person 38 (.invokevirtual 331) 3 := (by decide +kernel : decode prog_14_method_85_code 38 = .ok (.invokevirtual 331, 3))
theorem d_M_person_41 : m_D k_M_person 41 (.ireturn) 1 := (by decide +kernel : decode prog_14_method_85_code 41 = .ok (.ireturn, 1))
theorem d_M_person_42 : m_D k_M_person 42 (.iload_n 2) 1 := (by decide +kernel : decode prog_14_method_85_code 42 = .ok (.iload_n 2, 1))
theorem d_M_person_43 : m_D k_M_person 43 (.iconst 3) 1 := (by decide +kernel : decode prog_14_method_85_code 43 = .ok (.iconst 3, 1))
theorem d_M_person_44 : m_D k_M_person 44 (.if_icmp .ge 20) 3 := (by decide +kernel : decode prog_14_method_85_code 44 = .ok (.if_icmp .ge 20, 3))
theorem d_M_person_47 : m_D k_M_person 47 (.aload_n 0) 1 := (by decide +kernel : decode prog_14_method_85_code 47 = .ok (.aload_n 0, 1))
theorem d_M_person_48 : m_D k_M_person 48 (.getfield 35) 3 := (by decide +kernel : decode prog_14_method_85_code 48 = .ok (.getfield 35, 3))
theorem d_M_person_51 : m_D k_M_person 51 (.bipush 7) 2 := (by decide +kernel : decode prog_14_method_85_code 51 = .ok (.bipush 7, 2))
theorem d_M_person_53 : m_D k_M_person 53 (.bipush 6) 2 := (by decide +kernel : decode prog_14_method_85_code 53 = .ok (.bipush 6, 2))
theorem d_M_person_55 : m_D k_M_person 55 (.iload_n 2) 1 := (by decide +kernel : decode prog_14_method_85_code 55 = .ok (.iload_n 2, 1))
theorem d_M_person_56 : m_D k_M_person 56 (.imul) 1 := (by decide +kernel : decode prog_14_method_85_code 56 = .ok (.imul, 1))
theorem d_M_person_57 : m_D k_M_person 57 (.iadd) 1 := (by decide +kernel : decode prog_14_method_85_code 57 = .ok (.iadd, 1))
theorem d_M_person_58 : m_D k_M_person 58 (.iload_n 1) 1 := (by decide +kernel : decode prog_14_method_85_code 58 = .ok (.iload_n 1, 1))
theorem d_M_person_59 : m_D k_M_person 59 (.iadd) 1 := (by decide +kernel : decode prog_14_method_85_code 59 = .ok (.iadd, 1))
theorem d_M_person_60 : m_D k_M_person 60 (.iaload) 1 := (by decide +kernel : decode prog_14_method_85_code 60 = .ok (.iaload, 1))
theorem d_M_person_61 : m_D k_M_person 61 (.goto 29) 3 := (by decide +kernel : decode prog_14_method_85_code 61 = .ok (.goto 29, 3))
theorem d_M_person_64 : m_D k_M_person 64 (.iload_n 2) 1 := (by decide +kernel : decode prog_14_method_85_code 64 = .ok (.iload_n 2, 1))
theorem d_M_person_65 : m_D k_M_person 65 (.iconst 3) 1 := (by decide +kernel : decode prog_14_method_85_code 65 = .ok (.iconst 3, 1))
theorem d_M_person_66 : m_D k_M_person 66 (.if_icmp .ne 19) 3 := (by decide +kernel : decode prog_14_method_85_code 66 = .ok (.if_icmp .ne 19, 3))
theorem d_M_person_69 : m_D k_M_person 69 (.aload_n 0) 1 := (by decide +kernel : decode prog_14_method_85_code 69 = .ok (.aload_n 0, 1))
theorem d_M_person_70 : m_D k_M_person 70 (.iload_n 1) 1 := (by decide +kernel : decode prog_14_method_85_code 70 = .ok (.iload_n 1, 1))
theorem d_M_person_71 : m_D k_M_person 71 (.invokevirtual 313) 3 := (by decide +kernel : decode prog_14_method_85_code 71 = .ok (.invokevirtual 313, 3))
theorem d_M_person_74 : m_D k_M_person 74 (.ifCond .eq 7) 3 := (by decide +kernel : decode prog_14_method_85_code 74 = .ok (.ifCond .eq 7, 3))
theorem d_M_person_77 : m_D k_M_person 77 (.iconst 1) 1 := (by decide +kernel : decode prog_14_method_85_code 77 = .ok (.iconst 1, 1))
theorem d_M_person_78 : m_D k_M_person 78 (.goto 12) 3 := (by decide +kernel : decode prog_14_method_85_code 78 = .ok (.goto 12, 3))
theorem d_M_person_81 : m_D k_M_person 81 (.iconst 0) 1 := (by decide +kernel : decode prog_14_method_85_code 81 = .ok (.iconst 0, 1))
theorem d_M_person_82 : m_D k_M_person 82 (.goto 8) 3 := (by decide +kernel : decode prog_14_method_85_code 82 = .ok (.goto 8, 3))
theorem d_M_person_85 : m_D k_M_person 85 (.aload_n 0) 1 := (by decide +kernel : decode prog_14_method_85_code 85 = .ok (.aload_n 0, 1))
theorem d_M_person_86 : m_D k_M_person 86 (.iload_n 1) 1 := (by decide +kernel : decode prog_14_method_85_code 86 = .ok (.iload_n 1, 1))
theorem d_M_person_87 : m_D k_M_person 87 (.invokevirtual 354) 3 := (by decide +kernel : decode prog_14_method_85_code 87 = .ok (.invokevirtual 354, 3))
theorem d_M_person_90 : m_D k_M_person 90 (.ireturn) 1 := (by decide +kernel : decode prog_14_method_85_code 90 = .ok (.ireturn, 1))
def fn_M_person (x0 : Option mA) (x1 : Int32) (x2 : Int32) : mP Int32 :=
  m_th 11 x0 <|
  m_bd (m_pI 11 1 x0 0) fun _ =>
  m_bd (m_pI 11 0 x0 0) fun _ =>
  m_bd (fn_M_isPersonAt x0 x1) fun v1 =>
  if v1 = 0 then
    m_bd (fn_M_refuse x0 2) fun v8 =>
    m_rt v8
  else
    m_bd (fn_M_isIn (x2).toInt64 0 4) fun v2 =>
    if v2 = 0 then
      m_bd (fn_M_refuse x0 5) fun v7 =>
      m_rt v7
    else
      if 3 ≤ x2 then
        if x2 = 3 then
          m_bd (fn_M_showsNow x0 x1) fun v4 =>
          if v4 = 0 then
            m_rt 0
          else
            m_rt 1
        else
          m_bd (fn_M_lovedThings x0 x1) fun v3 =>
          m_rt v3
      else
        m_bd (m_gR 11 20 x0) fun v5 =>
        m_bd (m_aI 0 v5 ((7 + (6 * x2)) + x1)) fun v6 =>
        m_rt v6
set_option maxHeartbeats 4000000 in
set_option maxRecDepth 100000 in
theorem sd_M_person (x0 : Option mA) (x1 : Int32) (x2 : Int32) : m_Sm k_M_person 3 0 0 [.inr (.inr x0), .inl x1, .inl x2] (fn_M_person x0 x1 x2) (fun b => some (.inl b)) := by
  refine ⟨Nat.le_of_ble_eq_true rfl, ?_⟩
  refine sm_th ?_
  refine sm_aload_n (i := 0) (j := 0) (pc' := 1) d_M_person_0 rfl rfl rfl (sm_iconst (pc' := 2) d_M_person_1 rfl ic_0 (sm_putI (pc' := 5) d_M_person_2 rfl fl_M_81 (Or.inl rfl) rfl (sm_aload_n (i := 0) (j := 0) (pc' := 6) d_M_person_5 rfl rfl rfl (sm_iconst (pc' := 7) d_M_person_6 rfl ic_0 (sm_putI (pc' := 10) d_M_person_7 rfl fl_M_84 (Or.inl rfl) rfl (sm_aload_n (i := 0) (j := 0) (pc' := 11) d_M_person_10 rfl rfl rfl (sm_iload_n (i := 1) (j := 1) (pc' := 12) d_M_person_11 rfl rfl rfl ?_)))))))
  refine sm_callVi (ci := 11) (x := x0) (av := [.inl x1]) (st := []) (mc := 0) (ms := 0) (pc' := 15) d_M_person_12 rfl (sd_M_isPersonAt x0 x1) m_lv rfl cv_M_isPersonAt w_ml_M_349 rfl rfl (by decide) (Nat.le_of_ble_eq_true rfl) rfl rfl (fun v1 => ?_)
  refine sm_if_ne (tgt := 24) (pc' := 18) d_M_person_15 rfl rfl ?_ ?_
  · refine sm_iload_n (i := 2) (j := 2) (pc' := 25) d_M_person_24 rfl rfl rfl (sm_i2l (pc' := 26) d_M_person_25 rfl (sm_lconst (pc' := 27) (v := 0) d_M_person_26 rfl rfl (sm_ldc2 (v := 4) (pc' := 30) d_M_person_27 rfl w_cl_M_352 ?_)))
    refine sm_callSi (av := [.inr (.inl (x2).toInt64), .inr (.inl 0), .inr (.inl 4)]) (st := []) (mc := 0) (ms := 0) (pc' := 33) d_M_person_30 rfl (sd_M_isIn (x2).toInt64 0 4) cs_M_isIn w_ml_M_116 rfl rfl (by decide) (Nat.le_of_ble_eq_true rfl) rfl rfl (fun v2 => ?_)
    refine sm_if_ne (tgt := 42) (pc' := 36) d_M_person_33 rfl rfl ?_ ?_
    · refine sm_iload_n (i := 2) (j := 2) (pc' := 43) d_M_person_42 rfl rfl rfl (sm_iconst (pc' := 44) d_M_person_43 rfl ic_3 ?_)
      refine sm_icmp_ge (tgt := 64) (pc' := 47) d_M_person_44 rfl rfl ?_ ?_
      · refine sm_iload_n (i := 2) (j := 2) (pc' := 65) d_M_person_64 rfl rfl rfl (sm_iconst (pc' := 66) d_M_person_65 rfl ic_3 ?_)
        refine sm_icmp_ne (tgt := 85) (pc' := 69) d_M_person_66 rfl rfl ?_ ?_
        · refine sm_aload_n (i := 0) (j := 0) (pc' := 86) d_M_person_85 rfl rfl rfl (sm_iload_n (i := 1) (j := 1) (pc' := 87) d_M_person_86 rfl rfl rfl ?_)
          refine sm_callVi (ci := 11) (x := x0) (av := [.inl x1]) (st := []) (mc := 0) (ms := 0) (pc' := 90) d_M_person_87 rfl (sd_M_lovedThings x0 x1) m_lv rfl cv_M_lovedThings w_ml_M_354 rfl rfl (by decide) (Nat.le_of_ble_eq_true rfl) rfl rfl (fun v3 => ?_)
          exact sm_ireturn d_M_person_90 rfl rfl
        · refine sm_aload_n (i := 0) (j := 0) (pc' := 70) d_M_person_69 rfl rfl rfl (sm_iload_n (i := 1) (j := 1) (pc' := 71) d_M_person_70 rfl rfl rfl ?_)
          refine sm_callVi (ci := 11) (x := x0) (av := [.inl x1]) (st := []) (mc := 0) (ms := 0) (pc' := 74) d_M_person_71 rfl (sd_M_showsNow x0 x1) m_lv rfl cv_M_showsNow w_ml_M_313 rfl rfl (by decide) (Nat.le_of_ble_eq_true rfl) rfl rfl (fun v4 => ?_)
          refine sm_if_eq (tgt := 81) (pc' := 77) d_M_person_74 rfl rfl ?_ ?_
          · refine sm_iconst (pc' := 82) d_M_person_81 rfl ic_0 (sm_goto (tgt := 90) d_M_person_82 rfl ?_)
            exact sm_ireturn d_M_person_90 rfl rfl
          · refine sm_iconst (pc' := 78) d_M_person_77 rfl ic_1 (sm_goto (tgt := 90) d_M_person_78 rfl ?_)
            exact sm_ireturn d_M_person_90 rfl rfl
      · refine sm_aload_n (i := 0) (j := 0) (pc' := 48) d_M_person_47 rfl rfl rfl ?_
        refine sm_getR (pc' := 51) d_M_person_48 rfl fl_M_35 rfl rfl (fun v5 => ?_)
        refine sm_bipush (pc' := 53) d_M_person_51 rfl ib_7 (sm_bipush (pc' := 55) d_M_person_53 rfl ib_6 (sm_iload_n (i := 2) (j := 2) (pc' := 56) d_M_person_55 rfl rfl rfl (sm_imul (pc' := 57) d_M_person_56 rfl (sm_iadd (pc' := 58) d_M_person_57 rfl (sm_iload_n (i := 1) (j := 1) (pc' := 59) d_M_person_58 rfl rfl rfl (sm_iadd (pc' := 60) d_M_person_59 rfl ?_))))))
        refine sm_iald (pc' := 61) d_M_person_60 rfl (fun v6 => ?_)
        refine sm_goto (tgt := 90) d_M_person_61 rfl ?_
        exact sm_ireturn d_M_person_90 rfl rfl
    · refine sm_aload_n (i := 0) (j := 0) (pc' := 37) d_M_person_36 rfl rfl rfl (sm_iconst (pc' := 38) d_M_person_37 rfl ic_5 ?_)
      refine sm_callVi (ci := 11) (x := x0) (av := [.inl 5]) (st := []) (mc := 0) (ms := 0) (pc' := 41) d_M_person_38 rfl (sd_M_refuse x0 5) m_lv rfl cv_M_refuse w_ml_M_331 rfl rfl (by decide) (Nat.le_of_ble_eq_true rfl) rfl rfl (fun v7 => ?_)
      exact sm_ireturn d_M_person_41 rfl rfl
  · refine sm_aload_n (i := 0) (j := 0) (pc' := 19) d_M_person_18 rfl rfl rfl (sm_iconst (pc' := 20) d_M_person_19 rfl ic_2 ?_)
    refine sm_callVi (ci := 11) (x := x0) (av := [.inl 2]) (st := []) (mc := 0) (ms := 0) (pc' := 23) d_M_person_20 rfl (sd_M_refuse x0 2) m_lv rfl cv_M_refuse w_ml_M_331 rfl rfl (by decide) (Nat.le_of_ble_eq_true rfl) rfl rfl (fun v8 => ?_)
    exact sm_ireturn d_M_person_23 rfl rfl
theorem d_M_bitten_0 : m_D k_M_bitten 0 (.iload_n 2) 1 := (by decide +kernel : decode prog_14_method_76_code 0 = .ok (.iload_n 2, 1))
theorem d_M_bitten_1 : m_D k_M_bitten 1 (.ifCond .eq 13) 3 := (by decide +kernel : decode prog_14_method_76_code 1 = .ok (.ifCond .eq 13, 3))
theorem d_M_bitten_4 : m_D k_M_bitten 4 (.iload_n 0) 1 := (by decide +kernel : decode prog_14_method_76_code 4 = .ok (.iload_n 0, 1))
theorem d_M_bitten_5 : m_D k_M_bitten 5 (.iload_n 1) 1 := (by decide +kernel : decode prog_14_method_76_code 5 = .ok (.iload_n 1, 1))
theorem d_M_bitten_6 : m_D k_M_bitten 6 (.imul) 1 := (by decide +kernel : decode prog_14_method_76_code 6 = .ok (.imul, 1))
theorem d_M_bitten_7 : m_D k_M_bitten 7 (.iconst 4) 1 := (by decide +kernel : decode prog_14_method_76_code 7 = .ok (.iconst 4, 1))
theorem d_M_bitten_8 : m_D k_M_bitten 8 (.idiv) 1 := (by decide +kernel : decode prog_14_method_76_code 8 = .ok (.idiv, 1))
theorem d_M_bitten_9 : m_D k_M_bitten 9 (.iconst 2) 1 := (by decide +kernel : decode prog_14_method_76_code 9 = .ok (.iconst 2, 1))
theorem d_M_bitten_10 : m_D k_M_bitten 10 (.idiv) 1 := (by decide +kernel : decode prog_14_method_76_code 10 = .ok (.idiv, 1))
theorem d_M_bitten_11 : m_D k_M_bitten 11 (.goto 8) 3 := (by decide +kernel : decode prog_14_method_76_code 11 = .ok (.goto 8, 3))
theorem d_M_bitten_14 : m_D k_M_bitten 14 (.iload_n 0) 1 := (by decide +kernel : decode prog_14_method_76_code 14 = .ok (.iload_n 0, 1))
theorem d_M_bitten_15 : m_D k_M_bitten 15 (.iload_n 1) 1 := (by decide +kernel : decode prog_14_method_76_code 15 = .ok (.iload_n 1, 1))
theorem d_M_bitten_16 : m_D k_M_bitten 16 (.imul) 1 := (by decide +kernel : decode prog_14_method_76_code 16 = .ok (.imul, 1))
theorem d_M_bitten_17 : m_D k_M_bitten 17 (.iconst 4) 1 := (by decide +kernel : decode prog_14_method_76_code 17 = .ok (.iconst 4, 1))
theorem d_M_bitten_18 : m_D k_M_bitten 18 (.idiv) 1 := (by decide +kernel : decode prog_14_method_76_code 18 = .ok (.idiv, 1))
theorem d_M_bitten_19 : m_D k_M_bitten 19 (.ireturn) 1 := (by decide +kernel : decode prog_14_method_76_code 19 = .ok (.ireturn, 1))
def fn_M_bitten (x0 : Int32) (x1 : Int32) (x2 : Int32) : mP Int32 :=
  if x2 = 0 then
    m_rt ((x0 * x1) / 4)
  else
    m_rt (((x0 * x1) / 4) / 2)
set_option maxHeartbeats 4000000 in
set_option maxRecDepth 100000 in
theorem sd_M_bitten (x0 : Int32) (x1 : Int32) (x2 : Int32) : m_Sm k_M_bitten 1 0 0 [.inl x0, .inl x1, .inl x2] (fn_M_bitten x0 x1 x2) (fun b => some (.inl b)) := by
  refine ⟨Nat.le_of_ble_eq_true rfl, ?_⟩
  refine sm_iload_n (i := 2) (j := 2) (pc' := 1) d_M_bitten_0 rfl rfl rfl ?_
  refine sm_if_eq (tgt := 14) (pc' := 4) d_M_bitten_1 rfl rfl ?_ ?_
  · refine sm_iload_n (i := 0) (j := 0) (pc' := 15) d_M_bitten_14 rfl rfl rfl (sm_iload_n (i := 1) (j := 1) (pc' := 16) d_M_bitten_15 rfl rfl rfl (sm_imul (pc' := 17) d_M_bitten_16 rfl (sm_iconst (pc' := 18) d_M_bitten_17 rfl ic_4 (sm_idiv (pc' := 19) d_M_bitten_18 rfl (by decide) ?_))))
    exact sm_ireturn d_M_bitten_19 rfl rfl
  · refine sm_iload_n (i := 0) (j := 0) (pc' := 5) d_M_bitten_4 rfl rfl rfl (sm_iload_n (i := 1) (j := 1) (pc' := 6) d_M_bitten_5 rfl rfl rfl (sm_imul (pc' := 7) d_M_bitten_6 rfl (sm_iconst (pc' := 8) d_M_bitten_7 rfl ic_4 (sm_idiv (pc' := 9) d_M_bitten_8 rfl (by decide) (sm_iconst (pc' := 10) d_M_bitten_9 rfl ic_2 (sm_idiv (pc' := 11) d_M_bitten_10 rfl (by decide) (sm_goto (tgt := 19) d_M_bitten_11 rfl ?_)))))))
    exact sm_ireturn d_M_bitten_19 rfl rfl
theorem d_M_lovedOf_0 : m_D k_M_lovedOf 0 (.iconst 0) 1 := (by decide +kernel : decode prog_14_method_75_code 0 = .ok (.iconst 0, 1))
theorem d_M_lovedOf_1 : m_D k_M_lovedOf 1 (.istore_n 2) 1 := (by decide +kernel : decode prog_14_method_75_code 1 = .ok (.istore_n 2, 1))
theorem d_M_lovedOf_2 : m_D k_M_lovedOf 2 (.iconst 0) 1 := (by decide +kernel : decode prog_14_method_75_code 2 = .ok (.iconst 0, 1))
theorem d_M_lovedOf_3 : m_D k_M_lovedOf 3 (.istore_n 3) 1 := (by decide +kernel : decode prog_14_method_75_code 3 = .ok (.istore_n 3, 1))
theorem d_M_lovedOf_4 : m_D k_M_lovedOf 4 (.iload_n 3) 1 := (by decide +kernel : decode prog_14_method_75_code 4 = .ok (.iload_n 3, 1))
theorem d_M_lovedOf_5 : m_D k_M_lovedOf 5 (.aload_n 0) 1 := (by decide +kernel : decode prog_14_method_75_code 5 = .ok (.aload_n 0, 1))
theorem d_M_lovedOf_6 : m_D k_M_lovedOf 6 (.getfield 35) 3 := (by decide +kernel : decode prog_14_method_75_code 6 = .ok (.getfield 35, 3))
theorem d_M_lovedOf_9 : m_D k_M_lovedOf 9 (.iconst 0) 1 := (by decide +kernel : decode prog_14_method_75_code 9 = .ok (.iconst 0, 1))
theorem d_M_lovedOf_10 : m_D k_M_lovedOf 10 (.iaload) 1 := (by decide +kernel : decode prog_14_method_75_code 10 = .ok (.iaload, 1))
theorem d_M_lovedOf_11 : m_D k_M_lovedOf 11 (.if_icmp .ge 30) 3 := (by decide +kernel : decode prog_14_method_75_code 11 = .ok (.if_icmp .ge 30, 3))
theorem d_M_lovedOf_14 : m_D k_M_lovedOf 14 (.iload_n 2) 1 := (by decide +kernel : decode prog_14_method_75_code 14 = .ok (.iload_n 2, 1))
theorem d_M_lovedOf_15 : m_D k_M_lovedOf 15 (.aload_n 0) 1 := (by decide +kernel : decode prog_14_method_75_code 15 = .ok (.aload_n 0, 1))
theorem d_M_lovedOf_16 : m_D k_M_lovedOf 16 (.iload_n 3) 1 := (by decide +kernel : decode prog_14_method_75_code 16 = .ok (.iload_n 3, 1))
theorem d_M_lovedOf_17 : m_D k_M_lovedOf 17 (.invokevirtual 313) 3 := (by decide +kernel : decode prog_14_method_75_code 17 = .ok (.invokevirtual 313, 3))
theorem d_M_lovedOf_20 : m_D k_M_lovedOf 20 (.ifCond .eq 12) 3 := (by decide +kernel : decode prog_14_method_75_code 20 = .ok (.ifCond .eq 12, 3))
theorem d_M_lovedOf_23 : m_D k_M_lovedOf 23 (.aload_n 0) 1 := (by decide +kernel : decode prog_14_method_75_code 23 = .ok (.aload_n 0, 1))
theorem d_M_lovedOf_24 : m_D k_M_lovedOf 24 (.iload_n 3) 1 := (by decide +kernel : decode prog_14_method_75_code 24 = .ok (.iload_n 3, 1))
theorem d_M_lovedOf_25 : m_D k_M_lovedOf 25 (.iload_n 1) 1 := (by decide +kernel : decode prog_14_method_75_code 25 = .ok (.iload_n 1, 1))
theorem d_M_lovedOf_26 : m_D k_M_lovedOf 26 (.invokevirtual 316) 3 := (by decide +kernel : decode prog_14_method_75_code 26 = .ok (.invokevirtual 316, 3))
theorem d_M_lovedOf_29 : m_D k_M_lovedOf 29 (.goto 4) 3 := (by decide +kernel : decode prog_14_method_75_code 29 = .ok (.goto 4, 3))
theorem d_M_lovedOf_32 : m_D k_M_lovedOf 32 (.iconst 0) 1 := (by decide +kernel : decode prog_14_method_75_code 32 = .ok (.iconst 0, 1))
theorem d_M_lovedOf_33 : m_D k_M_lovedOf 33 (.iadd) 1 := (by decide +kernel : decode prog_14_method_75_code 33 = .ok (.iadd, 1))
theorem d_M_lovedOf_34 : m_D k_M_lovedOf 34 (.istore_n 2) 1 := (by decide +kernel : decode prog_14_method_75_code 34 = .ok (.istore_n 2, 1))
theorem d_M_lovedOf_35 : m_D k_M_lovedOf 35 (.iinc 3 1) 3 := (by decide +kernel : decode prog_14_method_75_code 35 = .ok (.iinc 3 1, 3))
theorem d_M_lovedOf_38 : m_D k_M_lovedOf 38 (.goto (-34)) 3 := (by decide +kernel : decode prog_14_method_75_code 38 = .ok (.goto (-34), 3))
theorem d_M_lovedOf_41 : m_D k_M_lovedOf 41 (.iload_n 2) 1 := (by decide +kernel : decode prog_14_method_75_code 41 = .ok (.iload_n 2, 1))
theorem d_M_lovedOf_42 : m_D k_M_lovedOf 42 (.ireturn) 1 := (by decide +kernel : decode prog_14_method_75_code 42 = .ok (.ireturn, 1))
def fn_M_lovedOf_l4 (x0 : Option mA) (x1 : Int32) (t1 : Int32 × Int32) : mP ((Int32 × Int32) ⊕ (Int32)) :=
  m_bd (m_gR 11 20 x0) fun v2 =>
  m_bd (m_aI 0 v2 0) fun v3 =>
  if v3 ≤ t1.2 then
    m_rt (.inr t1.1)
  else
    m_bd (fn_M_showsNow x0 t1.2) fun v4 =>
    m_bd (α := Int32) (
      if v4 = 0 then
        m_rt 0
      else
        m_bd (fn_M_loveOf x0 t1.2 x1) fun v5 =>
        m_rt v5
      ) fun (t6 : Int32) =>
    m_rt (.inl ((t1.1 + t6), (t1.2 + 1)))
def fn_M_lovedOf (x0 : Option mA) (x1 : Int32) : mP Int32 :=
  m_th 11 x0 <|
  m_bd (m_lp (fn_M_lovedOf_l4 x0 x1) m_F (0, 0)) fun (t7 : Int32) =>
  m_rt t7
set_option maxHeartbeats 4000000 in
set_option maxRecDepth 100000 in
theorem sd_M_lovedOf (x0 : Option mA) (x1 : Int32) : m_Sm k_M_lovedOf 2 0 0 [.inr (.inr x0), .inl x1] (fn_M_lovedOf x0 x1) (fun b => some (.inl b)) := by
  refine ⟨Nat.le_of_ble_eq_true rfl, ?_⟩
  refine sm_th ?_
  refine sm_iconst (pc' := 1) d_M_lovedOf_0 rfl ic_0 (sm_istore_n (i := 2) (L' := [(2, .inl 0), (0, .inr (.inr x0)), (1, .inl x1)]) (pc' := 2) d_M_lovedOf_1 rfl rfl (Nat.le_of_ble_eq_true rfl) rfl (sm_iconst (pc' := 3) d_M_lovedOf_2 rfl ic_0 (sm_istore_n (i := 3) (L' := [(3, .inl 0), (2, .inl 0), (0, .inr (.inr x0)), (1, .inl x1)]) (pc' := 4) d_M_lovedOf_3 rfl rfl (Nat.le_of_ble_eq_true rfl) rfl ?_)))
  refine sm_sub [1, 0, 2, 3] rfl ?_
  refine sm_bd (mid := fun (t7 : Int32) => .inl (41, [(2, .inl t7)], [])) (sm_lp (hd := fun (t1 : Int32 × Int32) => (.inl (4, [(2, .inl t1.1), (3, .inl t1.2), (0, .inr (.inr x0)), (1, .inl x1)], []) : mC)) (fun t1 => ?_) m_F (0, 0)) (fun t7 => ?_)
  · refine sm_iload_n (i := 3) (j := 1) (pc' := 5) d_M_lovedOf_4 rfl rfl rfl (sm_aload_n (i := 0) (j := 2) (pc' := 6) d_M_lovedOf_5 rfl rfl rfl ?_)
    refine sm_getR (pc' := 9) d_M_lovedOf_6 rfl fl_M_35 rfl rfl (fun v2 => ?_)
    refine sm_iconst (pc' := 10) d_M_lovedOf_9 rfl ic_0 ?_
    refine sm_iald (pc' := 11) d_M_lovedOf_10 rfl (fun v3 => ?_)
    refine sm_icmp_ge (tgt := 41) (pc' := 14) d_M_lovedOf_11 rfl rfl ?_ ?_
    · refine sm_sub [0] rfl ?_
      exact sm_rt rfl
    · refine sm_iload_n (i := 2) (j := 0) (pc' := 15) d_M_lovedOf_14 rfl rfl rfl (sm_aload_n (i := 0) (j := 2) (pc' := 16) d_M_lovedOf_15 rfl rfl rfl (sm_iload_n (i := 3) (j := 1) (pc' := 17) d_M_lovedOf_16 rfl rfl rfl ?_))
      refine sm_callVi (ci := 11) (x := x0) (av := [.inl t1.2]) (st := [.inl t1.1]) (mc := 0) (ms := 0) (pc' := 20) d_M_lovedOf_17 rfl (sd_M_showsNow x0 t1.2) m_lv rfl cv_M_showsNow w_ml_M_313 rfl rfl (by decide) (Nat.le_of_ble_eq_true rfl) rfl rfl (fun v4 => ?_)
      refine sm_bd (mid := fun (t6 : Int32) => .inl (33, [(0, .inr (.inr x0)), (1, .inl x1), (3, .inl t1.2)], [.inl t6, .inl t1.1])) ?_ (fun t6 => ?_)
      · refine sm_if_eq (tgt := 32) (pc' := 23) d_M_lovedOf_20 rfl rfl ?_ ?_
        · refine sm_iconst (pc' := 33) d_M_lovedOf_32 rfl ic_0 (sm_sub [2, 3, 1] rfl ?_)
          exact sm_rt rfl
        · refine sm_aload_n (i := 0) (j := 2) (pc' := 24) d_M_lovedOf_23 rfl rfl rfl (sm_iload_n (i := 3) (j := 1) (pc' := 25) d_M_lovedOf_24 rfl rfl rfl (sm_iload_n (i := 1) (j := 3) (pc' := 26) d_M_lovedOf_25 rfl rfl rfl ?_))
          refine sm_callVi (ci := 11) (x := x0) (av := [.inl t1.2, .inl x1]) (st := [.inl t1.1]) (mc := 0) (ms := 0) (pc' := 29) d_M_lovedOf_26 rfl (sd_M_loveOf x0 t1.2 x1) m_lv rfl cv_M_loveOf w_ml_M_316 rfl rfl (by decide) (Nat.le_of_ble_eq_true rfl) rfl rfl (fun v5 => ?_)
          refine sm_goto (tgt := 33) d_M_lovedOf_29 rfl (sm_sub [2, 3, 1] rfl ?_)
          exact sm_rt rfl
      · refine sm_iadd (pc' := 34) d_M_lovedOf_33 rfl (sm_istore_n (i := 2) (L' := [(2, .inl (t1.1 + t6)), (0, .inr (.inr x0)), (1, .inl x1), (3, .inl t1.2)]) (pc' := 35) d_M_lovedOf_34 rfl rfl (Nat.le_of_ble_eq_true rfl) rfl (sm_iinc (j := 3) (L' := [(3, .inl (t1.2 + 1)), (2, .inl (t1.1 + t6)), (0, .inr (.inr x0)), (1, .inl x1)]) (pc' := 38) d_M_lovedOf_35 rfl (v := (t1.2 + 1)) rfl (ix_1 _) (Nat.le_of_ble_eq_true rfl) rfl (sm_goto (tgt := 4) d_M_lovedOf_38 rfl (sm_sub [1, 0, 2, 3] rfl ?_))))
        exact sm_rt rfl
  · refine sm_iload_n (i := 2) (j := 0) (pc' := 42) d_M_lovedOf_41 rfl rfl rfl ?_
    exact sm_ireturn d_M_lovedOf_42 rfl rfl
theorem d_M_biteOf_0 : m_D k_M_biteOf 0 (.aload_n 0) 1 := (by decide +kernel : decode prog_14_method_77_code 0 = .ok (.aload_n 0, 1))
theorem d_M_biteOf_1 : m_D k_M_biteOf 1 (.iload_n 1) 1 := (by decide +kernel : decode prog_14_method_77_code 1 = .ok (.iload_n 1, 1))
theorem d_M_biteOf_2 : m_D k_M_biteOf 2 (.invokevirtual 319) 3 := (by decide +kernel : decode prog_14_method_77_code 2 = .ok (.invokevirtual 319, 3))
theorem d_M_biteOf_5 : m_D k_M_biteOf 5 (.ifCond .eq 7) 3 := (by decide +kernel : decode prog_14_method_77_code 5 = .ok (.ifCond .eq 7, 3))
theorem d_M_biteOf_8 : m_D k_M_biteOf 8 (.iconst 0) 1 := (by decide +kernel : decode prog_14_method_77_code 8 = .ok (.iconst 0, 1))
theorem d_M_biteOf_9 : m_D k_M_biteOf 9 (.goto 34) 3 := (by decide +kernel : decode prog_14_method_77_code 9 = .ok (.goto 34, 3))
theorem d_M_biteOf_12 : m_D k_M_biteOf 12 (.aload_n 0) 1 := (by decide +kernel : decode prog_14_method_77_code 12 = .ok (.aload_n 0, 1))
theorem d_M_biteOf_13 : m_D k_M_biteOf 13 (.iload_n 1) 1 := (by decide +kernel : decode prog_14_method_77_code 13 = .ok (.iload_n 1, 1))
theorem d_M_biteOf_14 : m_D k_M_biteOf 14 (.invokevirtual 322) 3 := (by decide +kernel : decode prog_14_method_77_code 14 = .ok (.invokevirtual 322, 3))
theorem d_M_biteOf_17 : m_D k_M_biteOf 17 (.aload_n 0) 1 := (by decide +kernel : decode prog_14_method_77_code 17 = .ok (.aload_n 0, 1))
theorem d_M_biteOf_18 : m_D k_M_biteOf 18 (.getfield 35) 3 := (by decide +kernel : decode prog_14_method_77_code 18 = .ok (.getfield 35, 3))
theorem d_M_biteOf_21 : m_D k_M_biteOf 21 (.iconst 4) 1 := (by decide +kernel : decode prog_14_method_77_code 21 = .ok (.iconst 4, 1))
theorem d_M_biteOf_22 : m_D k_M_biteOf 22 (.iaload) 1 := (by decide +kernel : decode prog_14_method_77_code 22 = .ok (.iaload, 1))
theorem d_M_biteOf_23 : m_D k_M_biteOf 23 (.aload_n 0) 1 := (by decide +kernel : decode prog_14_method_77_code 23 = .ok (.aload_n 0, 1))
theorem d_M_biteOf_24 : m_D k_M_biteOf 24 (.getfield 35) 3 := (by decide +kernel : decode prog_14_method_77_code 24 = .ok (.getfield 35, 3))
theorem d_M_biteOf_27 : m_D k_M_biteOf 27 (.bipush 49) 2 := (by decide +kernel : decode prog_14_method_77_code 27 = .ok (.bipush 49, 2))
theorem d_M_biteOf_29 : m_D k_M_biteOf 29 (.iload_n 1) 1 := (by decide +kernel : decode prog_14_method_77_code 29 = .ok (.iload_n 1, 1))
theorem d_M_biteOf_30 : m_D k_M_biteOf 30 (.iadd) 1 := (by decide +kernel : decode prog_14_method_77_code 30 = .ok (.iadd, 1))
theorem d_M_biteOf_31 : m_D k_M_biteOf 31 (.iaload) 1 := (by decide +kernel : decode prog_14_method_77_code 31 = .ok (.iaload, 1))
theorem d_M_biteOf_32 : m_D k_M_biteOf 32 (.ifCond .le 7) 3 := (by decide +kernel : decode prog_14_method_77_code 32 = .ok (.ifCond .le 7, 3))
theorem d_M_biteOf_35 : m_D k_M_biteOf 35 (.iconst 1) 1 := (by decide +kernel : decode prog_14_method_77_code 35 = .ok (.iconst 1, 1))
theorem d_M_biteOf_36 : m_D k_M_biteOf 36 (.goto 4) 3 := (by decide +kernel : decode prog_14_method_77_code 36 = .ok (.goto 4, 3))
theorem d_M_biteOf_39 : m_D k_M_biteOf 39 (.iconst 0) 1 := (by decide +kernel : decode prog_14_method_77_code 39 = .ok (.iconst 0, 1))
theorem d_M_biteOf_40 : m_D k_M_biteOf 40 (.invokestatic 325) 3 := (by decide +kernel : decode prog_14_method_77_code 40 = .ok (.invokestatic 325, 3))
theorem d_M_biteOf_43 : m_D k_M_biteOf 43 (.ireturn) 1 := (by decide +kernel : decode prog_14_method_77_code 43 = .ok (.ireturn, 1))
def fn_M_biteOf (x0 : Option mA) (x1 : Int32) : mP Int32 :=
  m_th 11 x0 <|
  m_bd (fn_M_isThrough x0 x1) fun v1 =>
  if v1 = 0 then
    m_bd (fn_M_lovedOf x0 x1) fun v2 =>
    m_bd (m_gR 11 20 x0) fun v3 =>
    m_bd (m_aI 0 v3 4) fun v4 =>
    m_bd (m_gR 11 20 x0) fun v5 =>
    m_bd (m_aI 0 v5 (49 + x1)) fun v6 =>
    m_bd (α := Int32) (
      if v6 ≤ 0 then
        m_rt 0
      else
        m_rt 1
      ) fun (t7 : Int32) =>
    m_bd (fn_M_bitten v2 v4 t7) fun v8 =>
    m_rt v8
  else
    m_rt 0
set_option maxHeartbeats 4000000 in
set_option maxRecDepth 100000 in
theorem sd_M_biteOf (x0 : Option mA) (x1 : Int32) : m_Sm k_M_biteOf 3 0 0 [.inr (.inr x0), .inl x1] (fn_M_biteOf x0 x1) (fun b => some (.inl b)) := by
  refine ⟨Nat.le_of_ble_eq_true rfl, ?_⟩
  refine sm_th ?_
  refine sm_aload_n (i := 0) (j := 0) (pc' := 1) d_M_biteOf_0 rfl rfl rfl (sm_iload_n (i := 1) (j := 1) (pc' := 2) d_M_biteOf_1 rfl rfl rfl ?_)
  refine sm_callVi (ci := 11) (x := x0) (av := [.inl x1]) (st := []) (mc := 0) (ms := 0) (pc' := 5) d_M_biteOf_2 rfl (sd_M_isThrough x0 x1) m_lv rfl cv_M_isThrough w_ml_M_319 rfl rfl (by decide) (Nat.le_of_ble_eq_true rfl) rfl rfl (fun v1 => ?_)
  refine sm_if_eq (tgt := 12) (pc' := 8) d_M_biteOf_5 rfl rfl ?_ ?_
  · refine sm_aload_n (i := 0) (j := 0) (pc' := 13) d_M_biteOf_12 rfl rfl rfl (sm_iload_n (i := 1) (j := 1) (pc' := 14) d_M_biteOf_13 rfl rfl rfl ?_)
    refine sm_callVi (ci := 11) (x := x0) (av := [.inl x1]) (st := []) (mc := 0) (ms := 0) (pc' := 17) d_M_biteOf_14 rfl (sd_M_lovedOf x0 x1) m_lv rfl cv_M_lovedOf w_ml_M_322 rfl rfl (by decide) (Nat.le_of_ble_eq_true rfl) rfl rfl (fun v2 => ?_)
    refine sm_aload_n (i := 0) (j := 0) (pc' := 18) d_M_biteOf_17 rfl rfl rfl ?_
    refine sm_getR (pc' := 21) d_M_biteOf_18 rfl fl_M_35 rfl rfl (fun v3 => ?_)
    refine sm_iconst (pc' := 22) d_M_biteOf_21 rfl ic_4 ?_
    refine sm_iald (pc' := 23) d_M_biteOf_22 rfl (fun v4 => ?_)
    refine sm_aload_n (i := 0) (j := 0) (pc' := 24) d_M_biteOf_23 rfl rfl rfl ?_
    refine sm_getR (pc' := 27) d_M_biteOf_24 rfl fl_M_35 rfl rfl (fun v5 => ?_)
    refine sm_bipush (pc' := 29) d_M_biteOf_27 rfl ib_49 (sm_iload_n (i := 1) (j := 1) (pc' := 30) d_M_biteOf_29 rfl rfl rfl (sm_iadd (pc' := 31) d_M_biteOf_30 rfl ?_))
    refine sm_iald (pc' := 32) d_M_biteOf_31 rfl (fun v6 => ?_)
    refine sm_bd (mid := fun (t7 : Int32) => .inl (40, [], [.inl t7, .inl v4, .inl v2])) ?_ (fun t7 => ?_)
    · refine sm_if_le (tgt := 39) (pc' := 35) d_M_biteOf_32 rfl rfl ?_ ?_
      · refine sm_iconst (pc' := 40) d_M_biteOf_39 rfl ic_0 (sm_sub [] rfl ?_)
        exact sm_rt rfl
      · refine sm_iconst (pc' := 36) d_M_biteOf_35 rfl ic_1 (sm_goto (tgt := 40) d_M_biteOf_36 rfl (sm_sub [] rfl ?_))
        exact sm_rt rfl
    · refine sm_callSi (av := [.inl v2, .inl v4, .inl t7]) (st := []) (mc := 0) (ms := 0) (pc' := 43) d_M_biteOf_40 rfl (sd_M_bitten v2 v4 t7) cs_M_bitten w_ml_M_325 rfl rfl (by decide) (Nat.le_of_ble_eq_true rfl) rfl rfl (fun v8 => ?_)
      exact sm_ireturn d_M_biteOf_43 rfl rfl
  · refine sm_iconst (pc' := 9) d_M_biteOf_8 rfl ic_0 (sm_goto (tgt := 43) d_M_biteOf_9 rfl ?_)
    exact sm_ireturn d_M_biteOf_43 rfl rfl
theorem d_M_isThingAt_0 : m_D k_M_isThingAt 0 (.iload_n 1) 1 := (by decide +kernel : decode prog_14_method_71_code 0 = .ok (.iload_n 1, 1))
theorem d_M_isThingAt_1 : m_D k_M_isThingAt 1 (.i2l) 1 := (by decide +kernel : decode prog_14_method_71_code 1 = .ok (.i2l, 1))
theorem d_M_isThingAt_2 : m_D k_M_isThingAt 2 (.lconst 0) 1 := (by decide +kernel : decode prog_14_method_71_code 2 = .ok (.lconst 0, 1))
theorem d_M_isThingAt_3 : m_D k_M_isThingAt 3 (.aload_n 0) 1 := (by decide +kernel : decode prog_14_method_71_code 3 = .ok (.aload_n 0, 1))
theorem d_M_isThingAt_4 : m_D k_M_isThingAt 4 (.getfield 35) 3 := (by decide +kernel : decode prog_14_method_71_code 4 = .ok (.getfield 35, 3))
theorem d_M_isThingAt_7 : m_D k_M_isThingAt 7 (.iconst 1) 1 := (by decide +kernel : decode prog_14_method_71_code 7 = .ok (.iconst 1, 1))
theorem d_M_isThingAt_8 : m_D k_M_isThingAt 8 (.iaload) 1 := (by decide +kernel : decode prog_14_method_71_code 8 = .ok (.iaload, 1))
theorem d_M_isThingAt_9 : m_D k_M_isThingAt 9 (.iconst 1) 1 := (by decide +kernel : decode prog_14_method_71_code 9 = .ok (.iconst 1, 1))
theorem d_M_isThingAt_10 : m_D k_M_isThingAt 10 (.isub) 1 := (by decide +kernel : decode prog_14_method_71_code 10 = .ok (.isub, 1))
theorem d_M_isThingAt_11 : m_D k_M_isThingAt 11 (.i2l) 1 := (by decide +kernel : decode prog_14_method_71_code 11 = .ok (.i2l, 1))
theorem d_M_isThingAt_12 : m_D k_M_isThingAt 12 (.invokestatic 116) 3 := (by decide +kernel : decode prog_14_method_71_code 12 = .ok (.invokestatic 116, 3))
theorem d_M_isThingAt_15 : m_D k_M_isThingAt 15 (.ireturn) 1 := (by decide +kernel : decode prog_14_method_71_code 15 = .ok (.ireturn, 1))
def fn_M_isThingAt (x0 : Option mA) (x1 : Int32) : mP Int32 :=
  m_th 11 x0 <|
  m_bd (m_gR 11 20 x0) fun v1 =>
  m_bd (m_aI 0 v1 1) fun v2 =>
  m_bd (fn_M_isIn (x1).toInt64 0 ((v2 - 1)).toInt64) fun v3 =>
  m_bd (m_cz v3) fun _ => m_rt v3
set_option maxHeartbeats 4000000 in
set_option maxRecDepth 100000 in
theorem sd_M_isThingAt (x0 : Option mA) (x1 : Int32) : m_Sm k_M_isThingAt 2 0 0 [.inr (.inr x0), .inl x1] (fn_M_isThingAt x0 x1) (fun b => some (.inl b)) := by
  refine ⟨Nat.le_of_ble_eq_true rfl, ?_⟩
  refine sm_th ?_
  refine sm_iload_n (i := 1) (j := 1) (pc' := 1) d_M_isThingAt_0 rfl rfl rfl (sm_i2l (pc' := 2) d_M_isThingAt_1 rfl (sm_lconst (pc' := 3) (v := 0) d_M_isThingAt_2 rfl rfl (sm_aload_n (i := 0) (j := 0) (pc' := 4) d_M_isThingAt_3 rfl rfl rfl ?_)))
  refine sm_getR (pc' := 7) d_M_isThingAt_4 rfl fl_M_35 rfl rfl (fun v1 => ?_)
  refine sm_iconst (pc' := 8) d_M_isThingAt_7 rfl ic_1 ?_
  refine sm_iald (pc' := 9) d_M_isThingAt_8 rfl (fun v2 => ?_)
  refine sm_iconst (pc' := 10) d_M_isThingAt_9 rfl ic_1 (sm_isub (pc' := 11) d_M_isThingAt_10 rfl (sm_i2l (pc' := 12) d_M_isThingAt_11 rfl ?_))
  refine sm_callSi (av := [.inr (.inl (x1).toInt64), .inr (.inl 0), .inr (.inl ((v2 - 1)).toInt64)]) (st := []) (mc := 0) (ms := 0) (pc' := 15) d_M_isThingAt_12 rfl (sd_M_isIn (x1).toInt64 0 ((v2 - 1)).toInt64) cs_M_isIn w_ml_M_116 rfl rfl (by decide) (Nat.le_of_ble_eq_true rfl) rfl rfl (fun v3 => ?_)
  exact sm_zretC d_M_isThingAt_15 rfl rfl
theorem d_M_thing_0 : m_D k_M_thing 0 (.aload_n 0) 1 := (by decide +kernel : decode prog_14_method_86_code 0 = .ok (.aload_n 0, 1))
theorem d_M_thing_1 : m_D k_M_thing 1 (.iconst 0) 1 := (by decide +kernel : decode prog_14_method_86_code 1 = .ok (.iconst 0, 1))
theorem d_M_thing_2 : m_D k_M_thing 2 (.putfield 81) 3 := (by decide +kernel : decode prog_14_method_86_code 2 = .ok (.putfield 81, 3))
theorem d_M_thing_5 : m_D k_M_thing 5 (.aload_n 0) 1 := (by decide +kernel : decode prog_14_method_86_code 5 = .ok (.aload_n 0, 1))
theorem d_M_thing_6 : m_D k_M_thing 6 (.iconst 0) 1 := (by decide +kernel : decode prog_14_method_86_code 6 = .ok (.iconst 0, 1))
theorem d_M_thing_7 : m_D k_M_thing 7 (.putfield 84) 3 := (by decide +kernel : decode prog_14_method_86_code 7 = .ok (.putfield 84, 3))
theorem d_M_thing_10 : m_D k_M_thing 10 (.aload_n 0) 1 := (by decide +kernel : decode prog_14_method_86_code 10 = .ok (.aload_n 0, 1))
theorem d_M_thing_11 : m_D k_M_thing 11 (.iload_n 1) 1 := (by decide +kernel : decode prog_14_method_86_code 11 = .ok (.iload_n 1, 1))
theorem d_M_thing_12 : m_D k_M_thing 12 (.invokevirtual 357) 3 := (by decide +kernel : decode prog_14_method_86_code 12 = .ok (.invokevirtual 357, 3))
theorem d_M_thing_15 : m_D k_M_thing 15 (.ifCond .ne 9) 3 := (by decide +kernel : decode prog_14_method_86_code 15 = .ok (.ifCond .ne 9, 3))
theorem d_M_thing_18 : m_D k_M_thing 18 (.aload_n 0) 1 := (by decide +kernel : decode prog_14_method_86_code 18 = .ok (.aload_n 0, 1))
theorem d_M_thing_19 : m_D k_M_thing 19 (.iconst 2) 1 := (by decide +kernel : decode prog_14_method_86_code 19 = .ok (.iconst 2, 1))
theorem d_M_thing_20 : m_D k_M_thing 20 (.invokevirtual 331) 3 := (by decide +kernel : decode prog_14_method_86_code 20 = .ok (.invokevirtual 331, 3))
theorem d_M_thing_23 : m_D k_M_thing 23 (.ireturn) 1 := (by decide +kernel : decode prog_14_method_86_code 23 = .ok (.ireturn, 1))
theorem d_M_thing_24 : m_D k_M_thing 24 (.iload_n 2) 1 := (by decide +kernel : decode prog_14_method_86_code 24 = .ok (.iload_n 2, 1))
theorem d_M_thing_25 : m_D k_M_thing 25 (.i2l) 1 := (by decide +kernel : decode prog_14_method_86_code 25 = .ok (.i2l, 1))
theorem d_M_thing_26 : m_D k_M_thing 26 (.lconst 0) 1 := (by decide +kernel : decode prog_14_method_86_code 26 = .ok (.lconst 0, 1))
theorem d_M_thing_27 : m_D k_M_thing 27 (.ldc2_w 360) 3 := (by decide +kernel : decode prog_14_method_86_code 27 = .ok (.ldc2_w 360, 3))
theorem d_M_thing_30 : m_D k_M_thing 30 (.invokestatic 116) 3 := (by decide +kernel : decode prog_14_method_86_code 30 = .ok (.invokestatic 116, 3))
theorem d_M_thing_33 : m_D k_M_thing 33 (.ifCond .ne 9) 3 := (by decide +kernel : decode prog_14_method_86_code 33 = .ok (.ifCond .ne 9, 3))
theorem d_M_thing_36 : m_D k_M_thing 36 (.aload_n 0) 1 := (by decide +kernel : decode prog_14_method_86_code 36 = .ok (.aload_n 0, 1))
theorem d_M_thing_37 : m_D k_M_thing 37 (.iconst 5) 1 := (by decide +kernel : decode prog_14_method_86_code 37 = .ok (.iconst 5, 1))
theorem d_M_thing_38 : m_D k_M_thing 38 (.invokevirtual 331) 3 := (by decide +kernel : decode prog_14_method_86_code 38 = .ok (.invokevirtual 331, 3))
theorem d_M_thing_41 : m_D k_M_thing 41 (.ireturn) 1 := (by decide +kernel : decode prog_14_method_86_code 41 = .ok (.ireturn, 1))
theorem d_M_thing_42 : m_D k_M_thing 42 (.iload_n 2) 1 := (by decide +kernel : decode prog_14_method_86_code 42 = .ok (.iload_n 2, 1))
theorem d_M_thing_43 : m_D k_M_thing 43 (.iconst 4) 1 := (by decide +kernel : decode prog_14_method_86_code 43 = .ok (.iconst 4, 1))
theorem d_M_thing_44 : m_D k_M_thing 44 (.if_icmp .ge 18) 3 := (by decide +kernel : decode prog_14_method_86_code 44 = .ok (.if_icmp .ge 18, 3))
theorem d_M_thing_47 : m_D k_M_thing 47 (.aload_n 0) 1 := (by decide +kernel : decode prog_14_method_86_code 47 = .ok (.aload_n 0, 1))
theorem d_M_thing_48 : m_D k_M_thing 48 (.getfield 35) 3 := (by decide +kernel : decode prog_14_method_86_code 48 = .ok (.getfield 35, 3))
theorem d_M_thing_51 : m_D k_M_thing 51 (.bipush 25) 2 := (by decide +kernel : decode prog_14_method_86_code 51 = .ok (.bipush 25, 2))
theorem d_M_thing_53 : m_D k_M_thing 53 (.bipush 8) 2 := (by decide +kernel : decode prog_14_method_86_code 53 = .ok (.bipush 8, 2))
theorem d_M_thing_55 : m_D k_M_thing 55 (.iload_n 2) 1 := (by decide +kernel : decode prog_14_method_86_code 55 = .ok (.iload_n 2, 1))
theorem d_M_thing_56 : m_D k_M_thing 56 (.imul) 1 := (by decide +kernel : decode prog_14_method_86_code 56 = .ok (.imul, 1))
theorem d_M_thing_57 : m_D k_M_thing 57 (.iadd) 1 := (by decide +kernel : decode prog_14_method_86_code 57 = .ok (.iadd, 1))
theorem d_M_thing_58 : m_D k_M_thing 58 (.iload_n 1) 1 := (by decide +kernel : decode prog_14_method_86_code 58 = .ok (.iload_n 1, 1))
theorem d_M_thing_59 : m_D k_M_thing 59 (.iadd) 1 := (by decide +kernel : decode prog_14_method_86_code 59 = .ok (.iadd, 1))
theorem d_M_thing_60 : m_D k_M_thing 60 (.iaload) 1 := (by decide +kernel : decode prog_14_method_86_code 60 = .ok (.iaload, 1))
theorem d_M_thing_61 : m_D k_M_thing 61 (.ireturn) 1 := (by decide +kernel : decode prog_14_method_86_code 61 = .ok (.ireturn, 1))
theorem d_M_thing_62 : m_D k_M_thing 62 (.iload_n 2) 1 := (by decide +kernel : decode prog_14_method_86_code 62 = .ok (.iload_n 2, 1))
theorem d_M_thing_63 : m_D k_M_thing 63 (.iconst 4) 1 := (by decide +kernel : decode prog_14_method_86_code 63 = .ok (.iconst 4, 1))
theorem d_M_thing_64 : m_D k_M_thing 64 (.if_icmp .ne 11) 3 := (by decide +kernel : decode prog_14_method_86_code 64 = .ok (.if_icmp .ne 11, 3))
theorem d_M_thing_67 : m_D k_M_thing 67 (.aload_n 0) 1 := (by decide +kernel : decode prog_14_method_86_code 67 = .ok (.aload_n 0, 1))
theorem d_M_thing_68 : m_D k_M_thing 68 (.iload_n 1) 1 := (by decide +kernel : decode prog_14_method_86_code 68 = .ok (.iload_n 1, 1))
theorem d_M_thing_69 : m_D k_M_thing 69 (.invokevirtual 322) 3 := (by decide +kernel : decode prog_14_method_86_code 69 = .ok (.invokevirtual 322, 3))
theorem d_M_thing_72 : m_D k_M_thing 72 (.goto 29) 3 := (by decide +kernel : decode prog_14_method_86_code 72 = .ok (.goto 29, 3))
theorem d_M_thing_75 : m_D k_M_thing 75 (.iload_n 2) 1 := (by decide +kernel : decode prog_14_method_86_code 75 = .ok (.iload_n 2, 1))
theorem d_M_thing_76 : m_D k_M_thing 76 (.iconst 5) 1 := (by decide +kernel : decode prog_14_method_86_code 76 = .ok (.iconst 5, 1))
theorem d_M_thing_77 : m_D k_M_thing 77 (.if_icmp .ne 11) 3 := (by decide +kernel : decode prog_14_method_86_code 77 = .ok (.if_icmp .ne 11, 3))
theorem d_M_thing_80 : m_D k_M_thing 80 (.aload_n 0) 1 := (by decide +kernel : decode prog_14_method_86_code 80 = .ok (.aload_n 0, 1))
theorem d_M_thing_81 : m_D k_M_thing 81 (.iload_n 1) 1 := (by decide +kernel : decode prog_14_method_86_code 81 = .ok (.iload_n 1, 1))
theorem d_M_thing_82 : m_D k_M_thing 82 (.invokevirtual 362) 3 := (by decide +kernel : decode prog_14_method_86_code 82 = .ok (.invokevirtual 362, 3))
theorem d_M_thing_85 : m_D k_M_thing 85 (.goto 16) 3 := (by decide +kernel : decode prog_14_method_86_code 85 = .ok (.goto 16, 3))
theorem d_M_thing_88 : m_D k_M_thing 88 (.aload_n 0) 1 := (by decide +kernel : decode prog_14_method_86_code 88 = .ok (.aload_n 0, 1))
theorem d_M_thing_89 : m_D k_M_thing 89 (.iload_n 1) 1 := (by decide +kernel : decode prog_14_method_86_code 89 = .ok (.iload_n 1, 1))
theorem d_M_thing_90 : m_D k_M_thing 90 (.invokevirtual 319) 3 := (by decide +kernel : decode prog_14_method_86_code 90 = .ok (.invokevirtual 319, 3))
theorem d_M_thing_93 : m_D k_M_thing 93 (.ifCond .eq 7) 3 := (by decide +kernel : decode prog_14_method_86_code 93 = .ok (.ifCond .eq 7, 3))
theorem d_M_thing_96 : m_D k_M_thing 96 (.iconst 1) 1 := (by decide +kernel : decode prog_14_method_86_code 96 = .ok (.iconst 1, 1))
theorem d_M_thing_97 : m_D k_M_thing 97 (.goto 4) 3 := (by decide +kernel : decode prog_14_method_86_code 97 = .ok (.goto 4, 3))
theorem d_M_thing_100 : m_D k_M_thing 100 (.iconst 0) 1 := (by decide +kernel : decode prog_14_method_86_code 100 = .ok (.iconst 0, 1))
theorem d_M_thing_101 : m_D k_M_thing 101 (.ireturn) 1 := (by decide +kernel : decode prog_14_method_86_code 101 = .ok (.ireturn, 1))
def fn_M_thing (x0 : Option mA) (x1 : Int32) (x2 : Int32) : mP Int32 :=
  m_th 11 x0 <|
  m_bd (m_pI 11 1 x0 0) fun _ =>
  m_bd (m_pI 11 0 x0 0) fun _ =>
  m_bd (fn_M_isThingAt x0 x1) fun v1 =>
  if v1 = 0 then
    m_bd (fn_M_refuse x0 2) fun v9 =>
    m_rt v9
  else
    m_bd (fn_M_isIn (x2).toInt64 0 6) fun v2 =>
    if v2 = 0 then
      m_bd (fn_M_refuse x0 5) fun v8 =>
      m_rt v8
    else
      if 4 ≤ x2 then
        if x2 = 4 then
          m_bd (fn_M_lovedOf x0 x1) fun v5 =>
          m_rt v5
        else
          if x2 = 5 then
            m_bd (fn_M_biteOf x0 x1) fun v4 =>
            m_rt v4
          else
            m_bd (fn_M_isThrough x0 x1) fun v3 =>
            if v3 = 0 then
              m_rt 0
            else
              m_rt 1
      else
        m_bd (m_gR 11 20 x0) fun v6 =>
        m_bd (m_aI 0 v6 ((25 + (8 * x2)) + x1)) fun v7 =>
        m_rt v7
set_option maxHeartbeats 4000000 in
set_option maxRecDepth 100000 in
theorem sd_M_thing (x0 : Option mA) (x1 : Int32) (x2 : Int32) : m_Sm k_M_thing 4 0 0 [.inr (.inr x0), .inl x1, .inl x2] (fn_M_thing x0 x1 x2) (fun b => some (.inl b)) := by
  refine ⟨Nat.le_of_ble_eq_true rfl, ?_⟩
  refine sm_th ?_
  refine sm_aload_n (i := 0) (j := 0) (pc' := 1) d_M_thing_0 rfl rfl rfl (sm_iconst (pc' := 2) d_M_thing_1 rfl ic_0 (sm_putI (pc' := 5) d_M_thing_2 rfl fl_M_81 (Or.inl rfl) rfl (sm_aload_n (i := 0) (j := 0) (pc' := 6) d_M_thing_5 rfl rfl rfl (sm_iconst (pc' := 7) d_M_thing_6 rfl ic_0 (sm_putI (pc' := 10) d_M_thing_7 rfl fl_M_84 (Or.inl rfl) rfl (sm_aload_n (i := 0) (j := 0) (pc' := 11) d_M_thing_10 rfl rfl rfl (sm_iload_n (i := 1) (j := 1) (pc' := 12) d_M_thing_11 rfl rfl rfl ?_)))))))
  refine sm_callVi (ci := 11) (x := x0) (av := [.inl x1]) (st := []) (mc := 0) (ms := 0) (pc' := 15) d_M_thing_12 rfl (sd_M_isThingAt x0 x1) m_lv rfl cv_M_isThingAt w_ml_M_357 rfl rfl (by decide) (Nat.le_of_ble_eq_true rfl) rfl rfl (fun v1 => ?_)
  refine sm_if_ne (tgt := 24) (pc' := 18) d_M_thing_15 rfl rfl ?_ ?_
  · refine sm_iload_n (i := 2) (j := 2) (pc' := 25) d_M_thing_24 rfl rfl rfl (sm_i2l (pc' := 26) d_M_thing_25 rfl (sm_lconst (pc' := 27) (v := 0) d_M_thing_26 rfl rfl (sm_ldc2 (v := 6) (pc' := 30) d_M_thing_27 rfl w_cl_M_360 ?_)))
    refine sm_callSi (av := [.inr (.inl (x2).toInt64), .inr (.inl 0), .inr (.inl 6)]) (st := []) (mc := 0) (ms := 0) (pc' := 33) d_M_thing_30 rfl (sd_M_isIn (x2).toInt64 0 6) cs_M_isIn w_ml_M_116 rfl rfl (by decide) (Nat.le_of_ble_eq_true rfl) rfl rfl (fun v2 => ?_)
    refine sm_if_ne (tgt := 42) (pc' := 36) d_M_thing_33 rfl rfl ?_ ?_
    · refine sm_iload_n (i := 2) (j := 2) (pc' := 43) d_M_thing_42 rfl rfl rfl (sm_iconst (pc' := 44) d_M_thing_43 rfl ic_4 ?_)
      refine sm_icmp_ge (tgt := 62) (pc' := 47) d_M_thing_44 rfl rfl ?_ ?_
      · refine sm_iload_n (i := 2) (j := 2) (pc' := 63) d_M_thing_62 rfl rfl rfl (sm_iconst (pc' := 64) d_M_thing_63 rfl ic_4 ?_)
        refine sm_icmp_ne (tgt := 75) (pc' := 67) d_M_thing_64 rfl rfl ?_ ?_
        · refine sm_iload_n (i := 2) (j := 2) (pc' := 76) d_M_thing_75 rfl rfl rfl (sm_iconst (pc' := 77) d_M_thing_76 rfl ic_5 ?_)
          refine sm_icmp_ne (tgt := 88) (pc' := 80) d_M_thing_77 rfl rfl ?_ ?_
          · refine sm_aload_n (i := 0) (j := 0) (pc' := 89) d_M_thing_88 rfl rfl rfl (sm_iload_n (i := 1) (j := 1) (pc' := 90) d_M_thing_89 rfl rfl rfl ?_)
            refine sm_callVi (ci := 11) (x := x0) (av := [.inl x1]) (st := []) (mc := 0) (ms := 0) (pc' := 93) d_M_thing_90 rfl (sd_M_isThrough x0 x1) m_lv rfl cv_M_isThrough w_ml_M_319 rfl rfl (by decide) (Nat.le_of_ble_eq_true rfl) rfl rfl (fun v3 => ?_)
            refine sm_if_eq (tgt := 100) (pc' := 96) d_M_thing_93 rfl rfl ?_ ?_
            · refine sm_iconst (pc' := 101) d_M_thing_100 rfl ic_0 ?_
              exact sm_ireturn d_M_thing_101 rfl rfl
            · refine sm_iconst (pc' := 97) d_M_thing_96 rfl ic_1 (sm_goto (tgt := 101) d_M_thing_97 rfl ?_)
              exact sm_ireturn d_M_thing_101 rfl rfl
          · refine sm_aload_n (i := 0) (j := 0) (pc' := 81) d_M_thing_80 rfl rfl rfl (sm_iload_n (i := 1) (j := 1) (pc' := 82) d_M_thing_81 rfl rfl rfl ?_)
            refine sm_callVi (ci := 11) (x := x0) (av := [.inl x1]) (st := []) (mc := 0) (ms := 0) (pc' := 85) d_M_thing_82 rfl (sd_M_biteOf x0 x1) m_lv rfl cv_M_biteOf w_ml_M_362 rfl rfl (by decide) (Nat.le_of_ble_eq_true rfl) rfl rfl (fun v4 => ?_)
            refine sm_goto (tgt := 101) d_M_thing_85 rfl ?_
            exact sm_ireturn d_M_thing_101 rfl rfl
        · refine sm_aload_n (i := 0) (j := 0) (pc' := 68) d_M_thing_67 rfl rfl rfl (sm_iload_n (i := 1) (j := 1) (pc' := 69) d_M_thing_68 rfl rfl rfl ?_)
          refine sm_callVi (ci := 11) (x := x0) (av := [.inl x1]) (st := []) (mc := 0) (ms := 0) (pc' := 72) d_M_thing_69 rfl (sd_M_lovedOf x0 x1) m_lv rfl cv_M_lovedOf w_ml_M_322 rfl rfl (by decide) (Nat.le_of_ble_eq_true rfl) rfl rfl (fun v5 => ?_)
          refine sm_goto (tgt := 101) d_M_thing_72 rfl ?_
          exact sm_ireturn d_M_thing_101 rfl rfl
      · refine sm_aload_n (i := 0) (j := 0) (pc' := 48) d_M_thing_47 rfl rfl rfl ?_
        refine sm_getR (pc' := 51) d_M_thing_48 rfl fl_M_35 rfl rfl (fun v6 => ?_)
        refine sm_bipush (pc' := 53) d_M_thing_51 rfl ib_25 (sm_bipush (pc' := 55) d_M_thing_53 rfl ib_8 (sm_iload_n (i := 2) (j := 2) (pc' := 56) d_M_thing_55 rfl rfl rfl (sm_imul (pc' := 57) d_M_thing_56 rfl (sm_iadd (pc' := 58) d_M_thing_57 rfl (sm_iload_n (i := 1) (j := 1) (pc' := 59) d_M_thing_58 rfl rfl rfl (sm_iadd (pc' := 60) d_M_thing_59 rfl ?_))))))
        refine sm_iald (pc' := 61) d_M_thing_60 rfl (fun v7 => ?_)
        exact sm_ireturn d_M_thing_61 rfl rfl
    · refine sm_aload_n (i := 0) (j := 0) (pc' := 37) d_M_thing_36 rfl rfl rfl (sm_iconst (pc' := 38) d_M_thing_37 rfl ic_5 ?_)
      refine sm_callVi (ci := 11) (x := x0) (av := [.inl 5]) (st := []) (mc := 0) (ms := 0) (pc' := 41) d_M_thing_38 rfl (sd_M_refuse x0 5) m_lv rfl cv_M_refuse w_ml_M_331 rfl rfl (by decide) (Nat.le_of_ble_eq_true rfl) rfl rfl (fun v8 => ?_)
      exact sm_ireturn d_M_thing_41 rfl rfl
  · refine sm_aload_n (i := 0) (j := 0) (pc' := 19) d_M_thing_18 rfl rfl rfl (sm_iconst (pc' := 20) d_M_thing_19 rfl ic_2 ?_)
    refine sm_callVi (ci := 11) (x := x0) (av := [.inl 2]) (st := []) (mc := 0) (ms := 0) (pc' := 23) d_M_thing_20 rfl (sd_M_refuse x0 2) m_lv rfl cv_M_refuse w_ml_M_331 rfl rfl (by decide) (Nat.le_of_ble_eq_true rfl) rfl rfl (fun v9 => ?_)
    exact sm_ireturn d_M_thing_23 rfl rfl
theorem d_M_love_0 : m_D k_M_love 0 (.aload_n 0) 1 := (by decide +kernel : decode prog_14_method_87_code 0 = .ok (.aload_n 0, 1))
theorem d_M_love_1 : m_D k_M_love 1 (.iconst 0) 1 := (by decide +kernel : decode prog_14_method_87_code 1 = .ok (.iconst 0, 1))
theorem d_M_love_2 : m_D k_M_love 2 (.putfield 81) 3 := (by decide +kernel : decode prog_14_method_87_code 2 = .ok (.putfield 81, 3))
theorem d_M_love_5 : m_D k_M_love 5 (.aload_n 0) 1 := (by decide +kernel : decode prog_14_method_87_code 5 = .ok (.aload_n 0, 1))
theorem d_M_love_6 : m_D k_M_love 6 (.iconst 0) 1 := (by decide +kernel : decode prog_14_method_87_code 6 = .ok (.iconst 0, 1))
theorem d_M_love_7 : m_D k_M_love 7 (.putfield 84) 3 := (by decide +kernel : decode prog_14_method_87_code 7 = .ok (.putfield 84, 3))
theorem d_M_love_10 : m_D k_M_love 10 (.aload_n 0) 1 := (by decide +kernel : decode prog_14_method_87_code 10 = .ok (.aload_n 0, 1))
theorem d_M_love_11 : m_D k_M_love 11 (.iload_n 1) 1 := (by decide +kernel : decode prog_14_method_87_code 11 = .ok (.iload_n 1, 1))
theorem d_M_love_12 : m_D k_M_love 12 (.invokevirtual 349) 3 := (by decide +kernel : decode prog_14_method_87_code 12 = .ok (.invokevirtual 349, 3))
theorem d_M_love_15 : m_D k_M_love 15 (.ifCond .eq 20) 3 := (by decide +kernel : decode prog_14_method_87_code 15 = .ok (.ifCond .eq 20, 3))
theorem d_M_love_18 : m_D k_M_love 18 (.aload_n 0) 1 := (by decide +kernel : decode prog_14_method_87_code 18 = .ok (.aload_n 0, 1))
theorem d_M_love_19 : m_D k_M_love 19 (.iload_n 2) 1 := (by decide +kernel : decode prog_14_method_87_code 19 = .ok (.iload_n 2, 1))
theorem d_M_love_20 : m_D k_M_love 20 (.invokevirtual 357) 3 := (by decide +kernel : decode prog_14_method_87_code 20 = .ok (.invokevirtual 357, 3))
theorem d_M_love_23 : m_D k_M_love 23 (.ifCond .eq 12) 3 := (by decide +kernel : decode prog_14_method_87_code 23 = .ok (.ifCond .eq 12, 3))
theorem d_M_love_26 : m_D k_M_love 26 (.aload_n 0) 1 := (by decide +kernel : decode prog_14_method_87_code 26 = .ok (.aload_n 0, 1))
theorem d_M_love_27 : m_D k_M_love 27 (.iload_n 1) 1 := (by decide +kernel : decode prog_14_method_87_code 27 = .ok (.iload_n 1, 1))
theorem d_M_love_28 : m_D k_M_love 28 (.iload_n 2) 1 := (by decide +kernel : decode prog_14_method_87_code 28 = .ok (.iload_n 2, 1))
theorem d_M_love_29 : m_D k_M_love 29 (.invokevirtual 316) 3 := (by decide +kernel : decode prog_14_method_87_code 29 = .ok (.invokevirtual 316, 3))
theorem d_M_love_32 : m_D k_M_love 32 (.goto 8) 3 := (by decide +kernel : decode prog_14_method_87_code 32 = .ok (.goto 8, 3))
theorem d_M_love_35 : m_D k_M_love 35 (.aload_n 0) 1 := (by decide +kernel : decode prog_14_method_87_code 35 = .ok (.aload_n 0, 1))
theorem d_M_love_36 : m_D k_M_love 36 (.iconst 2) 1 := (by decide +kernel : decode prog_14_method_87_code 36 = .ok (.iconst 2, 1))
theorem d_M_love_37 : m_D k_M_love 37 (.invokevirtual 331) 3 := (by decide +kernel : decode prog_14_method_87_code 37 = .ok (.invokevirtual 331, 3))
theorem d_M_love_40 : m_D k_M_love 40 (.ireturn) 1 := (by decide +kernel : decode prog_14_method_87_code 40 = .ok (.ireturn, 1))
def fn_M_love (x0 : Option mA) (x1 : Int32) (x2 : Int32) : mP Int32 :=
  m_th 11 x0 <|
  m_bd (m_pI 11 1 x0 0) fun _ =>
  m_bd (m_pI 11 0 x0 0) fun _ =>
  m_bd (fn_M_isPersonAt x0 x1) fun v1 =>
  if v1 = 0 then
    m_bd (fn_M_refuse x0 2) fun v2 =>
    m_rt v2
  else
    m_bd (fn_M_isThingAt x0 x2) fun v3 =>
    if v3 = 0 then
      m_bd (fn_M_refuse x0 2) fun v4 =>
      m_rt v4
    else
      m_bd (fn_M_loveOf x0 x1 x2) fun v5 =>
      m_rt v5
set_option maxHeartbeats 4000000 in
set_option maxRecDepth 100000 in
theorem sd_M_love (x0 : Option mA) (x1 : Int32) (x2 : Int32) : m_Sm k_M_love 3 0 0 [.inr (.inr x0), .inl x1, .inl x2] (fn_M_love x0 x1 x2) (fun b => some (.inl b)) := by
  refine ⟨Nat.le_of_ble_eq_true rfl, ?_⟩
  refine sm_th ?_
  refine sm_aload_n (i := 0) (j := 0) (pc' := 1) d_M_love_0 rfl rfl rfl (sm_iconst (pc' := 2) d_M_love_1 rfl ic_0 (sm_putI (pc' := 5) d_M_love_2 rfl fl_M_81 (Or.inl rfl) rfl (sm_aload_n (i := 0) (j := 0) (pc' := 6) d_M_love_5 rfl rfl rfl (sm_iconst (pc' := 7) d_M_love_6 rfl ic_0 (sm_putI (pc' := 10) d_M_love_7 rfl fl_M_84 (Or.inl rfl) rfl (sm_aload_n (i := 0) (j := 0) (pc' := 11) d_M_love_10 rfl rfl rfl (sm_iload_n (i := 1) (j := 1) (pc' := 12) d_M_love_11 rfl rfl rfl ?_)))))))
  refine sm_callVi (ci := 11) (x := x0) (av := [.inl x1]) (st := []) (mc := 0) (ms := 0) (pc' := 15) d_M_love_12 rfl (sd_M_isPersonAt x0 x1) m_lv rfl cv_M_isPersonAt w_ml_M_349 rfl rfl (by decide) (Nat.le_of_ble_eq_true rfl) rfl rfl (fun v1 => ?_)
  refine sm_if_eq (tgt := 35) (pc' := 18) d_M_love_15 rfl rfl ?_ ?_
  · refine sm_aload_n (i := 0) (j := 0) (pc' := 36) d_M_love_35 rfl rfl rfl (sm_iconst (pc' := 37) d_M_love_36 rfl ic_2 ?_)
    refine sm_callVi (ci := 11) (x := x0) (av := [.inl 2]) (st := []) (mc := 0) (ms := 0) (pc' := 40) d_M_love_37 rfl (sd_M_refuse x0 2) m_lv rfl cv_M_refuse w_ml_M_331 rfl rfl (by decide) (Nat.le_of_ble_eq_true rfl) rfl rfl (fun v2 => ?_)
    exact sm_ireturn d_M_love_40 rfl rfl
  · refine sm_aload_n (i := 0) (j := 0) (pc' := 19) d_M_love_18 rfl rfl rfl (sm_iload_n (i := 2) (j := 2) (pc' := 20) d_M_love_19 rfl rfl rfl ?_)
    refine sm_callVi (ci := 11) (x := x0) (av := [.inl x2]) (st := []) (mc := 0) (ms := 0) (pc' := 23) d_M_love_20 rfl (sd_M_isThingAt x0 x2) m_lv rfl cv_M_isThingAt w_ml_M_357 rfl rfl (by decide) (Nat.le_of_ble_eq_true rfl) rfl rfl (fun v3 => ?_)
    refine sm_if_eq (tgt := 35) (pc' := 26) d_M_love_23 rfl rfl ?_ ?_
    · refine sm_aload_n (i := 0) (j := 0) (pc' := 36) d_M_love_35 rfl rfl rfl (sm_iconst (pc' := 37) d_M_love_36 rfl ic_2 ?_)
      refine sm_callVi (ci := 11) (x := x0) (av := [.inl 2]) (st := []) (mc := 0) (ms := 0) (pc' := 40) d_M_love_37 rfl (sd_M_refuse x0 2) m_lv rfl cv_M_refuse w_ml_M_331 rfl rfl (by decide) (Nat.le_of_ble_eq_true rfl) rfl rfl (fun v4 => ?_)
      exact sm_ireturn d_M_love_40 rfl rfl
    · refine sm_aload_n (i := 0) (j := 0) (pc' := 27) d_M_love_26 rfl rfl rfl (sm_iload_n (i := 1) (j := 1) (pc' := 28) d_M_love_27 rfl rfl rfl (sm_iload_n (i := 2) (j := 2) (pc' := 29) d_M_love_28 rfl rfl rfl ?_))
      refine sm_callVi (ci := 11) (x := x0) (av := [.inl x1, .inl x2]) (st := []) (mc := 0) (ms := 0) (pc' := 32) d_M_love_29 rfl (sd_M_loveOf x0 x1 x2) m_lv rfl cv_M_loveOf w_ml_M_316 rfl rfl (by decide) (Nat.le_of_ble_eq_true rfl) rfl rfl (fun v5 => ?_)
      refine sm_goto (tgt := 40) d_M_love_32 rfl ?_
      exact sm_ireturn d_M_love_40 rfl rfl
theorem d_M_isTray_0 : m_D k_M_isTray 0 (.iload_n 1) 1 := (by decide +kernel : decode prog_14_method_18_code 0 = .ok (.iload_n 1, 1))
theorem d_M_isTray_1 : m_D k_M_isTray 1 (.i2l) 1 := (by decide +kernel : decode prog_14_method_18_code 1 = .ok (.i2l, 1))
theorem d_M_isTray_2 : m_D k_M_isTray 2 (.lconst 0) 1 := (by decide +kernel : decode prog_14_method_18_code 2 = .ok (.lconst 0, 1))
theorem d_M_isTray_3 : m_D k_M_isTray 3 (.ldc2_w 114) 3 := (by decide +kernel : decode prog_14_method_18_code 3 = .ok (.ldc2_w 114, 3))
theorem d_M_isTray_6 : m_D k_M_isTray 6 (.invokestatic 116) 3 := (by decide +kernel : decode prog_14_method_18_code 6 = .ok (.invokestatic 116, 3))
theorem d_M_isTray_9 : m_D k_M_isTray 9 (.ireturn) 1 := (by decide +kernel : decode prog_14_method_18_code 9 = .ok (.ireturn, 1))
def fn_M_isTray (x0 : Option mA) (x1 : Int32) : mP Int32 :=
  m_th 11 x0 <|
  m_bd (fn_M_isIn (x1).toInt64 0 3) fun v1 =>
  m_bd (m_cz v1) fun _ => m_rt v1
set_option maxHeartbeats 4000000 in
set_option maxRecDepth 100000 in
theorem sd_M_isTray (x0 : Option mA) (x1 : Int32) : m_Sm k_M_isTray 2 0 0 [.inr (.inr x0), .inl x1] (fn_M_isTray x0 x1) (fun b => some (.inl b)) := by
  refine ⟨Nat.le_of_ble_eq_true rfl, ?_⟩
  refine sm_th ?_
  refine sm_iload_n (i := 1) (j := 1) (pc' := 1) d_M_isTray_0 rfl rfl rfl (sm_i2l (pc' := 2) d_M_isTray_1 rfl (sm_lconst (pc' := 3) (v := 0) d_M_isTray_2 rfl rfl (sm_ldc2 (v := 3) (pc' := 6) d_M_isTray_3 rfl w_cl_M_114 ?_)))
  refine sm_callSi (av := [.inr (.inl (x1).toInt64), .inr (.inl 0), .inr (.inl 3)]) (st := []) (mc := 0) (ms := 0) (pc' := 9) d_M_isTray_6 rfl (sd_M_isIn (x1).toInt64 0 3) cs_M_isIn w_ml_M_116 rfl rfl (by decide) (Nat.le_of_ble_eq_true rfl) rfl rfl (fun v1 => ?_)
  exact sm_zretC d_M_isTray_9 rfl rfl
theorem d_M_copyRust_0 : m_D k_M_copyRust 0 (.aload_n 0) 1 := (by decide +kernel : decode prog_14_method_88_code 0 = .ok (.aload_n 0, 1))
theorem d_M_copyRust_1 : m_D k_M_copyRust 1 (.iconst 0) 1 := (by decide +kernel : decode prog_14_method_88_code 1 = .ok (.iconst 0, 1))
theorem d_M_copyRust_2 : m_D k_M_copyRust 2 (.putfield 81) 3 := (by decide +kernel : decode prog_14_method_88_code 2 = .ok (.putfield 81, 3))
theorem d_M_copyRust_5 : m_D k_M_copyRust 5 (.aload_n 0) 1 := (by decide +kernel : decode prog_14_method_88_code 5 = .ok (.aload_n 0, 1))
theorem d_M_copyRust_6 : m_D k_M_copyRust 6 (.iconst 0) 1 := (by decide +kernel : decode prog_14_method_88_code 6 = .ok (.iconst 0, 1))
theorem d_M_copyRust_7 : m_D k_M_copyRust 7 (.putfield 84) 3 := (by decide +kernel : decode prog_14_method_88_code 7 = .ok (.putfield 84, 3))
theorem d_M_copyRust_10 : m_D k_M_copyRust 10 (.aload_n 0) 1 := (by decide +kernel : decode prog_14_method_88_code 10 = .ok (.aload_n 0, 1))
theorem d_M_copyRust_11 : m_D k_M_copyRust 11 (.iload_n 1) 1 := (by decide +kernel : decode prog_14_method_88_code 11 = .ok (.iload_n 1, 1))
theorem d_M_copyRust_12 : m_D k_M_copyRust 12 (.invokevirtual 365) 3 := (by decide +kernel : decode prog_14_method_88_code 12 = .ok (.invokevirtual 365, 3))
theorem d_M_copyRust_15 : m_D k_M_copyRust 15 (.ifCond .ne 9) 3 := (by decide +kernel : decode prog_14_method_88_code 15 = .ok (.ifCond .ne 9, 3))
theorem d_M_copyRust_18 : m_D k_M_copyRust 18 (.aload_n 0) 1 := (by decide +kernel : decode prog_14_method_88_code 18 = .ok (.aload_n 0, 1))
theorem d_M_copyRust_19 : m_D k_M_copyRust 19 (.iconst 1) 1 := (by decide +kernel : decode prog_14_method_88_code 19 = .ok (.iconst 1, 1))
theorem d_M_copyRust_20 : m_D k_M_copyRust 20 (.invokevirtual 331) 3 := (by decide +kernel : decode prog_14_method_88_code 20 = .ok (.invokevirtual 331, 3))
theorem d_M_copyRust_23 : m_D k_M_copyRust 23 (.ireturn) 1 := (by decide +kernel : decode prog_14_method_88_code 23 = .ok (.ireturn, 1))
theorem d_M_copyRust_24 : m_D k_M_copyRust 24 (.aload_n 0) 1 := (by decide +kernel : decode prog_14_method_88_code 24 = .ok (.aload_n 0, 1))
theorem d_M_copyRust_25 : m_D k_M_copyRust 25 (.getfield 17) 3 := (by decide +kernel : decode prog_14_method_88_code 25 = .ok (.getfield 17, 3))
theorem d_M_copyRust_28 : m_D k_M_copyRust 28 (.iload_n 1) 1 := (by decide +kernel : decode prog_14_method_88_code 28 = .ok (.iload_n 1, 1))
theorem d_M_copyRust_29 : m_D k_M_copyRust 29 (.iaload) 1 := (by decide +kernel : decode prog_14_method_88_code 29 = .ok (.iaload, 1))
theorem d_M_copyRust_30 : m_D k_M_copyRust 30 (.ifCond .ge 9) 3 := (by decide +kernel : decode prog_14_method_88_code 30 = .ok (.ifCond .ge 9, 3))
theorem d_M_copyRust_33 : m_D k_M_copyRust 33 (.aload_n 0) 1 := (by decide +kernel : decode prog_14_method_88_code 33 = .ok (.aload_n 0, 1))
theorem d_M_copyRust_34 : m_D k_M_copyRust 34 (.iconst 3) 1 := (by decide +kernel : decode prog_14_method_88_code 34 = .ok (.iconst 3, 1))
theorem d_M_copyRust_35 : m_D k_M_copyRust 35 (.invokevirtual 331) 3 := (by decide +kernel : decode prog_14_method_88_code 35 = .ok (.invokevirtual 331, 3))
theorem d_M_copyRust_38 : m_D k_M_copyRust 38 (.ireturn) 1 := (by decide +kernel : decode prog_14_method_88_code 38 = .ok (.ireturn, 1))
theorem d_M_copyRust_39 : m_D k_M_copyRust 39 (.aload_n 0) 1 := (by decide +kernel : decode prog_14_method_88_code 39 = .ok (.aload_n 0, 1))
theorem d_M_copyRust_40 : m_D k_M_copyRust 40 (.getfield 17) 3 := (by decide +kernel : decode prog_14_method_88_code 40 = .ok (.getfield 17, 3))
theorem d_M_copyRust_43 : m_D k_M_copyRust 43 (.iload_n 1) 1 := (by decide +kernel : decode prog_14_method_88_code 43 = .ok (.iload_n 1, 1))
theorem d_M_copyRust_44 : m_D k_M_copyRust 44 (.iaload) 1 := (by decide +kernel : decode prog_14_method_88_code 44 = .ok (.iaload, 1))
theorem d_M_copyRust_45 : m_D k_M_copyRust 45 (.aload_n 0) 1 := (by decide +kernel : decode prog_14_method_88_code 45 = .ok (.aload_n 0, 1))
theorem d_M_copyRust_46 : m_D k_M_copyRust 46 (.getfield 35) 3 := (by decide +kernel : decode prog_14_method_88_code 46 = .ok (.getfield 35, 3))
theorem d_M_copyRust_49 : m_D k_M_copyRust 49 (.iconst 1) 1 := (by decide +kernel : decode prog_14_method_88_code 49 = .ok (.iconst 1, 1))
theorem d_M_copyRust_50 : m_D k_M_copyRust 50 (.iaload) 1 := (by decide +kernel : decode prog_14_method_88_code 50 = .ok (.iaload, 1))
theorem d_M_copyRust_51 : m_D k_M_copyRust 51 (.if_icmp .ge 9) 3 := (by decide +kernel : decode prog_14_method_88_code 51 = .ok (.if_icmp .ge 9, 3))
theorem d_M_copyRust_54 : m_D k_M_copyRust 54 (.aload_n 0) 1 := (by decide +kernel : decode prog_14_method_88_code 54 = .ok (.aload_n 0, 1))
theorem d_M_copyRust_55 : m_D k_M_copyRust 55 (.iconst 4) 1 := (by decide +kernel : decode prog_14_method_88_code 55 = .ok (.iconst 4, 1))
theorem d_M_copyRust_56 : m_D k_M_copyRust 56 (.invokevirtual 331) 3 := (by decide +kernel : decode prog_14_method_88_code 56 = .ok (.invokevirtual 331, 3))
theorem d_M_copyRust_59 : m_D k_M_copyRust 59 (.ireturn) 1 := (by decide +kernel : decode prog_14_method_88_code 59 = .ok (.ireturn, 1))
theorem d_M_copyRust_60 : m_D k_M_copyRust 60 (.iconst 0) 1 := (by decide +kernel : decode prog_14_method_88_code 60 = .ok (.iconst 0, 1))
theorem d_M_copyRust_61 : m_D k_M_copyRust 61 (.istore_n 2) 1 := (by decide +kernel : decode prog_14_method_88_code 61 = .ok (.istore_n 2, 1))
theorem d_M_copyRust_62 : m_D k_M_copyRust 62 (.iload_n 2) 1 := (by decide +kernel : decode prog_14_method_88_code 62 = .ok (.iload_n 2, 1))
theorem d_M_copyRust_63 : m_D k_M_copyRust 63 (.aload_n 0) 1 := (by decide +kernel : decode prog_14_method_88_code 63 = .ok (.aload_n 0, 1))
theorem d_M_copyRust_64 : m_D k_M_copyRust 64 (.getfield 35) 3 := (by decide +kernel : decode prog_14_method_88_code 64 = .ok (.getfield 35, 3))
theorem d_M_copyRust_67 : m_D k_M_copyRust 67 (.iconst 1) 1 := (by decide +kernel : decode prog_14_method_88_code 67 = .ok (.iconst 1, 1))
theorem d_M_copyRust_68 : m_D k_M_copyRust 68 (.iaload) 1 := (by decide +kernel : decode prog_14_method_88_code 68 = .ok (.iaload, 1))
theorem d_M_copyRust_69 : m_D k_M_copyRust 69 (.if_icmp .ge 26) 3 := (by decide +kernel : decode prog_14_method_88_code 69 = .ok (.if_icmp .ge 26, 3))
theorem d_M_copyRust_72 : m_D k_M_copyRust 72 (.aload_n 0) 1 := (by decide +kernel : decode prog_14_method_88_code 72 = .ok (.aload_n 0, 1))
theorem d_M_copyRust_73 : m_D k_M_copyRust 73 (.iload_n 1) 1 := (by decide +kernel : decode prog_14_method_88_code 73 = .ok (.iload_n 1, 1))
theorem d_M_copyRust_74 : m_D k_M_copyRust 74 (.iload_n 2) 1 := (by decide +kernel : decode prog_14_method_88_code 74 = .ok (.iload_n 2, 1))
theorem d_M_copyRust_75 : m_D k_M_copyRust 75 (.aload_n 0) 1 := (by decide +kernel : decode prog_14_method_88_code 75 = .ok (.aload_n 0, 1))
theorem d_M_copyRust_76 : m_D k_M_copyRust 76 (.getfield 35) 3 := (by decide +kernel : decode prog_14_method_88_code 76 = .ok (.getfield 35, 3))
theorem d_M_copyRust_79 : m_D k_M_copyRust 79 (.bipush 41) 2 := (by decide +kernel : decode prog_14_method_88_code 79 = .ok (.bipush 41, 2))
theorem d_M_copyRust_81 : m_D k_M_copyRust 81 (.iload_n 2) 1 := (by decide +kernel : decode prog_14_method_88_code 81 = .ok (.iload_n 2, 1))
theorem d_M_copyRust_82 : m_D k_M_copyRust 82 (.iadd) 1 := (by decide +kernel : decode prog_14_method_88_code 82 = .ok (.iadd, 1))
theorem d_M_copyRust_83 : m_D k_M_copyRust 83 (.iaload) 1 := (by decide +kernel : decode prog_14_method_88_code 83 = .ok (.iaload, 1))
theorem d_M_copyRust_84 : m_D k_M_copyRust 84 (.i2l) 1 := (by decide +kernel : decode prog_14_method_88_code 84 = .ok (.i2l, 1))
theorem d_M_copyRust_85 : m_D k_M_copyRust 85 (.invokevirtual 368) 3 := (by decide +kernel : decode prog_14_method_88_code 85 = .ok (.invokevirtual 368, 3))
theorem d_M_copyRust_88 : m_D k_M_copyRust 88 (.pop) 1 := (by decide +kernel : decode prog_14_method_88_code 88 = .ok (.pop, 1))
theorem d_M_copyRust_89 : m_D k_M_copyRust 89 (.iinc 2 1) 3 := (by decide +kernel : decode prog_14_method_88_code 89 = .ok (.iinc 2 1, 3))
theorem d_M_copyRust_92 : m_D k_M_copyRust 92 (.goto (-30)) 3 := (by decide +kernel : decode prog_14_method_88_code 92 = .ok (.goto (-30), 3))
theorem d_M_copyRust_95 : m_D k_M_copyRust 95 (.aload_n 0) 1 := (by decide +kernel : decode prog_14_method_88_code 95 = .ok (.aload_n 0, 1))
theorem d_M_copyRust_96 : m_D k_M_copyRust 96 (.getfield 35) 3 := (by decide +kernel : decode prog_14_method_88_code 96 = .ok (.getfield 35, 3))
theorem d_M_copyRust_99 : m_D k_M_copyRust 99 (.iconst 1) 1 := (by decide +kernel : decode prog_14_method_88_code 99 = .ok (.iconst 1, 1))
theorem d_M_copyRust_100 : m_D k_M_copyRust 100 (.iaload) 1 := (by decide +kernel : decode prog_14_method_88_code 100 = .ok (.iaload, 1))
theorem d_M_copyRust_101 : m_D k_M_copyRust 101 (.ireturn) 1 := (by decide +kernel : decode prog_14_method_88_code 101 = .ok (.ireturn, 1))
def fn_M_copyRust_l62 (x0 : Option mA) (x1 : Int32) (t8 : Int32) : mP ((Int32) ⊕ (Unit)) :=
  m_bd (m_gR 11 20 x0) fun v9 =>
  m_bd (m_aI 0 v9 1) fun v10 =>
  if v10 ≤ t8 then
    m_rt (.inr ())
  else
    m_bd (m_gR 11 20 x0) fun v11 =>
    m_bd (m_aI 0 v11 (41 + t8)) fun v12 =>
    m_bd (fn_M_write x0 x1 t8 (v12).toInt64) fun v13 =>
    m_rt (.inl (t8 + 1))
def fn_M_copyRust (x0 : Option mA) (x1 : Int32) : mP Int32 :=
  m_th 11 x0 <|
  m_bd (m_pI 11 1 x0 0) fun _ =>
  m_bd (m_pI 11 0 x0 0) fun _ =>
  m_bd (fn_M_isTray x0 x1) fun v1 =>
  if v1 = 0 then
    m_bd (fn_M_refuse x0 1) fun v19 =>
    m_rt v19
  else
    m_bd (m_gR 11 5 x0) fun v2 =>
    m_bd (m_aI 0 v2 x1) fun v3 =>
    if 0 ≤ v3 then
      m_bd (m_gR 11 5 x0) fun v4 =>
      m_bd (m_aI 0 v4 x1) fun v5 =>
      m_bd (m_gR 11 20 x0) fun v6 =>
      m_bd (m_aI 0 v6 1) fun v7 =>
      if v7 ≤ v5 then
        m_bd (m_lp (fn_M_copyRust_l62 x0 x1) m_F 0) fun (t14 : Unit) =>
        m_bd (m_gR 11 20 x0) fun v15 =>
        m_bd (m_aI 0 v15 1) fun v16 =>
        m_rt v16
      else
        m_bd (fn_M_refuse x0 4) fun v17 =>
        m_rt v17
    else
      m_bd (fn_M_refuse x0 3) fun v18 =>
      m_rt v18
set_option maxHeartbeats 4000000 in
set_option maxRecDepth 100000 in
theorem sd_M_copyRust (x0 : Option mA) (x1 : Int32) : m_Sm k_M_copyRust 4 0 0 [.inr (.inr x0), .inl x1] (fn_M_copyRust x0 x1) (fun b => some (.inl b)) := by
  refine ⟨Nat.le_of_ble_eq_true rfl, ?_⟩
  refine sm_th ?_
  refine sm_aload_n (i := 0) (j := 0) (pc' := 1) d_M_copyRust_0 rfl rfl rfl (sm_iconst (pc' := 2) d_M_copyRust_1 rfl ic_0 (sm_putI (pc' := 5) d_M_copyRust_2 rfl fl_M_81 (Or.inl rfl) rfl (sm_aload_n (i := 0) (j := 0) (pc' := 6) d_M_copyRust_5 rfl rfl rfl (sm_iconst (pc' := 7) d_M_copyRust_6 rfl ic_0 (sm_putI (pc' := 10) d_M_copyRust_7 rfl fl_M_84 (Or.inl rfl) rfl (sm_aload_n (i := 0) (j := 0) (pc' := 11) d_M_copyRust_10 rfl rfl rfl (sm_iload_n (i := 1) (j := 1) (pc' := 12) d_M_copyRust_11 rfl rfl rfl ?_)))))))
  refine sm_callVi (ci := 11) (x := x0) (av := [.inl x1]) (st := []) (mc := 0) (ms := 0) (pc' := 15) d_M_copyRust_12 rfl (sd_M_isTray x0 x1) m_lv rfl cv_M_isTray w_ml_M_365 rfl rfl (by decide) (Nat.le_of_ble_eq_true rfl) rfl rfl (fun v1 => ?_)
  refine sm_if_ne (tgt := 24) (pc' := 18) d_M_copyRust_15 rfl rfl ?_ ?_
  · refine sm_aload_n (i := 0) (j := 0) (pc' := 25) d_M_copyRust_24 rfl rfl rfl ?_
    refine sm_getR (pc' := 28) d_M_copyRust_25 rfl fl_M_17 rfl rfl (fun v2 => ?_)
    refine sm_iload_n (i := 1) (j := 1) (pc' := 29) d_M_copyRust_28 rfl rfl rfl ?_
    refine sm_iald (pc' := 30) d_M_copyRust_29 rfl (fun v3 => ?_)
    refine sm_if_ge (tgt := 39) (pc' := 33) d_M_copyRust_30 rfl rfl ?_ ?_
    · refine sm_aload_n (i := 0) (j := 0) (pc' := 40) d_M_copyRust_39 rfl rfl rfl ?_
      refine sm_getR (pc' := 43) d_M_copyRust_40 rfl fl_M_17 rfl rfl (fun v4 => ?_)
      refine sm_iload_n (i := 1) (j := 1) (pc' := 44) d_M_copyRust_43 rfl rfl rfl ?_
      refine sm_iald (pc' := 45) d_M_copyRust_44 rfl (fun v5 => ?_)
      refine sm_aload_n (i := 0) (j := 0) (pc' := 46) d_M_copyRust_45 rfl rfl rfl ?_
      refine sm_getR (pc' := 49) d_M_copyRust_46 rfl fl_M_35 rfl rfl (fun v6 => ?_)
      refine sm_iconst (pc' := 50) d_M_copyRust_49 rfl ic_1 ?_
      refine sm_iald (pc' := 51) d_M_copyRust_50 rfl (fun v7 => ?_)
      refine sm_icmp_ge (tgt := 60) (pc' := 54) d_M_copyRust_51 rfl rfl ?_ ?_
      · refine sm_iconst (pc' := 61) d_M_copyRust_60 rfl ic_0 (sm_istore_n (i := 2) (L' := [(2, .inl 0), (0, .inr (.inr x0)), (1, .inl x1)]) (pc' := 62) d_M_copyRust_61 rfl rfl (Nat.le_of_ble_eq_true rfl) rfl ?_)
        refine sm_sub [0, 1, 2] rfl ?_
        refine sm_bd (mid := fun (t14 : Unit) => .inl (95, [(0, .inr (.inr x0))], [])) (sm_lp (hd := fun (t8 : Int32) => (.inl (62, [(2, .inl t8), (0, .inr (.inr x0)), (1, .inl x1)], []) : mC)) (fun t8 => ?_) m_F 0) (fun t14 => ?_)
        · refine sm_iload_n (i := 2) (j := 0) (pc' := 63) d_M_copyRust_62 rfl rfl rfl (sm_aload_n (i := 0) (j := 1) (pc' := 64) d_M_copyRust_63 rfl rfl rfl ?_)
          refine sm_getR (pc' := 67) d_M_copyRust_64 rfl fl_M_35 rfl rfl (fun v9 => ?_)
          refine sm_iconst (pc' := 68) d_M_copyRust_67 rfl ic_1 ?_
          refine sm_iald (pc' := 69) d_M_copyRust_68 rfl (fun v10 => ?_)
          refine sm_icmp_ge (tgt := 95) (pc' := 72) d_M_copyRust_69 rfl rfl ?_ ?_
          · refine sm_sub [1] rfl ?_
            exact sm_rt rfl
          · refine sm_aload_n (i := 0) (j := 1) (pc' := 73) d_M_copyRust_72 rfl rfl rfl (sm_iload_n (i := 1) (j := 2) (pc' := 74) d_M_copyRust_73 rfl rfl rfl (sm_iload_n (i := 2) (j := 0) (pc' := 75) d_M_copyRust_74 rfl rfl rfl (sm_aload_n (i := 0) (j := 1) (pc' := 76) d_M_copyRust_75 rfl rfl rfl ?_)))
            refine sm_getR (pc' := 79) d_M_copyRust_76 rfl fl_M_35 rfl rfl (fun v11 => ?_)
            refine sm_bipush (pc' := 81) d_M_copyRust_79 rfl ib_41 (sm_iload_n (i := 2) (j := 0) (pc' := 82) d_M_copyRust_81 rfl rfl rfl (sm_iadd (pc' := 83) d_M_copyRust_82 rfl ?_))
            refine sm_iald (pc' := 84) d_M_copyRust_83 rfl (fun v12 => ?_)
            refine sm_i2l (pc' := 85) d_M_copyRust_84 rfl ?_
            refine sm_callVi (ci := 11) (x := x0) (av := [.inl x1, .inl t8, .inr (.inl (v12).toInt64)]) (st := []) (mc := 0) (ms := 0) (pc' := 88) d_M_copyRust_85 rfl (sd_M_write x0 x1 t8 (v12).toInt64) m_lv rfl cv_M_write w_ml_M_368 rfl rfl (by decide) (Nat.le_of_ble_eq_true rfl) rfl rfl (fun v13 => ?_)
            refine sm_pop (pc' := 89) d_M_copyRust_88 rfl rfl (sm_iinc (j := 0) (L' := [(2, .inl (t8 + 1)), (0, .inr (.inr x0)), (1, .inl x1)]) (pc' := 92) d_M_copyRust_89 rfl (v := (t8 + 1)) rfl (ix_1 _) (Nat.le_of_ble_eq_true rfl) rfl (sm_goto (tgt := 62) d_M_copyRust_92 rfl (sm_sub [0, 1, 2] rfl ?_)))
            exact sm_rt rfl
        · refine sm_aload_n (i := 0) (j := 0) (pc' := 96) d_M_copyRust_95 rfl rfl rfl ?_
          refine sm_getR (pc' := 99) d_M_copyRust_96 rfl fl_M_35 rfl rfl (fun v15 => ?_)
          refine sm_iconst (pc' := 100) d_M_copyRust_99 rfl ic_1 ?_
          refine sm_iald (pc' := 101) d_M_copyRust_100 rfl (fun v16 => ?_)
          exact sm_ireturn d_M_copyRust_101 rfl rfl
      · refine sm_aload_n (i := 0) (j := 0) (pc' := 55) d_M_copyRust_54 rfl rfl rfl (sm_iconst (pc' := 56) d_M_copyRust_55 rfl ic_4 ?_)
        refine sm_callVi (ci := 11) (x := x0) (av := [.inl 4]) (st := []) (mc := 0) (ms := 0) (pc' := 59) d_M_copyRust_56 rfl (sd_M_refuse x0 4) m_lv rfl cv_M_refuse w_ml_M_331 rfl rfl (by decide) (Nat.le_of_ble_eq_true rfl) rfl rfl (fun v17 => ?_)
        exact sm_ireturn d_M_copyRust_59 rfl rfl
    · refine sm_aload_n (i := 0) (j := 0) (pc' := 34) d_M_copyRust_33 rfl rfl rfl (sm_iconst (pc' := 35) d_M_copyRust_34 rfl ic_3 ?_)
      refine sm_callVi (ci := 11) (x := x0) (av := [.inl 3]) (st := []) (mc := 0) (ms := 0) (pc' := 38) d_M_copyRust_35 rfl (sd_M_refuse x0 3) m_lv rfl cv_M_refuse w_ml_M_331 rfl rfl (by decide) (Nat.le_of_ble_eq_true rfl) rfl rfl (fun v18 => ?_)
      exact sm_ireturn d_M_copyRust_38 rfl rfl
  · refine sm_aload_n (i := 0) (j := 0) (pc' := 19) d_M_copyRust_18 rfl rfl rfl (sm_iconst (pc' := 20) d_M_copyRust_19 rfl ic_1 ?_)
    refine sm_callVi (ci := 11) (x := x0) (av := [.inl 1]) (st := []) (mc := 0) (ms := 0) (pc' := 23) d_M_copyRust_20 rfl (sd_M_refuse x0 1) m_lv rfl cv_M_refuse w_ml_M_331 rfl rfl (by decide) (Nat.le_of_ble_eq_true rfl) rfl rfl (fun v19 => ?_)
    exact sm_ireturn d_M_copyRust_23 rfl rfl
theorem d_M_ages_0 : m_D k_M_ages 0 (.iconst 0) 1 := (by decide +kernel : decode prog_14_method_89_code 0 = .ok (.iconst 0, 1))
theorem d_M_ages_1 : m_D k_M_ages 1 (.istore_n 1) 1 := (by decide +kernel : decode prog_14_method_89_code 1 = .ok (.istore_n 1, 1))
theorem d_M_ages_2 : m_D k_M_ages 2 (.iload_n 1) 1 := (by decide +kernel : decode prog_14_method_89_code 2 = .ok (.iload_n 1, 1))
theorem d_M_ages_3 : m_D k_M_ages 3 (.aload_n 0) 1 := (by decide +kernel : decode prog_14_method_89_code 3 = .ok (.aload_n 0, 1))
theorem d_M_ages_4 : m_D k_M_ages 4 (.getfield 35) 3 := (by decide +kernel : decode prog_14_method_89_code 4 = .ok (.getfield 35, 3))
theorem d_M_ages_7 : m_D k_M_ages 7 (.iconst 0) 1 := (by decide +kernel : decode prog_14_method_89_code 7 = .ok (.iconst 0, 1))
theorem d_M_ages_8 : m_D k_M_ages 8 (.iaload) 1 := (by decide +kernel : decode prog_14_method_89_code 8 = .ok (.iaload, 1))
theorem d_M_ages_9 : m_D k_M_ages 9 (.if_icmp .ge 78) 3 := (by decide +kernel : decode prog_14_method_89_code 9 = .ok (.if_icmp .ge 78, 3))
theorem d_M_ages_12 : m_D k_M_ages 12 (.aload_n 0) 1 := (by decide +kernel : decode prog_14_method_89_code 12 = .ok (.aload_n 0, 1))
theorem d_M_ages_13 : m_D k_M_ages 13 (.getfield 35) 3 := (by decide +kernel : decode prog_14_method_89_code 13 = .ok (.getfield 35, 3))
theorem d_M_ages_16 : m_D k_M_ages 16 (.bipush 19) 2 := (by decide +kernel : decode prog_14_method_89_code 16 = .ok (.bipush 19, 2))
theorem d_M_ages_18 : m_D k_M_ages 18 (.iload_n 1) 1 := (by decide +kernel : decode prog_14_method_89_code 18 = .ok (.iload_n 1, 1))
theorem d_M_ages_19 : m_D k_M_ages 19 (.iadd) 1 := (by decide +kernel : decode prog_14_method_89_code 19 = .ok (.iadd, 1))
theorem d_M_ages_20 : m_D k_M_ages 20 (.iaload) 1 := (by decide +kernel : decode prog_14_method_89_code 20 = .ok (.iaload, 1))
theorem d_M_ages_21 : m_D k_M_ages 21 (.ifCond .ne 6) 3 := (by decide +kernel : decode prog_14_method_89_code 21 = .ok (.ifCond .ne 6, 3))
theorem d_M_ages_24 : m_D k_M_ages 24 (.goto 57) 3 := (by decide +kernel : decode prog_14_method_89_code 24 = .ok (.goto 57, 3))
theorem d_M_ages_27 : m_D k_M_ages 27 (.aload_n 0) 1 := (by decide +kernel : decode prog_14_method_89_code 27 = .ok (.aload_n 0, 1))
theorem d_M_ages_28 : m_D k_M_ages 28 (.getfield 35) 3 := (by decide +kernel : decode prog_14_method_89_code 28 = .ok (.getfield 35, 3))
theorem d_M_ages_31 : m_D k_M_ages 31 (.bipush 7) 2 := (by decide +kernel : decode prog_14_method_89_code 31 = .ok (.bipush 7, 2))
theorem d_M_ages_33 : m_D k_M_ages 33 (.iload_n 1) 1 := (by decide +kernel : decode prog_14_method_89_code 33 = .ok (.iload_n 1, 1))
theorem d_M_ages_34 : m_D k_M_ages 34 (.iadd) 1 := (by decide +kernel : decode prog_14_method_89_code 34 = .ok (.iadd, 1))
theorem d_M_ages_35 : m_D k_M_ages 35 (.dup2) 1 := (by decide +kernel : decode prog_14_method_89_code 35 = .ok (.dup2, 1))
theorem d_M_ages_36 : m_D k_M_ages 36 (.iaload) 1 := (by decide +kernel : decode prog_14_method_89_code 36 = .ok (.iaload, 1))
theorem d_M_ages_37 : m_D k_M_ages 37 (.iconst 1) 1 := (by decide +kernel : decode prog_14_method_89_code 37 = .ok (.iconst 1, 1))
theorem d_M_ages_38 : m_D k_M_ages 38 (.iadd) 1 := (by decide +kernel : decode prog_14_method_89_code 38 = .ok (.iadd, 1))
theorem d_M_ages_39 : m_D k_M_ages 39 (.iastore) 1 := (by decide +kernel : decode prog_14_method_89_code 39 = .ok (.iastore, 1))
theorem d_M_ages_40 : m_D k_M_ages 40 (.aload_n 0) 1 := (by decide +kernel : decode prog_14_method_89_code 40 = .ok (.aload_n 0, 1))
theorem d_M_ages_41 : m_D k_M_ages 41 (.getfield 35) 3 := (by decide +kernel : decode prog_14_method_89_code 41 = .ok (.getfield 35, 3))
theorem d_M_ages_44 : m_D k_M_ages 44 (.bipush 7) 2 := (by decide +kernel : decode prog_14_method_89_code 44 = .ok (.bipush 7, 2))
theorem d_M_ages_46 : m_D k_M_ages 46 (.iload_n 1) 1 := (by decide +kernel : decode prog_14_method_89_code 46 = .ok (.iload_n 1, 1))
theorem d_M_ages_47 : m_D k_M_ages 47 (.iadd) 1 := (by decide +kernel : decode prog_14_method_89_code 47 = .ok (.iadd, 1))
theorem d_M_ages_48 : m_D k_M_ages 48 (.iaload) 1 := (by decide +kernel : decode prog_14_method_89_code 48 = .ok (.iaload, 1))
theorem d_M_ages_49 : m_D k_M_ages 49 (.aload_n 0) 1 := (by decide +kernel : decode prog_14_method_89_code 49 = .ok (.aload_n 0, 1))
theorem d_M_ages_50 : m_D k_M_ages 50 (.getfield 35) 3 := (by decide +kernel : decode prog_14_method_89_code 50 = .ok (.getfield 35, 3))
theorem d_M_ages_53 : m_D k_M_ages 53 (.iconst 3) 1 := (by decide +kernel : decode prog_14_method_89_code 53 = .ok (.iconst 3, 1))
theorem d_M_ages_54 : m_D k_M_ages 54 (.iaload) 1 := (by decide +kernel : decode prog_14_method_89_code 54 = .ok (.iaload, 1))
theorem d_M_ages_55 : m_D k_M_ages 55 (.if_icmp .ge 6) 3 := (by decide +kernel : decode prog_14_method_89_code 55 = .ok (.if_icmp .ge 6, 3))
theorem d_M_ages_58 : m_D k_M_ages 58 (.goto 23) 3 := (by decide +kernel : decode prog_14_method_89_code 58 = .ok (.goto 23, 3))
theorem d_M_ages_61 : m_D k_M_ages 61 (.aload_n 0) 1 := (by decide +kernel : decode prog_14_method_89_code 61 = .ok (.aload_n 0, 1))
theorem d_M_ages_62 : m_D k_M_ages 62 (.getfield 35) 3 := (by decide +kernel : decode prog_14_method_89_code 62 = .ok (.getfield 35, 3))
theorem d_M_ages_65 : m_D k_M_ages 65 (.bipush 19) 2 := (by decide +kernel : decode prog_14_method_89_code 65 = .ok (.bipush 19, 2))
theorem d_M_ages_67 : m_D k_M_ages 67 (.iload_n 1) 1 := (by decide +kernel : decode prog_14_method_89_code 67 = .ok (.iload_n 1, 1))
theorem d_M_ages_68 : m_D k_M_ages 68 (.iadd) 1 := (by decide +kernel : decode prog_14_method_89_code 68 = .ok (.iadd, 1))
theorem d_M_ages_69 : m_D k_M_ages 69 (.iconst 0) 1 := (by decide +kernel : decode prog_14_method_89_code 69 = .ok (.iconst 0, 1))
theorem d_M_ages_70 : m_D k_M_ages 70 (.iastore) 1 := (by decide +kernel : decode prog_14_method_89_code 70 = .ok (.iastore, 1))
theorem d_M_ages_71 : m_D k_M_ages 71 (.aload_n 0) 1 := (by decide +kernel : decode prog_14_method_89_code 71 = .ok (.aload_n 0, 1))
theorem d_M_ages_72 : m_D k_M_ages 72 (.dup) 1 := (by decide +kernel : decode prog_14_method_89_code 72 = .ok (.dup, 1))
theorem d_M_ages_73 : m_D k_M_ages 73 (.getfield 372) 3 := (by decide +kernel : decode prog_14_method_89_code 73 = .ok (.getfield 372, 3))
theorem d_M_ages_76 : m_D k_M_ages 76 (.iconst 1) 1 := (by decide +kernel : decode prog_14_method_89_code 76 = .ok (.iconst 1, 1))
theorem d_M_ages_77 : m_D k_M_ages 77 (.iadd) 1 := (by decide +kernel : decode prog_14_method_89_code 77 = .ok (.iadd, 1))
theorem d_M_ages_78 : m_D k_M_ages 78 (.putfield 372) 3 := (by decide +kernel : decode prog_14_method_89_code 78 = .ok (.putfield 372, 3))
theorem d_M_ages_81 : m_D k_M_ages 81 (.iinc 1 1) 3 := (by decide +kernel : decode prog_14_method_89_code 81 = .ok (.iinc 1 1, 3))
theorem d_M_ages_84 : m_D k_M_ages 84 (.goto (-82)) 3 := (by decide +kernel : decode prog_14_method_89_code 84 = .ok (.goto (-82), 3))
theorem d_M_ages_87 : m_D k_M_ages 87 (.return_) 1 := (by decide +kernel : decode prog_14_method_89_code 87 = .ok (.return_, 1))
def fn_M_ages_l2 (x0 : Option mA) (t1 : Int32) : mP ((Int32) ⊕ (Unit)) :=
  m_bd (m_gR 11 20 x0) fun v2 =>
  m_bd (m_aI 0 v2 0) fun v3 =>
  if v3 ≤ t1 then
    m_rt (.inr ())
  else
    m_bd (m_gR 11 20 x0) fun v4 =>
    m_bd (m_aI 0 v4 (19 + t1)) fun v5 =>
    m_bd (α := Unit) (
      if v5 = 0 then
        m_rt ()
      else
        m_bd (m_gR 11 20 x0) fun v6 =>
        m_bd (m_aI 0 v6 (7 + t1)) fun v7 =>
        m_bd (m_tI 0 v6 (7 + t1) (v7 + 1)) fun _ =>
        m_bd (m_gR 11 20 x0) fun v8 =>
        m_bd (m_aI 0 v8 (7 + t1)) fun v9 =>
        m_bd (m_gR 11 20 x0) fun v10 =>
        m_bd (m_aI 0 v10 3) fun v11 =>
        if v11 ≤ v9 then
          m_bd (m_gR 11 20 x0) fun v12 =>
          m_bd (m_tI 0 v12 (19 + t1) 0) fun _ =>
          m_bd (m_gI 11 27 x0) fun v13 =>
          m_bd (m_pI 11 27 x0 (v13 + 1)) fun _ =>
          m_rt ()
        else
          m_rt ()
      ) fun (t14 : Unit) =>
    m_rt (.inl (t1 + 1))
def fn_M_ages (x0 : Option mA) : mP Unit :=
  m_th 11 x0 <|
  m_bd (m_lp (fn_M_ages_l2 x0) m_F 0) fun (t15 : Unit) =>
  m_rt ()
set_option maxHeartbeats 4000000 in
set_option maxRecDepth 100000 in
theorem sd_M_ages (x0 : Option mA) : m_Sm k_M_ages 1 0 0 [.inr (.inr x0)] (fn_M_ages x0) (fun _ => none) := by
  refine ⟨Nat.le_of_ble_eq_true rfl, ?_⟩
  refine sm_th ?_
  refine sm_iconst (pc' := 1) d_M_ages_0 rfl ic_0 (sm_istore_n (i := 1) (L' := [(1, .inl 0), (0, .inr (.inr x0))]) (pc' := 2) d_M_ages_1 rfl rfl (Nat.le_of_ble_eq_true rfl) rfl ?_)
  refine sm_sub [0, 1] rfl ?_
  refine sm_bd (mid := fun (t15 : Unit) => .inl (87, [], [])) (sm_lp (hd := fun (t1 : Int32) => (.inl (2, [(1, .inl t1), (0, .inr (.inr x0))], []) : mC)) (fun t1 => ?_) m_F 0) (fun t15 => ?_)
  · refine sm_iload_n (i := 1) (j := 0) (pc' := 3) d_M_ages_2 rfl rfl rfl (sm_aload_n (i := 0) (j := 1) (pc' := 4) d_M_ages_3 rfl rfl rfl ?_)
    refine sm_getR (pc' := 7) d_M_ages_4 rfl fl_M_35 rfl rfl (fun v2 => ?_)
    refine sm_iconst (pc' := 8) d_M_ages_7 rfl ic_0 ?_
    refine sm_iald (pc' := 9) d_M_ages_8 rfl (fun v3 => ?_)
    refine sm_icmp_ge (tgt := 87) (pc' := 12) d_M_ages_9 rfl rfl ?_ ?_
    · refine sm_sub [] rfl ?_
      exact sm_rt rfl
    · refine sm_aload_n (i := 0) (j := 1) (pc' := 13) d_M_ages_12 rfl rfl rfl ?_
      refine sm_getR (pc' := 16) d_M_ages_13 rfl fl_M_35 rfl rfl (fun v4 => ?_)
      refine sm_bipush (pc' := 18) d_M_ages_16 rfl ib_19 (sm_iload_n (i := 1) (j := 0) (pc' := 19) d_M_ages_18 rfl rfl rfl (sm_iadd (pc' := 20) d_M_ages_19 rfl ?_))
      refine sm_iald (pc' := 21) d_M_ages_20 rfl (fun v5 => ?_)
      refine sm_bd (mid := fun (t14 : Unit) => .inl (81, [(0, .inr (.inr x0)), (1, .inl t1)], [])) ?_ (fun t14 => ?_)
      · refine sm_if_ne (tgt := 27) (pc' := 24) d_M_ages_21 rfl rfl ?_ ?_
        · refine sm_aload_n (i := 0) (j := 1) (pc' := 28) d_M_ages_27 rfl rfl rfl ?_
          refine sm_getR (pc' := 31) d_M_ages_28 rfl fl_M_35 rfl rfl (fun v6 => ?_)
          refine sm_bipush (pc' := 33) d_M_ages_31 rfl ib_7 (sm_iload_n (i := 1) (j := 0) (pc' := 34) d_M_ages_33 rfl rfl rfl (sm_iadd (pc' := 35) d_M_ages_34 rfl (sm_dup2 (pc' := 36) d_M_ages_35 rfl rfl rfl ?_)))
          refine sm_iald (pc' := 37) d_M_ages_36 rfl (fun v7 => ?_)
          refine sm_iconst (pc' := 38) d_M_ages_37 rfl ic_1 (sm_iadd (pc' := 39) d_M_ages_38 rfl (sm_iast (pc' := 40) d_M_ages_39 rfl (sm_aload_n (i := 0) (j := 1) (pc' := 41) d_M_ages_40 rfl rfl rfl ?_)))
          refine sm_getR (pc' := 44) d_M_ages_41 rfl fl_M_35 rfl rfl (fun v8 => ?_)
          refine sm_bipush (pc' := 46) d_M_ages_44 rfl ib_7 (sm_iload_n (i := 1) (j := 0) (pc' := 47) d_M_ages_46 rfl rfl rfl (sm_iadd (pc' := 48) d_M_ages_47 rfl ?_))
          refine sm_iald (pc' := 49) d_M_ages_48 rfl (fun v9 => ?_)
          refine sm_aload_n (i := 0) (j := 1) (pc' := 50) d_M_ages_49 rfl rfl rfl ?_
          refine sm_getR (pc' := 53) d_M_ages_50 rfl fl_M_35 rfl rfl (fun v10 => ?_)
          refine sm_iconst (pc' := 54) d_M_ages_53 rfl ic_3 ?_
          refine sm_iald (pc' := 55) d_M_ages_54 rfl (fun v11 => ?_)
          refine sm_icmp_ge (tgt := 61) (pc' := 58) d_M_ages_55 rfl rfl ?_ ?_
          · refine sm_aload_n (i := 0) (j := 1) (pc' := 62) d_M_ages_61 rfl rfl rfl ?_
            refine sm_getR (pc' := 65) d_M_ages_62 rfl fl_M_35 rfl rfl (fun v12 => ?_)
            refine sm_bipush (pc' := 67) d_M_ages_65 rfl ib_19 (sm_iload_n (i := 1) (j := 0) (pc' := 68) d_M_ages_67 rfl rfl rfl (sm_iadd (pc' := 69) d_M_ages_68 rfl (sm_iconst (pc' := 70) d_M_ages_69 rfl ic_0 (sm_iast (pc' := 71) d_M_ages_70 rfl (sm_aload_n (i := 0) (j := 1) (pc' := 72) d_M_ages_71 rfl rfl rfl (sm_dup (pc' := 73) d_M_ages_72 rfl rfl ?_))))))
            refine sm_getI (pc' := 76) d_M_ages_73 rfl fl_M_372 rfl ⟨by decide, by decide⟩ (fun v13 => ?_)
            refine sm_iconst (pc' := 77) d_M_ages_76 rfl ic_1 (sm_iadd (pc' := 78) d_M_ages_77 rfl (sm_putI (pc' := 81) d_M_ages_78 rfl fl_M_372 (Or.inl rfl) rfl (sm_sub [1, 0] rfl ?_)))
            exact sm_rt rfl
          · refine sm_goto (tgt := 81) d_M_ages_58 rfl (sm_sub [1, 0] rfl ?_)
            exact sm_rt rfl
        · refine sm_goto (tgt := 81) d_M_ages_24 rfl (sm_sub [1, 0] rfl ?_)
          exact sm_rt rfl
      · refine sm_iinc (j := 1) (L' := [(1, .inl (t1 + 1)), (0, .inr (.inr x0))]) (pc' := 84) d_M_ages_81 rfl (v := (t1 + 1)) rfl (ix_1 _) (Nat.le_of_ble_eq_true rfl) rfl (sm_goto (tgt := 2) d_M_ages_84 rfl (sm_sub [0, 1] rfl ?_))
        exact sm_rt rfl
  · exact sm_return d_M_ages_87 rfl rfl
theorem d_M_isBitten_0 : m_D k_M_isBitten 0 (.aload_n 0) 1 := (by decide +kernel : decode prog_14_method_90_code 0 = .ok (.aload_n 0, 1))
theorem d_M_isBitten_1 : m_D k_M_isBitten 1 (.getfield 35) 3 := (by decide +kernel : decode prog_14_method_90_code 1 = .ok (.getfield 35, 3))
theorem d_M_isBitten_4 : m_D k_M_isBitten 4 (.bipush 33) 2 := (by decide +kernel : decode prog_14_method_90_code 4 = .ok (.bipush 33, 2))
theorem d_M_isBitten_6 : m_D k_M_isBitten 6 (.iload_n 1) 1 := (by decide +kernel : decode prog_14_method_90_code 6 = .ok (.iload_n 1, 1))
theorem d_M_isBitten_7 : m_D k_M_isBitten 7 (.iadd) 1 := (by decide +kernel : decode prog_14_method_90_code 7 = .ok (.iadd, 1))
theorem d_M_isBitten_8 : m_D k_M_isBitten 8 (.iaload) 1 := (by decide +kernel : decode prog_14_method_90_code 8 = .ok (.iaload, 1))
theorem d_M_isBitten_9 : m_D k_M_isBitten 9 (.iload_n 2) 1 := (by decide +kernel : decode prog_14_method_90_code 9 = .ok (.iload_n 2, 1))
theorem d_M_isBitten_10 : m_D k_M_isBitten 10 (.invokestatic 375) 3 := (by decide +kernel : decode prog_14_method_90_code 10 = .ok (.invokestatic 375, 3))
theorem d_M_isBitten_13 : m_D k_M_isBitten 13 (.istore_n 3) 1 := (by decide +kernel : decode prog_14_method_90_code 13 = .ok (.istore_n 3, 1))
theorem d_M_isBitten_14 : m_D k_M_isBitten 14 (.aload_n 0) 1 := (by decide +kernel : decode prog_14_method_90_code 14 = .ok (.aload_n 0, 1))
theorem d_M_isBitten_15 : m_D k_M_isBitten 15 (.getfield 35) 3 := (by decide +kernel : decode prog_14_method_90_code 15 = .ok (.getfield 35, 3))
theorem d_M_isBitten_18 : m_D k_M_isBitten 18 (.bipush 33) 2 := (by decide +kernel : decode prog_14_method_90_code 18 = .ok (.bipush 33, 2))
theorem d_M_isBitten_20 : m_D k_M_isBitten 20 (.iload_n 1) 1 := (by decide +kernel : decode prog_14_method_90_code 20 = .ok (.iload_n 1, 1))
theorem d_M_isBitten_21 : m_D k_M_isBitten 21 (.iadd) 1 := (by decide +kernel : decode prog_14_method_90_code 21 = .ok (.iadd, 1))
theorem d_M_isBitten_22 : m_D k_M_isBitten 22 (.dup2) 1 := (by decide +kernel : decode prog_14_method_90_code 22 = .ok (.dup2, 1))
theorem d_M_isBitten_23 : m_D k_M_isBitten 23 (.iaload) 1 := (by decide +kernel : decode prog_14_method_90_code 23 = .ok (.iaload, 1))
theorem d_M_isBitten_24 : m_D k_M_isBitten 24 (.iload_n 3) 1 := (by decide +kernel : decode prog_14_method_90_code 24 = .ok (.iload_n 3, 1))
theorem d_M_isBitten_25 : m_D k_M_isBitten 25 (.isub) 1 := (by decide +kernel : decode prog_14_method_90_code 25 = .ok (.isub, 1))
theorem d_M_isBitten_26 : m_D k_M_isBitten 26 (.iastore) 1 := (by decide +kernel : decode prog_14_method_90_code 26 = .ok (.iastore, 1))
theorem d_M_isBitten_27 : m_D k_M_isBitten 27 (.aload_n 0) 1 := (by decide +kernel : decode prog_14_method_90_code 27 = .ok (.aload_n 0, 1))
theorem d_M_isBitten_28 : m_D k_M_isBitten 28 (.getfield 35) 3 := (by decide +kernel : decode prog_14_method_90_code 28 = .ok (.getfield 35, 3))
theorem d_M_isBitten_31 : m_D k_M_isBitten 31 (.bipush 41) 2 := (by decide +kernel : decode prog_14_method_90_code 31 = .ok (.bipush 41, 2))
theorem d_M_isBitten_33 : m_D k_M_isBitten 33 (.iload_n 1) 1 := (by decide +kernel : decode prog_14_method_90_code 33 = .ok (.iload_n 1, 1))
theorem d_M_isBitten_34 : m_D k_M_isBitten 34 (.iadd) 1 := (by decide +kernel : decode prog_14_method_90_code 34 = .ok (.iadd, 1))
theorem d_M_isBitten_35 : m_D k_M_isBitten 35 (.sipush 999) 3 := (by decide +kernel : decode prog_14_method_90_code 35 = .ok (.sipush 999, 3))
theorem d_M_isBitten_38 : m_D k_M_isBitten 38 (.aload_n 0) 1 := (by decide +kernel : decode prog_14_method_90_code 38 = .ok (.aload_n 0, 1))
theorem d_M_isBitten_39 : m_D k_M_isBitten 39 (.getfield 35) 3 := (by decide +kernel : decode prog_14_method_90_code 39 = .ok (.getfield 35, 3))
theorem d_M_isBitten_42 : m_D k_M_isBitten 42 (.bipush 41) 2 := (by decide +kernel : decode prog_14_method_90_code 42 = .ok (.bipush 41, 2))
theorem d_M_isBitten_44 : m_D k_M_isBitten 44 (.iload_n 1) 1 := (by decide +kernel : decode prog_14_method_90_code 44 = .ok (.iload_n 1, 1))
theorem d_M_isBitten_45 : m_D k_M_isBitten 45 (.iadd) 1 := (by decide +kernel : decode prog_14_method_90_code 45 = .ok (.iadd, 1))
theorem d_M_isBitten_46 : m_D k_M_isBitten 46 (.iaload) 1 := (by decide +kernel : decode prog_14_method_90_code 46 = .ok (.iaload, 1))
theorem d_M_isBitten_47 : m_D k_M_isBitten 47 (.iload_n 2) 1 := (by decide +kernel : decode prog_14_method_90_code 47 = .ok (.iload_n 2, 1))
theorem d_M_isBitten_48 : m_D k_M_isBitten 48 (.iadd) 1 := (by decide +kernel : decode prog_14_method_90_code 48 = .ok (.iadd, 1))
theorem d_M_isBitten_49 : m_D k_M_isBitten 49 (.iload_n 3) 1 := (by decide +kernel : decode prog_14_method_90_code 49 = .ok (.iload_n 3, 1))
theorem d_M_isBitten_50 : m_D k_M_isBitten 50 (.isub) 1 := (by decide +kernel : decode prog_14_method_90_code 50 = .ok (.isub, 1))
theorem d_M_isBitten_51 : m_D k_M_isBitten 51 (.invokestatic 375) 3 := (by decide +kernel : decode prog_14_method_90_code 51 = .ok (.invokestatic 375, 3))
theorem d_M_isBitten_54 : m_D k_M_isBitten 54 (.iastore) 1 := (by decide +kernel : decode prog_14_method_90_code 54 = .ok (.iastore, 1))
theorem d_M_isBitten_55 : m_D k_M_isBitten 55 (.return_) 1 := (by decide +kernel : decode prog_14_method_90_code 55 = .ok (.return_, 1))
def fn_M_isBitten (x0 : Option mA) (x1 : Int32) (x2 : Int32) : mP Unit :=
  m_th 11 x0 <|
  m_bd (m_gR 11 20 x0) fun v1 =>
  m_bd (m_aI 0 v1 (33 + x1)) fun v2 =>
  m_bd (m_gR 11 20 x0) fun v3 =>
  m_bd (m_aI 0 v3 (33 + x1)) fun v4 =>
  m_bd (m_tI 0 v3 (33 + x1) (v4 - (iMin v2 x2))) fun _ =>
  m_bd (m_gR 11 20 x0) fun v5 =>
  m_bd (m_gR 11 20 x0) fun v6 =>
  m_bd (m_aI 0 v6 (41 + x1)) fun v7 =>
  m_bd (m_tI 0 v5 (41 + x1) (iMin 999 ((v7 + x2) - (iMin v2 x2)))) fun _ =>
  m_rt ()
set_option maxHeartbeats 4000000 in
set_option maxRecDepth 100000 in
theorem sd_M_isBitten (x0 : Option mA) (x1 : Int32) (x2 : Int32) : m_Sm k_M_isBitten 1 0 0 [.inr (.inr x0), .inl x1, .inl x2] (fn_M_isBitten x0 x1 x2) (fun _ => none) := by
  refine ⟨Nat.le_of_ble_eq_true rfl, ?_⟩
  refine sm_th ?_
  refine sm_aload_n (i := 0) (j := 0) (pc' := 1) d_M_isBitten_0 rfl rfl rfl ?_
  refine sm_getR (pc' := 4) d_M_isBitten_1 rfl fl_M_35 rfl rfl (fun v1 => ?_)
  refine sm_bipush (pc' := 6) d_M_isBitten_4 rfl ib_33 (sm_iload_n (i := 1) (j := 1) (pc' := 7) d_M_isBitten_6 rfl rfl rfl (sm_iadd (pc' := 8) d_M_isBitten_7 rfl ?_))
  refine sm_iald (pc' := 9) d_M_isBitten_8 rfl (fun v2 => ?_)
  refine sm_iload_n (i := 2) (j := 2) (pc' := 10) d_M_isBitten_9 rfl rfl rfl (sm_mmin (pc' := 13) d_M_isBitten_10 rfl w_ml_M_375 (by decide) (Nat.le_of_ble_eq_true rfl) (sm_istore_n (i := 3) (L' := [(3, .inl (iMin v2 x2)), (0, .inr (.inr x0)), (1, .inl x1), (2, .inl x2)]) (pc' := 14) d_M_isBitten_13 rfl rfl (Nat.le_of_ble_eq_true rfl) rfl (sm_aload_n (i := 0) (j := 1) (pc' := 15) d_M_isBitten_14 rfl rfl rfl ?_)))
  refine sm_getR (pc' := 18) d_M_isBitten_15 rfl fl_M_35 rfl rfl (fun v3 => ?_)
  refine sm_bipush (pc' := 20) d_M_isBitten_18 rfl ib_33 (sm_iload_n (i := 1) (j := 2) (pc' := 21) d_M_isBitten_20 rfl rfl rfl (sm_iadd (pc' := 22) d_M_isBitten_21 rfl (sm_dup2 (pc' := 23) d_M_isBitten_22 rfl rfl rfl ?_)))
  refine sm_iald (pc' := 24) d_M_isBitten_23 rfl (fun v4 => ?_)
  refine sm_iload_n (i := 3) (j := 0) (pc' := 25) d_M_isBitten_24 rfl rfl rfl (sm_isub (pc' := 26) d_M_isBitten_25 rfl (sm_iast (pc' := 27) d_M_isBitten_26 rfl (sm_aload_n (i := 0) (j := 1) (pc' := 28) d_M_isBitten_27 rfl rfl rfl ?_)))
  refine sm_getR (pc' := 31) d_M_isBitten_28 rfl fl_M_35 rfl rfl (fun v5 => ?_)
  refine sm_bipush (pc' := 33) d_M_isBitten_31 rfl ib_41 (sm_iload_n (i := 1) (j := 2) (pc' := 34) d_M_isBitten_33 rfl rfl rfl (sm_iadd (pc' := 35) d_M_isBitten_34 rfl (sm_sipush (pc' := 38) d_M_isBitten_35 rfl is_999 (sm_aload_n (i := 0) (j := 1) (pc' := 39) d_M_isBitten_38 rfl rfl rfl ?_))))
  refine sm_getR (pc' := 42) d_M_isBitten_39 rfl fl_M_35 rfl rfl (fun v6 => ?_)
  refine sm_bipush (pc' := 44) d_M_isBitten_42 rfl ib_41 (sm_iload_n (i := 1) (j := 2) (pc' := 45) d_M_isBitten_44 rfl rfl rfl (sm_iadd (pc' := 46) d_M_isBitten_45 rfl ?_))
  refine sm_iald (pc' := 47) d_M_isBitten_46 rfl (fun v7 => ?_)
  refine sm_iload_n (i := 2) (j := 3) (pc' := 48) d_M_isBitten_47 rfl rfl rfl (sm_iadd (pc' := 49) d_M_isBitten_48 rfl (sm_iload_n (i := 3) (j := 0) (pc' := 50) d_M_isBitten_49 rfl rfl rfl (sm_isub (pc' := 51) d_M_isBitten_50 rfl (sm_mmin (pc' := 54) d_M_isBitten_51 rfl w_ml_M_375 (by decide) (Nat.le_of_ble_eq_true rfl) (sm_iast (pc' := 55) d_M_isBitten_54 rfl ?_)))))
  exact sm_return d_M_isBitten_55 rfl rfl
theorem d_M_goesYear_0 : m_D k_M_goesYear 0 (.aload_n 0) 1 := (by decide +kernel : decode prog_14_method_91_code 0 = .ok (.aload_n 0, 1))
theorem d_M_goesYear_1 : m_D k_M_goesYear 1 (.invokevirtual 378) 3 := (by decide +kernel : decode prog_14_method_91_code 1 = .ok (.invokevirtual 378, 3))
theorem d_M_goesYear_4 : m_D k_M_goesYear 4 (.iconst 0) 1 := (by decide +kernel : decode prog_14_method_91_code 4 = .ok (.iconst 0, 1))
theorem d_M_goesYear_5 : m_D k_M_goesYear 5 (.istore_n 1) 1 := (by decide +kernel : decode prog_14_method_91_code 5 = .ok (.istore_n 1, 1))
theorem d_M_goesYear_6 : m_D k_M_goesYear 6 (.iload_n 1) 1 := (by decide +kernel : decode prog_14_method_91_code 6 = .ok (.iload_n 1, 1))
theorem d_M_goesYear_7 : m_D k_M_goesYear 7 (.aload_n 0) 1 := (by decide +kernel : decode prog_14_method_91_code 7 = .ok (.aload_n 0, 1))
theorem d_M_goesYear_8 : m_D k_M_goesYear 8 (.getfield 35) 3 := (by decide +kernel : decode prog_14_method_91_code 8 = .ok (.getfield 35, 3))
theorem d_M_goesYear_11 : m_D k_M_goesYear 11 (.iconst 1) 1 := (by decide +kernel : decode prog_14_method_91_code 11 = .ok (.iconst 1, 1))
theorem d_M_goesYear_12 : m_D k_M_goesYear 12 (.iaload) 1 := (by decide +kernel : decode prog_14_method_91_code 12 = .ok (.iaload, 1))
theorem d_M_goesYear_13 : m_D k_M_goesYear 13 (.if_icmp .ge 43) 3 := (by decide +kernel : decode prog_14_method_91_code 13 = .ok (.if_icmp .ge 43, 3))
theorem d_M_goesYear_16 : m_D k_M_goesYear 16 (.aload_n 0) 1 := (by decide +kernel : decode prog_14_method_91_code 16 = .ok (.aload_n 0, 1))
theorem d_M_goesYear_17 : m_D k_M_goesYear 17 (.iload_n 1) 1 := (by decide +kernel : decode prog_14_method_91_code 17 = .ok (.iload_n 1, 1))
theorem d_M_goesYear_18 : m_D k_M_goesYear 18 (.aload_n 0) 1 := (by decide +kernel : decode prog_14_method_91_code 18 = .ok (.aload_n 0, 1))
theorem d_M_goesYear_19 : m_D k_M_goesYear 19 (.iload_n 1) 1 := (by decide +kernel : decode prog_14_method_91_code 19 = .ok (.iload_n 1, 1))
theorem d_M_goesYear_20 : m_D k_M_goesYear 20 (.invokevirtual 362) 3 := (by decide +kernel : decode prog_14_method_91_code 20 = .ok (.invokevirtual 362, 3))
theorem d_M_goesYear_23 : m_D k_M_goesYear 23 (.invokevirtual 381) 3 := (by decide +kernel : decode prog_14_method_91_code 23 = .ok (.invokevirtual 381, 3))
theorem d_M_goesYear_26 : m_D k_M_goesYear 26 (.aload_n 0) 1 := (by decide +kernel : decode prog_14_method_91_code 26 = .ok (.aload_n 0, 1))
theorem d_M_goesYear_27 : m_D k_M_goesYear 27 (.getfield 35) 3 := (by decide +kernel : decode prog_14_method_91_code 27 = .ok (.getfield 35, 3))
theorem d_M_goesYear_30 : m_D k_M_goesYear 30 (.bipush 49) 2 := (by decide +kernel : decode prog_14_method_91_code 30 = .ok (.bipush 49, 2))
theorem d_M_goesYear_32 : m_D k_M_goesYear 32 (.iload_n 1) 1 := (by decide +kernel : decode prog_14_method_91_code 32 = .ok (.iload_n 1, 1))
theorem d_M_goesYear_33 : m_D k_M_goesYear 33 (.iadd) 1 := (by decide +kernel : decode prog_14_method_91_code 33 = .ok (.iadd, 1))
theorem d_M_goesYear_34 : m_D k_M_goesYear 34 (.iconst 0) 1 := (by decide +kernel : decode prog_14_method_91_code 34 = .ok (.iconst 0, 1))
theorem d_M_goesYear_35 : m_D k_M_goesYear 35 (.aload_n 0) 1 := (by decide +kernel : decode prog_14_method_91_code 35 = .ok (.aload_n 0, 1))
theorem d_M_goesYear_36 : m_D k_M_goesYear 36 (.getfield 35) 3 := (by decide +kernel : decode prog_14_method_91_code 36 = .ok (.getfield 35, 3))
theorem d_M_goesYear_39 : m_D k_M_goesYear 39 (.bipush 49) 2 := (by decide +kernel : decode prog_14_method_91_code 39 = .ok (.bipush 49, 2))
theorem d_M_goesYear_41 : m_D k_M_goesYear 41 (.iload_n 1) 1 := (by decide +kernel : decode prog_14_method_91_code 41 = .ok (.iload_n 1, 1))
theorem d_M_goesYear_42 : m_D k_M_goesYear 42 (.iadd) 1 := (by decide +kernel : decode prog_14_method_91_code 42 = .ok (.iadd, 1))
theorem d_M_goesYear_43 : m_D k_M_goesYear 43 (.iaload) 1 := (by decide +kernel : decode prog_14_method_91_code 43 = .ok (.iaload, 1))
theorem d_M_goesYear_44 : m_D k_M_goesYear 44 (.iconst 1) 1 := (by decide +kernel : decode prog_14_method_91_code 44 = .ok (.iconst 1, 1))
theorem d_M_goesYear_45 : m_D k_M_goesYear 45 (.isub) 1 := (by decide +kernel : decode prog_14_method_91_code 45 = .ok (.isub, 1))
theorem d_M_goesYear_46 : m_D k_M_goesYear 46 (.invokestatic 253) 3 := (by decide +kernel : decode prog_14_method_91_code 46 = .ok (.invokestatic 253, 3))
theorem d_M_goesYear_49 : m_D k_M_goesYear 49 (.iastore) 1 := (by decide +kernel : decode prog_14_method_91_code 49 = .ok (.iastore, 1))
theorem d_M_goesYear_50 : m_D k_M_goesYear 50 (.iinc 1 1) 3 := (by decide +kernel : decode prog_14_method_91_code 50 = .ok (.iinc 1 1, 3))
theorem d_M_goesYear_53 : m_D k_M_goesYear 53 (.goto (-47)) 3 := (by decide +kernel : decode prog_14_method_91_code 53 = .ok (.goto (-47), 3))
theorem d_M_goesYear_56 : m_D k_M_goesYear 56 (.aload_n 0) 1 := (by decide +kernel : decode prog_14_method_91_code 56 = .ok (.aload_n 0, 1))
theorem d_M_goesYear_57 : m_D k_M_goesYear 57 (.getfield 35) 3 := (by decide +kernel : decode prog_14_method_91_code 57 = .ok (.getfield 35, 3))
theorem d_M_goesYear_60 : m_D k_M_goesYear 60 (.bipush 6) 2 := (by decide +kernel : decode prog_14_method_91_code 60 = .ok (.bipush 6, 2))
theorem d_M_goesYear_62 : m_D k_M_goesYear 62 (.dup2) 1 := (by decide +kernel : decode prog_14_method_91_code 62 = .ok (.dup2, 1))
theorem d_M_goesYear_63 : m_D k_M_goesYear 63 (.iaload) 1 := (by decide +kernel : decode prog_14_method_91_code 63 = .ok (.iaload, 1))
theorem d_M_goesYear_64 : m_D k_M_goesYear 64 (.iconst 1) 1 := (by decide +kernel : decode prog_14_method_91_code 64 = .ok (.iconst 1, 1))
theorem d_M_goesYear_65 : m_D k_M_goesYear 65 (.iadd) 1 := (by decide +kernel : decode prog_14_method_91_code 65 = .ok (.iadd, 1))
theorem d_M_goesYear_66 : m_D k_M_goesYear 66 (.iastore) 1 := (by decide +kernel : decode prog_14_method_91_code 66 = .ok (.iastore, 1))
theorem d_M_goesYear_67 : m_D k_M_goesYear 67 (.return_) 1 := (by decide +kernel : decode prog_14_method_91_code 67 = .ok (.return_, 1))
def fn_M_goesYear_l6 (x0 : Option mA) (t1 : Int32) : mP ((Int32) ⊕ (Unit)) :=
  m_bd (m_gR 11 20 x0) fun v2 =>
  m_bd (m_aI 0 v2 1) fun v3 =>
  if v3 ≤ t1 then
    m_rt (.inr ())
  else
    m_bd (fn_M_biteOf x0 t1) fun v4 =>
    m_bd (fn_M_isBitten x0 t1 v4) fun _ =>
    m_bd (m_gR 11 20 x0) fun v5 =>
    m_bd (m_gR 11 20 x0) fun v6 =>
    m_bd (m_aI 0 v6 (49 + t1)) fun v7 =>
    m_bd (m_tI 0 v5 (49 + t1) (iMax 0 (v7 - 1))) fun _ =>
    m_rt (.inl (t1 + 1))
def fn_M_goesYear (x0 : Option mA) : mP Unit :=
  m_th 11 x0 <|
  m_bd (fn_M_ages x0) fun _ =>
  m_bd (m_lp (fn_M_goesYear_l6 x0) m_F 0) fun (t8 : Unit) =>
  m_bd (m_gR 11 20 x0) fun v9 =>
  m_bd (m_aI 0 v9 6) fun v10 =>
  m_bd (m_tI 0 v9 6 (v10 + 1)) fun _ =>
  m_rt ()
set_option maxHeartbeats 4000000 in
set_option maxRecDepth 100000 in
theorem sd_M_goesYear (x0 : Option mA) : m_Sm k_M_goesYear 4 0 0 [.inr (.inr x0)] (fn_M_goesYear x0) (fun _ => none) := by
  refine ⟨Nat.le_of_ble_eq_true rfl, ?_⟩
  refine sm_th ?_
  refine sm_aload_n (i := 0) (j := 0) (pc' := 1) d_M_goesYear_0 rfl rfl rfl ?_
  refine sm_callVv (ci := 11) (x := x0) (av := []) (st := []) (mc := 0) (ms := 0) (pc' := 4) d_M_goesYear_1 rfl (sd_M_ages x0) m_lv rfl cv_M_ages w_ml_M_378 rfl rfl (by decide) (Nat.le_of_ble_eq_true rfl) rfl rfl ?_
  refine sm_iconst (pc' := 5) d_M_goesYear_4 rfl ic_0 (sm_istore_n (i := 1) (L' := [(1, .inl 0), (0, .inr (.inr x0))]) (pc' := 6) d_M_goesYear_5 rfl rfl (Nat.le_of_ble_eq_true rfl) rfl ?_)
  refine sm_sub [0, 1] rfl ?_
  refine sm_bd (mid := fun (t8 : Unit) => .inl (56, [(0, .inr (.inr x0))], [])) (sm_lp (hd := fun (t1 : Int32) => (.inl (6, [(1, .inl t1), (0, .inr (.inr x0))], []) : mC)) (fun t1 => ?_) m_F 0) (fun t8 => ?_)
  · refine sm_iload_n (i := 1) (j := 0) (pc' := 7) d_M_goesYear_6 rfl rfl rfl (sm_aload_n (i := 0) (j := 1) (pc' := 8) d_M_goesYear_7 rfl rfl rfl ?_)
    refine sm_getR (pc' := 11) d_M_goesYear_8 rfl fl_M_35 rfl rfl (fun v2 => ?_)
    refine sm_iconst (pc' := 12) d_M_goesYear_11 rfl ic_1 ?_
    refine sm_iald (pc' := 13) d_M_goesYear_12 rfl (fun v3 => ?_)
    refine sm_icmp_ge (tgt := 56) (pc' := 16) d_M_goesYear_13 rfl rfl ?_ ?_
    · refine sm_sub [1] rfl ?_
      exact sm_rt rfl
    · refine sm_aload_n (i := 0) (j := 1) (pc' := 17) d_M_goesYear_16 rfl rfl rfl (sm_iload_n (i := 1) (j := 0) (pc' := 18) d_M_goesYear_17 rfl rfl rfl (sm_aload_n (i := 0) (j := 1) (pc' := 19) d_M_goesYear_18 rfl rfl rfl (sm_iload_n (i := 1) (j := 0) (pc' := 20) d_M_goesYear_19 rfl rfl rfl ?_)))
      refine sm_callVi (ci := 11) (x := x0) (av := [.inl t1]) (st := [.inl t1, .inr (.inr x0)]) (mc := 0) (ms := 0) (pc' := 23) d_M_goesYear_20 rfl (sd_M_biteOf x0 t1) m_lv rfl cv_M_biteOf w_ml_M_362 rfl rfl (by decide) (Nat.le_of_ble_eq_true rfl) rfl rfl (fun v4 => ?_)
      refine sm_callVv (ci := 11) (x := x0) (av := [.inl t1, .inl v4]) (st := []) (mc := 0) (ms := 0) (pc' := 26) d_M_goesYear_23 rfl (sd_M_isBitten x0 t1 v4) m_lv rfl cv_M_isBitten w_ml_M_381 rfl rfl (by decide) (Nat.le_of_ble_eq_true rfl) rfl rfl ?_
      refine sm_aload_n (i := 0) (j := 1) (pc' := 27) d_M_goesYear_26 rfl rfl rfl ?_
      refine sm_getR (pc' := 30) d_M_goesYear_27 rfl fl_M_35 rfl rfl (fun v5 => ?_)
      refine sm_bipush (pc' := 32) d_M_goesYear_30 rfl ib_49 (sm_iload_n (i := 1) (j := 0) (pc' := 33) d_M_goesYear_32 rfl rfl rfl (sm_iadd (pc' := 34) d_M_goesYear_33 rfl (sm_iconst (pc' := 35) d_M_goesYear_34 rfl ic_0 (sm_aload_n (i := 0) (j := 1) (pc' := 36) d_M_goesYear_35 rfl rfl rfl ?_))))
      refine sm_getR (pc' := 39) d_M_goesYear_36 rfl fl_M_35 rfl rfl (fun v6 => ?_)
      refine sm_bipush (pc' := 41) d_M_goesYear_39 rfl ib_49 (sm_iload_n (i := 1) (j := 0) (pc' := 42) d_M_goesYear_41 rfl rfl rfl (sm_iadd (pc' := 43) d_M_goesYear_42 rfl ?_))
      refine sm_iald (pc' := 44) d_M_goesYear_43 rfl (fun v7 => ?_)
      refine sm_iconst (pc' := 45) d_M_goesYear_44 rfl ic_1 (sm_isub (pc' := 46) d_M_goesYear_45 rfl (sm_mmax (pc' := 49) d_M_goesYear_46 rfl w_ml_M_253 (by decide) (Nat.le_of_ble_eq_true rfl) (sm_iast (pc' := 50) d_M_goesYear_49 rfl (sm_iinc (j := 0) (L' := [(1, .inl (t1 + 1)), (0, .inr (.inr x0))]) (pc' := 53) d_M_goesYear_50 rfl (v := (t1 + 1)) rfl (ix_1 _) (Nat.le_of_ble_eq_true rfl) rfl (sm_goto (tgt := 6) d_M_goesYear_53 rfl (sm_sub [0, 1] rfl ?_))))))
      exact sm_rt rfl
  · refine sm_aload_n (i := 0) (j := 0) (pc' := 57) d_M_goesYear_56 rfl rfl rfl ?_
    refine sm_getR (pc' := 60) d_M_goesYear_57 rfl fl_M_35 rfl rfl (fun v9 => ?_)
    refine sm_bipush (pc' := 62) d_M_goesYear_60 rfl ib_6 (sm_dup2 (pc' := 63) d_M_goesYear_62 rfl rfl rfl ?_)
    refine sm_iald (pc' := 64) d_M_goesYear_63 rfl (fun v10 => ?_)
    refine sm_iconst (pc' := 65) d_M_goesYear_64 rfl ic_1 (sm_iadd (pc' := 66) d_M_goesYear_65 rfl (sm_iast (pc' := 67) d_M_goesYear_66 rfl ?_))
    exact sm_return d_M_goesYear_67 rfl rfl
theorem d_M_year_0 : m_D k_M_year 0 (.aload_n 0) 1 := (by decide +kernel : decode prog_14_method_92_code 0 = .ok (.aload_n 0, 1))
theorem d_M_year_1 : m_D k_M_year 1 (.iconst 0) 1 := (by decide +kernel : decode prog_14_method_92_code 1 = .ok (.iconst 0, 1))
theorem d_M_year_2 : m_D k_M_year 2 (.putfield 81) 3 := (by decide +kernel : decode prog_14_method_92_code 2 = .ok (.putfield 81, 3))
theorem d_M_year_5 : m_D k_M_year 5 (.aload_n 0) 1 := (by decide +kernel : decode prog_14_method_92_code 5 = .ok (.aload_n 0, 1))
theorem d_M_year_6 : m_D k_M_year 6 (.iconst 0) 1 := (by decide +kernel : decode prog_14_method_92_code 6 = .ok (.iconst 0, 1))
theorem d_M_year_7 : m_D k_M_year 7 (.putfield 84) 3 := (by decide +kernel : decode prog_14_method_92_code 7 = .ok (.putfield 84, 3))
theorem d_M_year_10 : m_D k_M_year 10 (.iload_n 1) 1 := (by decide +kernel : decode prog_14_method_92_code 10 = .ok (.iload_n 1, 1))
theorem d_M_year_11 : m_D k_M_year 11 (.i2l) 1 := (by decide +kernel : decode prog_14_method_92_code 11 = .ok (.i2l, 1))
theorem d_M_year_12 : m_D k_M_year 12 (.lconst 1) 1 := (by decide +kernel : decode prog_14_method_92_code 12 = .ok (.lconst 1, 1))
theorem d_M_year_13 : m_D k_M_year 13 (.ldc2_w 384) 3 := (by decide +kernel : decode prog_14_method_92_code 13 = .ok (.ldc2_w 384, 3))
theorem d_M_year_16 : m_D k_M_year 16 (.invokestatic 116) 3 := (by decide +kernel : decode prog_14_method_92_code 16 = .ok (.invokestatic 116, 3))
theorem d_M_year_19 : m_D k_M_year 19 (.ifCond .ne 9) 3 := (by decide +kernel : decode prog_14_method_92_code 19 = .ok (.ifCond .ne 9, 3))
theorem d_M_year_22 : m_D k_M_year 22 (.aload_n 0) 1 := (by decide +kernel : decode prog_14_method_92_code 22 = .ok (.aload_n 0, 1))
theorem d_M_year_23 : m_D k_M_year 23 (.iconst 5) 1 := (by decide +kernel : decode prog_14_method_92_code 23 = .ok (.iconst 5, 1))
theorem d_M_year_24 : m_D k_M_year 24 (.invokevirtual 331) 3 := (by decide +kernel : decode prog_14_method_92_code 24 = .ok (.invokevirtual 331, 3))
theorem d_M_year_27 : m_D k_M_year 27 (.ireturn) 1 := (by decide +kernel : decode prog_14_method_92_code 27 = .ok (.ireturn, 1))
theorem d_M_year_28 : m_D k_M_year 28 (.aload_n 0) 1 := (by decide +kernel : decode prog_14_method_92_code 28 = .ok (.aload_n 0, 1))
theorem d_M_year_29 : m_D k_M_year 29 (.getfield 35) 3 := (by decide +kernel : decode prog_14_method_92_code 29 = .ok (.getfield 35, 3))
theorem d_M_year_32 : m_D k_M_year 32 (.bipush 6) 2 := (by decide +kernel : decode prog_14_method_92_code 32 = .ok (.bipush 6, 2))
theorem d_M_year_34 : m_D k_M_year 34 (.iaload) 1 := (by decide +kernel : decode prog_14_method_92_code 34 = .ok (.iaload, 1))
theorem d_M_year_35 : m_D k_M_year 35 (.iload_n 1) 1 := (by decide +kernel : decode prog_14_method_92_code 35 = .ok (.iload_n 1, 1))
theorem d_M_year_36 : m_D k_M_year 36 (.iadd) 1 := (by decide +kernel : decode prog_14_method_92_code 36 = .ok (.iadd, 1))
theorem d_M_year_37 : m_D k_M_year 37 (.sipush 9999) 3 := (by decide +kernel : decode prog_14_method_92_code 37 = .ok (.sipush 9999, 3))
theorem d_M_year_40 : m_D k_M_year 40 (.if_icmp .le 10) 3 := (by decide +kernel : decode prog_14_method_92_code 40 = .ok (.if_icmp .le 10, 3))
theorem d_M_year_43 : m_D k_M_year 43 (.aload_n 0) 1 := (by decide +kernel : decode prog_14_method_92_code 43 = .ok (.aload_n 0, 1))
theorem d_M_year_44 : m_D k_M_year 44 (.bipush 7) 2 := (by decide +kernel : decode prog_14_method_92_code 44 = .ok (.bipush 7, 2))
theorem d_M_year_46 : m_D k_M_year 46 (.invokevirtual 331) 3 := (by decide +kernel : decode prog_14_method_92_code 46 = .ok (.invokevirtual 331, 3))
theorem d_M_year_49 : m_D k_M_year 49 (.ireturn) 1 := (by decide +kernel : decode prog_14_method_92_code 49 = .ok (.ireturn, 1))
theorem d_M_year_50 : m_D k_M_year 50 (.aload_n 0) 1 := (by decide +kernel : decode prog_14_method_92_code 50 = .ok (.aload_n 0, 1))
theorem d_M_year_51 : m_D k_M_year 51 (.invokevirtual 340) 3 := (by decide +kernel : decode prog_14_method_92_code 51 = .ok (.invokevirtual 340, 3))
theorem d_M_year_54 : m_D k_M_year 54 (.istore_n 2) 1 := (by decide +kernel : decode prog_14_method_92_code 54 = .ok (.istore_n 2, 1))
theorem d_M_year_55 : m_D k_M_year 55 (.iconst 0) 1 := (by decide +kernel : decode prog_14_method_92_code 55 = .ok (.iconst 0, 1))
theorem d_M_year_56 : m_D k_M_year 56 (.istore_n 3) 1 := (by decide +kernel : decode prog_14_method_92_code 56 = .ok (.istore_n 3, 1))
theorem d_M_year_57 : m_D k_M_year 57 (.iload_n 3) 1 := (by decide +kernel : decode prog_14_method_92_code 57 = .ok (.iload_n 3, 1))
theorem d_M_year_58 : m_D k_M_year 58 (.iload_n 1) 1 := (by decide +kernel : decode prog_14_method_92_code 58 = .ok (.iload_n 1, 1))
theorem d_M_year_59 : m_D k_M_year 59 (.if_icmp .ge 13) 3 := (by decide +kernel : decode prog_14_method_92_code 59 = .ok (.if_icmp .ge 13, 3))
theorem d_M_year_62 : m_D k_M_year 62 (.aload_n 0) 1 := (by decide +kernel : decode prog_14_method_92_code 62 = .ok (.aload_n 0, 1))
theorem d_M_year_63 : m_D k_M_year 63 (.invokevirtual 386) 3 := (by decide +kernel : decode prog_14_method_92_code 63 = .ok (.invokevirtual 386, 3))
theorem d_M_year_66 : m_D k_M_year 66 (.iinc 3 1) 3 := (by decide +kernel : decode prog_14_method_92_code 66 = .ok (.iinc 3 1, 3))
theorem d_M_year_69 : m_D k_M_year 69 (.goto (-12)) 3 := (by decide +kernel : decode prog_14_method_92_code 69 = .ok (.goto (-12), 3))
theorem d_M_year_72 : m_D k_M_year 72 (.aload_n 0) 1 := (by decide +kernel : decode prog_14_method_92_code 72 = .ok (.aload_n 0, 1))
theorem d_M_year_73 : m_D k_M_year 73 (.invokevirtual 340) 3 := (by decide +kernel : decode prog_14_method_92_code 73 = .ok (.invokevirtual 340, 3))
theorem d_M_year_76 : m_D k_M_year 76 (.iload_n 2) 1 := (by decide +kernel : decode prog_14_method_92_code 76 = .ok (.iload_n 2, 1))
theorem d_M_year_77 : m_D k_M_year 77 (.iconst (-1)) 1 := (by decide +kernel : decode prog_14_method_92_code 77 = .ok (.iconst (-1), 1))
theorem d_M_year_78 : m_D k_M_year 78 (.ixor) 1 := (by decide +kernel : decode prog_14_method_92_code 78 = .ok (.ixor, 1))
theorem d_M_year_79 : m_D k_M_year 79 (.iand) 1 := (by decide +kernel : decode prog_14_method_92_code 79 = .ok (.iand, 1))
theorem d_M_year_80 : m_D k_M_year 80 (.ireturn) 1 := (by decide +kernel : decode prog_14_method_92_code 80 = .ok (.ireturn, 1))
def fn_M_year_l57 (x0 : Option mA) (x1 : Int32) (t5 : Int32) : mP ((Int32) ⊕ (Unit)) :=
  if x1 ≤ t5 then
    m_rt (.inr ())
  else
    m_bd (fn_M_goesYear x0) fun _ =>
    m_rt (.inl (t5 + 1))
def fn_M_year (x0 : Option mA) (x1 : Int32) : mP Int32 :=
  m_th 11 x0 <|
  m_bd (m_pI 11 1 x0 0) fun _ =>
  m_bd (m_pI 11 0 x0 0) fun _ =>
  m_bd (fn_M_isIn (x1).toInt64 1 99) fun v1 =>
  if v1 = 0 then
    m_bd (fn_M_refuse x0 5) fun v9 =>
    m_rt v9
  else
    m_bd (m_gR 11 20 x0) fun v2 =>
    m_bd (m_aI 0 v2 6) fun v3 =>
    if (v3 + x1) ≤ 9999 then
      m_bd (fn_M_throughs x0) fun v4 =>
      m_bd (m_lp (fn_M_year_l57 x0 x1) m_F 0) fun (t6 : Unit) =>
      m_bd (fn_M_throughs x0) fun v7 =>
      m_rt (v7 &&& (v4 ^^^ (-1)))
    else
      m_bd (fn_M_refuse x0 7) fun v8 =>
      m_rt v8
set_option maxHeartbeats 4000000 in
set_option maxRecDepth 100000 in
theorem sd_M_year (x0 : Option mA) (x1 : Int32) : m_Sm k_M_year 5 0 0 [.inr (.inr x0), .inl x1] (fn_M_year x0 x1) (fun b => some (.inl b)) := by
  refine ⟨Nat.le_of_ble_eq_true rfl, ?_⟩
  refine sm_th ?_
  refine sm_aload_n (i := 0) (j := 0) (pc' := 1) d_M_year_0 rfl rfl rfl (sm_iconst (pc' := 2) d_M_year_1 rfl ic_0 (sm_putI (pc' := 5) d_M_year_2 rfl fl_M_81 (Or.inl rfl) rfl (sm_aload_n (i := 0) (j := 0) (pc' := 6) d_M_year_5 rfl rfl rfl (sm_iconst (pc' := 7) d_M_year_6 rfl ic_0 (sm_putI (pc' := 10) d_M_year_7 rfl fl_M_84 (Or.inl rfl) rfl (sm_iload_n (i := 1) (j := 1) (pc' := 11) d_M_year_10 rfl rfl rfl (sm_i2l (pc' := 12) d_M_year_11 rfl (sm_lconst (pc' := 13) (v := 1) d_M_year_12 rfl rfl (sm_ldc2 (v := 99) (pc' := 16) d_M_year_13 rfl w_cl_M_384 ?_)))))))))
  refine sm_callSi (av := [.inr (.inl (x1).toInt64), .inr (.inl 1), .inr (.inl 99)]) (st := []) (mc := 0) (ms := 0) (pc' := 19) d_M_year_16 rfl (sd_M_isIn (x1).toInt64 1 99) cs_M_isIn w_ml_M_116 rfl rfl (by decide) (Nat.le_of_ble_eq_true rfl) rfl rfl (fun v1 => ?_)
  refine sm_if_ne (tgt := 28) (pc' := 22) d_M_year_19 rfl rfl ?_ ?_
  · refine sm_aload_n (i := 0) (j := 0) (pc' := 29) d_M_year_28 rfl rfl rfl ?_
    refine sm_getR (pc' := 32) d_M_year_29 rfl fl_M_35 rfl rfl (fun v2 => ?_)
    refine sm_bipush (pc' := 34) d_M_year_32 rfl ib_6 ?_
    refine sm_iald (pc' := 35) d_M_year_34 rfl (fun v3 => ?_)
    refine sm_iload_n (i := 1) (j := 1) (pc' := 36) d_M_year_35 rfl rfl rfl (sm_iadd (pc' := 37) d_M_year_36 rfl (sm_sipush (pc' := 40) d_M_year_37 rfl is_9999 ?_))
    refine sm_icmp_le (tgt := 50) (pc' := 43) d_M_year_40 rfl rfl ?_ ?_
    · refine sm_aload_n (i := 0) (j := 0) (pc' := 51) d_M_year_50 rfl rfl rfl ?_
      refine sm_callVi (ci := 11) (x := x0) (av := []) (st := []) (mc := 0) (ms := 0) (pc' := 54) d_M_year_51 rfl (sd_M_throughs x0) m_lv rfl cv_M_throughs w_ml_M_340 rfl rfl (by decide) (Nat.le_of_ble_eq_true rfl) rfl rfl (fun v4 => ?_)
      refine sm_istore_n (i := 2) (L' := [(2, .inl v4), (0, .inr (.inr x0)), (1, .inl x1)]) (pc' := 55) d_M_year_54 rfl rfl (Nat.le_of_ble_eq_true rfl) rfl (sm_iconst (pc' := 56) d_M_year_55 rfl ic_0 (sm_istore_n (i := 3) (L' := [(3, .inl 0), (2, .inl v4), (0, .inr (.inr x0)), (1, .inl x1)]) (pc' := 57) d_M_year_56 rfl rfl (Nat.le_of_ble_eq_true rfl) rfl ?_))
      refine sm_sub [0, 2, 3, 1] rfl ?_
      refine sm_bd (mid := fun (t6 : Unit) => .inl (72, [(0, .inr (.inr x0)), (2, .inl v4)], [])) (sm_lp (hd := fun (t5 : Int32) => (.inl (57, [(3, .inl t5), (0, .inr (.inr x0)), (1, .inl x1), (2, .inl v4)], []) : mC)) (fun t5 => ?_) m_F 0) (fun t6 => ?_)
      · refine sm_iload_n (i := 3) (j := 0) (pc' := 58) d_M_year_57 rfl rfl rfl (sm_iload_n (i := 1) (j := 2) (pc' := 59) d_M_year_58 rfl rfl rfl ?_)
        refine sm_icmp_ge (tgt := 72) (pc' := 62) d_M_year_59 rfl rfl ?_ ?_
        · refine sm_sub [1, 3] rfl ?_
          exact sm_rt rfl
        · refine sm_aload_n (i := 0) (j := 1) (pc' := 63) d_M_year_62 rfl rfl rfl ?_
          refine sm_callVv (ci := 11) (x := x0) (av := []) (st := []) (mc := 0) (ms := 0) (pc' := 66) d_M_year_63 rfl (sd_M_goesYear x0) m_lv rfl cv_M_goesYear w_ml_M_386 rfl rfl (by decide) (Nat.le_of_ble_eq_true rfl) rfl rfl ?_
          refine sm_iinc (j := 0) (L' := [(3, .inl (t5 + 1)), (0, .inr (.inr x0)), (1, .inl x1), (2, .inl v4)]) (pc' := 69) d_M_year_66 rfl (v := (t5 + 1)) rfl (ix_1 _) (Nat.le_of_ble_eq_true rfl) rfl (sm_goto (tgt := 57) d_M_year_69 rfl (sm_sub [0, 1, 2, 3] rfl ?_))
          exact sm_rt rfl
      · refine sm_aload_n (i := 0) (j := 0) (pc' := 73) d_M_year_72 rfl rfl rfl ?_
        refine sm_callVi (ci := 11) (x := x0) (av := []) (st := []) (mc := 0) (ms := 0) (pc' := 76) d_M_year_73 rfl (sd_M_throughs x0) m_lv rfl cv_M_throughs w_ml_M_340 rfl rfl (by decide) (Nat.le_of_ble_eq_true rfl) rfl rfl (fun v7 => ?_)
        refine sm_iload_n (i := 2) (j := 1) (pc' := 77) d_M_year_76 rfl rfl rfl (sm_iconst (pc' := 78) d_M_year_77 rfl ic_m1 (sm_ixor (pc' := 79) d_M_year_78 rfl (sm_iand (pc' := 80) d_M_year_79 rfl ?_)))
        exact sm_ireturn d_M_year_80 rfl rfl
    · refine sm_aload_n (i := 0) (j := 0) (pc' := 44) d_M_year_43 rfl rfl rfl (sm_bipush (pc' := 46) d_M_year_44 rfl ib_7 ?_)
      refine sm_callVi (ci := 11) (x := x0) (av := [.inl 7]) (st := []) (mc := 0) (ms := 0) (pc' := 49) d_M_year_46 rfl (sd_M_refuse x0 7) m_lv rfl cv_M_refuse w_ml_M_331 rfl rfl (by decide) (Nat.le_of_ble_eq_true rfl) rfl rfl (fun v8 => ?_)
      exact sm_ireturn d_M_year_49 rfl rfl
  · refine sm_aload_n (i := 0) (j := 0) (pc' := 23) d_M_year_22 rfl rfl rfl (sm_iconst (pc' := 24) d_M_year_23 rfl ic_5 ?_)
    refine sm_callVi (ci := 11) (x := x0) (av := [.inl 5]) (st := []) (mc := 0) (ms := 0) (pc' := 27) d_M_year_24 rfl (sd_M_refuse x0 5) m_lv rfl cv_M_refuse w_ml_M_331 rfl rfl (by decide) (Nat.le_of_ble_eq_true rfl) rfl rfl (fun v9 => ?_)
    exact sm_ireturn d_M_year_27 rfl rfl
theorem d_M_dote_0 : m_D k_M_dote 0 (.aload_n 0) 1 := (by decide +kernel : decode prog_14_method_93_code 0 = .ok (.aload_n 0, 1))
theorem d_M_dote_1 : m_D k_M_dote 1 (.iconst 0) 1 := (by decide +kernel : decode prog_14_method_93_code 1 = .ok (.iconst 0, 1))
theorem d_M_dote_2 : m_D k_M_dote 2 (.putfield 81) 3 := (by decide +kernel : decode prog_14_method_93_code 2 = .ok (.putfield 81, 3))
theorem d_M_dote_5 : m_D k_M_dote 5 (.aload_n 0) 1 := (by decide +kernel : decode prog_14_method_93_code 5 = .ok (.aload_n 0, 1))
theorem d_M_dote_6 : m_D k_M_dote 6 (.iconst 0) 1 := (by decide +kernel : decode prog_14_method_93_code 6 = .ok (.iconst 0, 1))
theorem d_M_dote_7 : m_D k_M_dote 7 (.putfield 84) 3 := (by decide +kernel : decode prog_14_method_93_code 7 = .ok (.putfield 84, 3))
theorem d_M_dote_10 : m_D k_M_dote 10 (.aload_n 0) 1 := (by decide +kernel : decode prog_14_method_93_code 10 = .ok (.aload_n 0, 1))
theorem d_M_dote_11 : m_D k_M_dote 11 (.iload_n 1) 1 := (by decide +kernel : decode prog_14_method_93_code 11 = .ok (.iload_n 1, 1))
theorem d_M_dote_12 : m_D k_M_dote 12 (.invokevirtual 349) 3 := (by decide +kernel : decode prog_14_method_93_code 12 = .ok (.invokevirtual 349, 3))
theorem d_M_dote_15 : m_D k_M_dote 15 (.ifCond .eq 11) 3 := (by decide +kernel : decode prog_14_method_93_code 15 = .ok (.ifCond .eq 11, 3))
theorem d_M_dote_18 : m_D k_M_dote 18 (.aload_n 0) 1 := (by decide +kernel : decode prog_14_method_93_code 18 = .ok (.aload_n 0, 1))
theorem d_M_dote_19 : m_D k_M_dote 19 (.iload_n 2) 1 := (by decide +kernel : decode prog_14_method_93_code 19 = .ok (.iload_n 2, 1))
theorem d_M_dote_20 : m_D k_M_dote 20 (.invokevirtual 357) 3 := (by decide +kernel : decode prog_14_method_93_code 20 = .ok (.invokevirtual 357, 3))
theorem d_M_dote_23 : m_D k_M_dote 23 (.ifCond .ne 9) 3 := (by decide +kernel : decode prog_14_method_93_code 23 = .ok (.ifCond .ne 9, 3))
theorem d_M_dote_26 : m_D k_M_dote 26 (.aload_n 0) 1 := (by decide +kernel : decode prog_14_method_93_code 26 = .ok (.aload_n 0, 1))
theorem d_M_dote_27 : m_D k_M_dote 27 (.iconst 2) 1 := (by decide +kernel : decode prog_14_method_93_code 27 = .ok (.iconst 2, 1))
theorem d_M_dote_28 : m_D k_M_dote 28 (.invokevirtual 331) 3 := (by decide +kernel : decode prog_14_method_93_code 28 = .ok (.invokevirtual 331, 3))
theorem d_M_dote_31 : m_D k_M_dote 31 (.ireturn) 1 := (by decide +kernel : decode prog_14_method_93_code 31 = .ok (.ireturn, 1))
theorem d_M_dote_32 : m_D k_M_dote 32 (.iload_n 3) 1 := (by decide +kernel : decode prog_14_method_93_code 32 = .ok (.iload_n 3, 1))
theorem d_M_dote_33 : m_D k_M_dote 33 (.i2l) 1 := (by decide +kernel : decode prog_14_method_93_code 33 = .ok (.i2l, 1))
theorem d_M_dote_34 : m_D k_M_dote 34 (.lconst 0) 1 := (by decide +kernel : decode prog_14_method_93_code 34 = .ok (.lconst 0, 1))
theorem d_M_dote_35 : m_D k_M_dote 35 (.ldc2_w 389) 3 := (by decide +kernel : decode prog_14_method_93_code 35 = .ok (.ldc2_w 389, 3))
theorem d_M_dote_38 : m_D k_M_dote 38 (.invokestatic 116) 3 := (by decide +kernel : decode prog_14_method_93_code 38 = .ok (.invokestatic 116, 3))
theorem d_M_dote_41 : m_D k_M_dote 41 (.ifCond .ne 9) 3 := (by decide +kernel : decode prog_14_method_93_code 41 = .ok (.ifCond .ne 9, 3))
theorem d_M_dote_44 : m_D k_M_dote 44 (.aload_n 0) 1 := (by decide +kernel : decode prog_14_method_93_code 44 = .ok (.aload_n 0, 1))
theorem d_M_dote_45 : m_D k_M_dote 45 (.iconst 5) 1 := (by decide +kernel : decode prog_14_method_93_code 45 = .ok (.iconst 5, 1))
theorem d_M_dote_46 : m_D k_M_dote 46 (.invokevirtual 331) 3 := (by decide +kernel : decode prog_14_method_93_code 46 = .ok (.invokevirtual 331, 3))
theorem d_M_dote_49 : m_D k_M_dote 49 (.ireturn) 1 := (by decide +kernel : decode prog_14_method_93_code 49 = .ok (.ireturn, 1))
theorem d_M_dote_50 : m_D k_M_dote 50 (.aload_n 0) 1 := (by decide +kernel : decode prog_14_method_93_code 50 = .ok (.aload_n 0, 1))
theorem d_M_dote_51 : m_D k_M_dote 51 (.iload_n 1) 1 := (by decide +kernel : decode prog_14_method_93_code 51 = .ok (.iload_n 1, 1))
theorem d_M_dote_52 : m_D k_M_dote 52 (.iload_n 2) 1 := (by decide +kernel : decode prog_14_method_93_code 52 = .ok (.iload_n 2, 1))
theorem d_M_dote_53 : m_D k_M_dote 53 (.invokevirtual 316) 3 := (by decide +kernel : decode prog_14_method_93_code 53 = .ok (.invokevirtual 316, 3))
theorem d_M_dote_56 : m_D k_M_dote 56 (.istore 4) 2 := (by decide +kernel : decode prog_14_method_93_code 56 = .ok (.istore 4, 2))
theorem d_M_dote_58 : m_D k_M_dote 58 (.iload 4) 2 := (by decide +kernel : decode prog_14_method_93_code 58 = .ok (.iload 4, 2))
theorem d_M_dote_60 : m_D k_M_dote 60 (.iload_n 3) 1 := (by decide +kernel : decode prog_14_method_93_code 60 = .ok (.iload_n 3, 1))
theorem d_M_dote_61 : m_D k_M_dote 61 (.if_icmp .ne 10) 3 := (by decide +kernel : decode prog_14_method_93_code 61 = .ok (.if_icmp .ne 10, 3))
theorem d_M_dote_64 : m_D k_M_dote 64 (.aload_n 0) 1 := (by decide +kernel : decode prog_14_method_93_code 64 = .ok (.aload_n 0, 1))
theorem d_M_dote_65 : m_D k_M_dote 65 (.bipush 9) 2 := (by decide +kernel : decode prog_14_method_93_code 65 = .ok (.bipush 9, 2))
theorem d_M_dote_67 : m_D k_M_dote 67 (.invokevirtual 331) 3 := (by decide +kernel : decode prog_14_method_93_code 67 = .ok (.invokevirtual 331, 3))
theorem d_M_dote_70 : m_D k_M_dote 70 (.ireturn) 1 := (by decide +kernel : decode prog_14_method_93_code 70 = .ok (.ireturn, 1))
theorem d_M_dote_71 : m_D k_M_dote 71 (.aload_n 0) 1 := (by decide +kernel : decode prog_14_method_93_code 71 = .ok (.aload_n 0, 1))
theorem d_M_dote_72 : m_D k_M_dote 72 (.getfield 35) 3 := (by decide +kernel : decode prog_14_method_93_code 72 = .ok (.getfield 35, 3))
theorem d_M_dote_75 : m_D k_M_dote 75 (.bipush 57) 2 := (by decide +kernel : decode prog_14_method_93_code 75 = .ok (.bipush 57, 2))
theorem d_M_dote_77 : m_D k_M_dote 77 (.bipush 8) 2 := (by decide +kernel : decode prog_14_method_93_code 77 = .ok (.bipush 8, 2))
theorem d_M_dote_79 : m_D k_M_dote 79 (.iload_n 1) 1 := (by decide +kernel : decode prog_14_method_93_code 79 = .ok (.iload_n 1, 1))
theorem d_M_dote_80 : m_D k_M_dote 80 (.imul) 1 := (by decide +kernel : decode prog_14_method_93_code 80 = .ok (.imul, 1))
theorem d_M_dote_81 : m_D k_M_dote 81 (.iadd) 1 := (by decide +kernel : decode prog_14_method_93_code 81 = .ok (.iadd, 1))
theorem d_M_dote_82 : m_D k_M_dote 82 (.iload_n 2) 1 := (by decide +kernel : decode prog_14_method_93_code 82 = .ok (.iload_n 2, 1))
theorem d_M_dote_83 : m_D k_M_dote 83 (.iadd) 1 := (by decide +kernel : decode prog_14_method_93_code 83 = .ok (.iadd, 1))
theorem d_M_dote_84 : m_D k_M_dote 84 (.iload_n 3) 1 := (by decide +kernel : decode prog_14_method_93_code 84 = .ok (.iload_n 3, 1))
theorem d_M_dote_85 : m_D k_M_dote 85 (.iastore) 1 := (by decide +kernel : decode prog_14_method_93_code 85 = .ok (.iastore, 1))
theorem d_M_dote_86 : m_D k_M_dote 86 (.iload 4) 2 := (by decide +kernel : decode prog_14_method_93_code 86 = .ok (.iload 4, 2))
theorem d_M_dote_88 : m_D k_M_dote 88 (.ireturn) 1 := (by decide +kernel : decode prog_14_method_93_code 88 = .ok (.ireturn, 1))
def fn_M_dote (x0 : Option mA) (x1 : Int32) (x2 : Int32) (x3 : Int32) : mP Int32 :=
  m_th 11 x0 <|
  m_bd (m_pI 11 1 x0 0) fun _ =>
  m_bd (m_pI 11 0 x0 0) fun _ =>
  m_bd (fn_M_isPersonAt x0 x1) fun v1 =>
  if v1 = 0 then
    m_bd (fn_M_refuse x0 2) fun v2 =>
    m_rt v2
  else
    m_bd (fn_M_isThingAt x0 x2) fun v3 =>
    if v3 = 0 then
      m_bd (fn_M_refuse x0 2) fun v9 =>
      m_rt v9
    else
      m_bd (fn_M_isIn (x3).toInt64 0 9) fun v4 =>
      if v4 = 0 then
        m_bd (fn_M_refuse x0 5) fun v8 =>
        m_rt v8
      else
        m_bd (fn_M_loveOf x0 x1 x2) fun v5 =>
        if v5 = x3 then
          m_bd (fn_M_refuse x0 9) fun v7 =>
          m_rt v7
        else
          m_bd (m_gR 11 20 x0) fun v6 =>
          m_bd (m_tI 0 v6 ((57 + (8 * x1)) + x2) x3) fun _ =>
          m_rt v5
set_option maxHeartbeats 4000000 in
set_option maxRecDepth 100000 in
theorem sd_M_dote (x0 : Option mA) (x1 : Int32) (x2 : Int32) (x3 : Int32) : m_Sm k_M_dote 3 0 0 [.inr (.inr x0), .inl x1, .inl x2, .inl x3] (fn_M_dote x0 x1 x2 x3) (fun b => some (.inl b)) := by
  refine ⟨Nat.le_of_ble_eq_true rfl, ?_⟩
  refine sm_th ?_
  refine sm_aload_n (i := 0) (j := 0) (pc' := 1) d_M_dote_0 rfl rfl rfl (sm_iconst (pc' := 2) d_M_dote_1 rfl ic_0 (sm_putI (pc' := 5) d_M_dote_2 rfl fl_M_81 (Or.inl rfl) rfl (sm_aload_n (i := 0) (j := 0) (pc' := 6) d_M_dote_5 rfl rfl rfl (sm_iconst (pc' := 7) d_M_dote_6 rfl ic_0 (sm_putI (pc' := 10) d_M_dote_7 rfl fl_M_84 (Or.inl rfl) rfl (sm_aload_n (i := 0) (j := 0) (pc' := 11) d_M_dote_10 rfl rfl rfl (sm_iload_n (i := 1) (j := 1) (pc' := 12) d_M_dote_11 rfl rfl rfl ?_)))))))
  refine sm_callVi (ci := 11) (x := x0) (av := [.inl x1]) (st := []) (mc := 0) (ms := 0) (pc' := 15) d_M_dote_12 rfl (sd_M_isPersonAt x0 x1) m_lv rfl cv_M_isPersonAt w_ml_M_349 rfl rfl (by decide) (Nat.le_of_ble_eq_true rfl) rfl rfl (fun v1 => ?_)
  refine sm_if_eq (tgt := 26) (pc' := 18) d_M_dote_15 rfl rfl ?_ ?_
  · refine sm_aload_n (i := 0) (j := 0) (pc' := 27) d_M_dote_26 rfl rfl rfl (sm_iconst (pc' := 28) d_M_dote_27 rfl ic_2 ?_)
    refine sm_callVi (ci := 11) (x := x0) (av := [.inl 2]) (st := []) (mc := 0) (ms := 0) (pc' := 31) d_M_dote_28 rfl (sd_M_refuse x0 2) m_lv rfl cv_M_refuse w_ml_M_331 rfl rfl (by decide) (Nat.le_of_ble_eq_true rfl) rfl rfl (fun v2 => ?_)
    exact sm_ireturn d_M_dote_31 rfl rfl
  · refine sm_aload_n (i := 0) (j := 0) (pc' := 19) d_M_dote_18 rfl rfl rfl (sm_iload_n (i := 2) (j := 2) (pc' := 20) d_M_dote_19 rfl rfl rfl ?_)
    refine sm_callVi (ci := 11) (x := x0) (av := [.inl x2]) (st := []) (mc := 0) (ms := 0) (pc' := 23) d_M_dote_20 rfl (sd_M_isThingAt x0 x2) m_lv rfl cv_M_isThingAt w_ml_M_357 rfl rfl (by decide) (Nat.le_of_ble_eq_true rfl) rfl rfl (fun v3 => ?_)
    refine sm_if_ne (tgt := 32) (pc' := 26) d_M_dote_23 rfl rfl ?_ ?_
    · refine sm_iload_n (i := 3) (j := 3) (pc' := 33) d_M_dote_32 rfl rfl rfl (sm_i2l (pc' := 34) d_M_dote_33 rfl (sm_lconst (pc' := 35) (v := 0) d_M_dote_34 rfl rfl (sm_ldc2 (v := 9) (pc' := 38) d_M_dote_35 rfl w_cl_M_389 ?_)))
      refine sm_callSi (av := [.inr (.inl (x3).toInt64), .inr (.inl 0), .inr (.inl 9)]) (st := []) (mc := 0) (ms := 0) (pc' := 41) d_M_dote_38 rfl (sd_M_isIn (x3).toInt64 0 9) cs_M_isIn w_ml_M_116 rfl rfl (by decide) (Nat.le_of_ble_eq_true rfl) rfl rfl (fun v4 => ?_)
      refine sm_if_ne (tgt := 50) (pc' := 44) d_M_dote_41 rfl rfl ?_ ?_
      · refine sm_aload_n (i := 0) (j := 0) (pc' := 51) d_M_dote_50 rfl rfl rfl (sm_iload_n (i := 1) (j := 1) (pc' := 52) d_M_dote_51 rfl rfl rfl (sm_iload_n (i := 2) (j := 2) (pc' := 53) d_M_dote_52 rfl rfl rfl ?_))
        refine sm_callVi (ci := 11) (x := x0) (av := [.inl x1, .inl x2]) (st := []) (mc := 0) (ms := 0) (pc' := 56) d_M_dote_53 rfl (sd_M_loveOf x0 x1 x2) m_lv rfl cv_M_loveOf w_ml_M_316 rfl rfl (by decide) (Nat.le_of_ble_eq_true rfl) rfl rfl (fun v5 => ?_)
        refine sm_istore (L' := [(4, .inl v5), (0, .inr (.inr x0)), (1, .inl x1), (2, .inl x2), (3, .inl x3)]) (pc' := 58) d_M_dote_56 rfl (Nat.le_of_ble_eq_true rfl) rfl (sm_iload (j := 0) (pc' := 60) d_M_dote_58 rfl rfl (sm_iload_n (i := 3) (j := 4) (pc' := 61) d_M_dote_60 rfl rfl rfl ?_))
        refine sm_icmp_ne (tgt := 71) (pc' := 64) d_M_dote_61 rfl rfl ?_ ?_
        · refine sm_aload_n (i := 0) (j := 1) (pc' := 72) d_M_dote_71 rfl rfl rfl ?_
          refine sm_getR (pc' := 75) d_M_dote_72 rfl fl_M_35 rfl rfl (fun v6 => ?_)
          refine sm_bipush (pc' := 77) d_M_dote_75 rfl ib_57 (sm_bipush (pc' := 79) d_M_dote_77 rfl ib_8 (sm_iload_n (i := 1) (j := 2) (pc' := 80) d_M_dote_79 rfl rfl rfl (sm_imul (pc' := 81) d_M_dote_80 rfl (sm_iadd (pc' := 82) d_M_dote_81 rfl (sm_iload_n (i := 2) (j := 3) (pc' := 83) d_M_dote_82 rfl rfl rfl (sm_iadd (pc' := 84) d_M_dote_83 rfl (sm_iload_n (i := 3) (j := 4) (pc' := 85) d_M_dote_84 rfl rfl rfl (sm_iast (pc' := 86) d_M_dote_85 rfl (sm_iload (j := 0) (pc' := 88) d_M_dote_86 rfl rfl ?_)))))))))
          exact sm_ireturn d_M_dote_88 rfl rfl
        · refine sm_aload_n (i := 0) (j := 1) (pc' := 65) d_M_dote_64 rfl rfl rfl (sm_bipush (pc' := 67) d_M_dote_65 rfl ib_9 ?_)
          refine sm_callVi (ci := 11) (x := x0) (av := [.inl 9]) (st := []) (mc := 0) (ms := 0) (pc' := 70) d_M_dote_67 rfl (sd_M_refuse x0 9) m_lv rfl cv_M_refuse w_ml_M_331 rfl rfl (by decide) (Nat.le_of_ble_eq_true rfl) rfl rfl (fun v7 => ?_)
          exact sm_ireturn d_M_dote_70 rfl rfl
      · refine sm_aload_n (i := 0) (j := 0) (pc' := 45) d_M_dote_44 rfl rfl rfl (sm_iconst (pc' := 46) d_M_dote_45 rfl ic_5 ?_)
        refine sm_callVi (ci := 11) (x := x0) (av := [.inl 5]) (st := []) (mc := 0) (ms := 0) (pc' := 49) d_M_dote_46 rfl (sd_M_refuse x0 5) m_lv rfl cv_M_refuse w_ml_M_331 rfl rfl (by decide) (Nat.le_of_ble_eq_true rfl) rfl rfl (fun v8 => ?_)
        exact sm_ireturn d_M_dote_49 rfl rfl
    · refine sm_aload_n (i := 0) (j := 0) (pc' := 27) d_M_dote_26 rfl rfl rfl (sm_iconst (pc' := 28) d_M_dote_27 rfl ic_2 ?_)
      refine sm_callVi (ci := 11) (x := x0) (av := [.inl 2]) (st := []) (mc := 0) (ms := 0) (pc' := 31) d_M_dote_28 rfl (sd_M_refuse x0 2) m_lv rfl cv_M_refuse w_ml_M_331 rfl rfl (by decide) (Nat.le_of_ble_eq_true rfl) rfl rfl (fun v9 => ?_)
      exact sm_ireturn d_M_dote_31 rfl rfl
theorem d_M_oil_0 : m_D k_M_oil 0 (.aload_n 0) 1 := (by decide +kernel : decode prog_14_method_94_code 0 = .ok (.aload_n 0, 1))
theorem d_M_oil_1 : m_D k_M_oil 1 (.iconst 0) 1 := (by decide +kernel : decode prog_14_method_94_code 1 = .ok (.iconst 0, 1))
theorem d_M_oil_2 : m_D k_M_oil 2 (.putfield 81) 3 := (by decide +kernel : decode prog_14_method_94_code 2 = .ok (.putfield 81, 3))
theorem d_M_oil_5 : m_D k_M_oil 5 (.aload_n 0) 1 := (by decide +kernel : decode prog_14_method_94_code 5 = .ok (.aload_n 0, 1))
theorem d_M_oil_6 : m_D k_M_oil 6 (.iconst 0) 1 := (by decide +kernel : decode prog_14_method_94_code 6 = .ok (.iconst 0, 1))
theorem d_M_oil_7 : m_D k_M_oil 7 (.putfield 84) 3 := (by decide +kernel : decode prog_14_method_94_code 7 = .ok (.putfield 84, 3))
theorem d_M_oil_10 : m_D k_M_oil 10 (.aload_n 0) 1 := (by decide +kernel : decode prog_14_method_94_code 10 = .ok (.aload_n 0, 1))
theorem d_M_oil_11 : m_D k_M_oil 11 (.iload_n 1) 1 := (by decide +kernel : decode prog_14_method_94_code 11 = .ok (.iload_n 1, 1))
theorem d_M_oil_12 : m_D k_M_oil 12 (.invokevirtual 357) 3 := (by decide +kernel : decode prog_14_method_94_code 12 = .ok (.invokevirtual 357, 3))
theorem d_M_oil_15 : m_D k_M_oil 15 (.ifCond .ne 9) 3 := (by decide +kernel : decode prog_14_method_94_code 15 = .ok (.ifCond .ne 9, 3))
theorem d_M_oil_18 : m_D k_M_oil 18 (.aload_n 0) 1 := (by decide +kernel : decode prog_14_method_94_code 18 = .ok (.aload_n 0, 1))
theorem d_M_oil_19 : m_D k_M_oil 19 (.iconst 2) 1 := (by decide +kernel : decode prog_14_method_94_code 19 = .ok (.iconst 2, 1))
theorem d_M_oil_20 : m_D k_M_oil 20 (.invokevirtual 331) 3 := (by decide +kernel : decode prog_14_method_94_code 20 = .ok (.invokevirtual 331, 3))
theorem d_M_oil_23 : m_D k_M_oil 23 (.ireturn) 1 := (by decide +kernel : decode prog_14_method_94_code 23 = .ok (.ireturn, 1))
theorem d_M_oil_24 : m_D k_M_oil 24 (.aload_n 0) 1 := (by decide +kernel : decode prog_14_method_94_code 24 = .ok (.aload_n 0, 1))
theorem d_M_oil_25 : m_D k_M_oil 25 (.iload_n 1) 1 := (by decide +kernel : decode prog_14_method_94_code 25 = .ok (.iload_n 1, 1))
theorem d_M_oil_26 : m_D k_M_oil 26 (.invokevirtual 319) 3 := (by decide +kernel : decode prog_14_method_94_code 26 = .ok (.invokevirtual 319, 3))
theorem d_M_oil_29 : m_D k_M_oil 29 (.ifCond .eq 10) 3 := (by decide +kernel : decode prog_14_method_94_code 29 = .ok (.ifCond .eq 10, 3))
theorem d_M_oil_32 : m_D k_M_oil 32 (.aload_n 0) 1 := (by decide +kernel : decode prog_14_method_94_code 32 = .ok (.aload_n 0, 1))
theorem d_M_oil_33 : m_D k_M_oil 33 (.bipush 9) 2 := (by decide +kernel : decode prog_14_method_94_code 33 = .ok (.bipush 9, 2))
theorem d_M_oil_35 : m_D k_M_oil 35 (.invokevirtual 331) 3 := (by decide +kernel : decode prog_14_method_94_code 35 = .ok (.invokevirtual 331, 3))
theorem d_M_oil_38 : m_D k_M_oil 38 (.ireturn) 1 := (by decide +kernel : decode prog_14_method_94_code 38 = .ok (.ireturn, 1))
theorem d_M_oil_39 : m_D k_M_oil 39 (.aload_n 0) 1 := (by decide +kernel : decode prog_14_method_94_code 39 = .ok (.aload_n 0, 1))
theorem d_M_oil_40 : m_D k_M_oil 40 (.getfield 35) 3 := (by decide +kernel : decode prog_14_method_94_code 40 = .ok (.getfield 35, 3))
theorem d_M_oil_43 : m_D k_M_oil 43 (.bipush 49) 2 := (by decide +kernel : decode prog_14_method_94_code 43 = .ok (.bipush 49, 2))
theorem d_M_oil_45 : m_D k_M_oil 45 (.iload_n 1) 1 := (by decide +kernel : decode prog_14_method_94_code 45 = .ok (.iload_n 1, 1))
theorem d_M_oil_46 : m_D k_M_oil 46 (.iadd) 1 := (by decide +kernel : decode prog_14_method_94_code 46 = .ok (.iadd, 1))
theorem d_M_oil_47 : m_D k_M_oil 47 (.iconst 3) 1 := (by decide +kernel : decode prog_14_method_94_code 47 = .ok (.iconst 3, 1))
theorem d_M_oil_48 : m_D k_M_oil 48 (.iastore) 1 := (by decide +kernel : decode prog_14_method_94_code 48 = .ok (.iastore, 1))
theorem d_M_oil_49 : m_D k_M_oil 49 (.iconst 3) 1 := (by decide +kernel : decode prog_14_method_94_code 49 = .ok (.iconst 3, 1))
theorem d_M_oil_50 : m_D k_M_oil 50 (.ireturn) 1 := (by decide +kernel : decode prog_14_method_94_code 50 = .ok (.ireturn, 1))
def fn_M_oil (x0 : Option mA) (x1 : Int32) : mP Int32 :=
  m_th 11 x0 <|
  m_bd (m_pI 11 1 x0 0) fun _ =>
  m_bd (m_pI 11 0 x0 0) fun _ =>
  m_bd (fn_M_isThingAt x0 x1) fun v1 =>
  if v1 = 0 then
    m_bd (fn_M_refuse x0 2) fun v5 =>
    m_rt v5
  else
    m_bd (fn_M_isThrough x0 x1) fun v2 =>
    if v2 = 0 then
      m_bd (m_gR 11 20 x0) fun v3 =>
      m_bd (m_tI 0 v3 (49 + x1) 3) fun _ =>
      m_rt 3
    else
      m_bd (fn_M_refuse x0 9) fun v4 =>
      m_rt v4
set_option maxHeartbeats 4000000 in
set_option maxRecDepth 100000 in
theorem sd_M_oil (x0 : Option mA) (x1 : Int32) : m_Sm k_M_oil 3 0 0 [.inr (.inr x0), .inl x1] (fn_M_oil x0 x1) (fun b => some (.inl b)) := by
  refine ⟨Nat.le_of_ble_eq_true rfl, ?_⟩
  refine sm_th ?_
  refine sm_aload_n (i := 0) (j := 0) (pc' := 1) d_M_oil_0 rfl rfl rfl (sm_iconst (pc' := 2) d_M_oil_1 rfl ic_0 (sm_putI (pc' := 5) d_M_oil_2 rfl fl_M_81 (Or.inl rfl) rfl (sm_aload_n (i := 0) (j := 0) (pc' := 6) d_M_oil_5 rfl rfl rfl (sm_iconst (pc' := 7) d_M_oil_6 rfl ic_0 (sm_putI (pc' := 10) d_M_oil_7 rfl fl_M_84 (Or.inl rfl) rfl (sm_aload_n (i := 0) (j := 0) (pc' := 11) d_M_oil_10 rfl rfl rfl (sm_iload_n (i := 1) (j := 1) (pc' := 12) d_M_oil_11 rfl rfl rfl ?_)))))))
  refine sm_callVi (ci := 11) (x := x0) (av := [.inl x1]) (st := []) (mc := 0) (ms := 0) (pc' := 15) d_M_oil_12 rfl (sd_M_isThingAt x0 x1) m_lv rfl cv_M_isThingAt w_ml_M_357 rfl rfl (by decide) (Nat.le_of_ble_eq_true rfl) rfl rfl (fun v1 => ?_)
  refine sm_if_ne (tgt := 24) (pc' := 18) d_M_oil_15 rfl rfl ?_ ?_
  · refine sm_aload_n (i := 0) (j := 0) (pc' := 25) d_M_oil_24 rfl rfl rfl (sm_iload_n (i := 1) (j := 1) (pc' := 26) d_M_oil_25 rfl rfl rfl ?_)
    refine sm_callVi (ci := 11) (x := x0) (av := [.inl x1]) (st := []) (mc := 0) (ms := 0) (pc' := 29) d_M_oil_26 rfl (sd_M_isThrough x0 x1) m_lv rfl cv_M_isThrough w_ml_M_319 rfl rfl (by decide) (Nat.le_of_ble_eq_true rfl) rfl rfl (fun v2 => ?_)
    refine sm_if_eq (tgt := 39) (pc' := 32) d_M_oil_29 rfl rfl ?_ ?_
    · refine sm_aload_n (i := 0) (j := 0) (pc' := 40) d_M_oil_39 rfl rfl rfl ?_
      refine sm_getR (pc' := 43) d_M_oil_40 rfl fl_M_35 rfl rfl (fun v3 => ?_)
      refine sm_bipush (pc' := 45) d_M_oil_43 rfl ib_49 (sm_iload_n (i := 1) (j := 1) (pc' := 46) d_M_oil_45 rfl rfl rfl (sm_iadd (pc' := 47) d_M_oil_46 rfl (sm_iconst (pc' := 48) d_M_oil_47 rfl ic_3 (sm_iast (pc' := 49) d_M_oil_48 rfl (sm_iconst (pc' := 50) d_M_oil_49 rfl ic_3 ?_)))))
      exact sm_ireturn d_M_oil_50 rfl rfl
    · refine sm_aload_n (i := 0) (j := 0) (pc' := 33) d_M_oil_32 rfl rfl rfl (sm_bipush (pc' := 35) d_M_oil_33 rfl ib_9 ?_)
      refine sm_callVi (ci := 11) (x := x0) (av := [.inl 9]) (st := []) (mc := 0) (ms := 0) (pc' := 38) d_M_oil_35 rfl (sd_M_refuse x0 9) m_lv rfl cv_M_refuse w_ml_M_331 rfl rfl (by decide) (Nat.le_of_ble_eq_true rfl) rfl rfl (fun v4 => ?_)
      exact sm_ireturn d_M_oil_38 rfl rfl
  · refine sm_aload_n (i := 0) (j := 0) (pc' := 19) d_M_oil_18 rfl rfl rfl (sm_iconst (pc' := 20) d_M_oil_19 rfl ic_2 ?_)
    refine sm_callVi (ci := 11) (x := x0) (av := [.inl 2]) (st := []) (mc := 0) (ms := 0) (pc' := 23) d_M_oil_20 rfl (sd_M_refuse x0 2) m_lv rfl cv_M_refuse w_ml_M_331 rfl rfl (by decide) (Nat.le_of_ble_eq_true rfl) rfl rfl (fun v5 => ?_)
    exact sm_ireturn d_M_oil_23 rfl rfl
theorem d_M_coats_0 : m_D k_M_coats 0 (.aload_n 0) 1 := (by decide +kernel : decode prog_14_method_95_code 0 = .ok (.aload_n 0, 1))
theorem d_M_coats_1 : m_D k_M_coats 1 (.getfield 35) 3 := (by decide +kernel : decode prog_14_method_95_code 1 = .ok (.getfield 35, 3))
theorem d_M_coats_4 : m_D k_M_coats 4 (.bipush 33) 2 := (by decide +kernel : decode prog_14_method_95_code 4 = .ok (.bipush 33, 2))
theorem d_M_coats_6 : m_D k_M_coats 6 (.iload_n 1) 1 := (by decide +kernel : decode prog_14_method_95_code 6 = .ok (.iload_n 1, 1))
theorem d_M_coats_7 : m_D k_M_coats 7 (.iadd) 1 := (by decide +kernel : decode prog_14_method_95_code 7 = .ok (.iadd, 1))
theorem d_M_coats_8 : m_D k_M_coats 8 (.sipush 999) 3 := (by decide +kernel : decode prog_14_method_95_code 8 = .ok (.sipush 999, 3))
theorem d_M_coats_11 : m_D k_M_coats 11 (.aload_n 0) 1 := (by decide +kernel : decode prog_14_method_95_code 11 = .ok (.aload_n 0, 1))
theorem d_M_coats_12 : m_D k_M_coats 12 (.getfield 35) 3 := (by decide +kernel : decode prog_14_method_95_code 12 = .ok (.getfield 35, 3))
theorem d_M_coats_15 : m_D k_M_coats 15 (.bipush 33) 2 := (by decide +kernel : decode prog_14_method_95_code 15 = .ok (.bipush 33, 2))
theorem d_M_coats_17 : m_D k_M_coats 17 (.iload_n 1) 1 := (by decide +kernel : decode prog_14_method_95_code 17 = .ok (.iload_n 1, 1))
theorem d_M_coats_18 : m_D k_M_coats 18 (.iadd) 1 := (by decide +kernel : decode prog_14_method_95_code 18 = .ok (.iadd, 1))
theorem d_M_coats_19 : m_D k_M_coats 19 (.iaload) 1 := (by decide +kernel : decode prog_14_method_95_code 19 = .ok (.iaload, 1))
theorem d_M_coats_20 : m_D k_M_coats 20 (.iload_n 2) 1 := (by decide +kernel : decode prog_14_method_95_code 20 = .ok (.iload_n 2, 1))
theorem d_M_coats_21 : m_D k_M_coats 21 (.iadd) 1 := (by decide +kernel : decode prog_14_method_95_code 21 = .ok (.iadd, 1))
theorem d_M_coats_22 : m_D k_M_coats 22 (.invokestatic 375) 3 := (by decide +kernel : decode prog_14_method_95_code 22 = .ok (.invokestatic 375, 3))
theorem d_M_coats_25 : m_D k_M_coats 25 (.iastore) 1 := (by decide +kernel : decode prog_14_method_95_code 25 = .ok (.iastore, 1))
theorem d_M_coats_26 : m_D k_M_coats 26 (.aload_n 0) 1 := (by decide +kernel : decode prog_14_method_95_code 26 = .ok (.aload_n 0, 1))
theorem d_M_coats_27 : m_D k_M_coats 27 (.getfield 35) 3 := (by decide +kernel : decode prog_14_method_95_code 27 = .ok (.getfield 35, 3))
theorem d_M_coats_30 : m_D k_M_coats 30 (.bipush 33) 2 := (by decide +kernel : decode prog_14_method_95_code 30 = .ok (.bipush 33, 2))
theorem d_M_coats_32 : m_D k_M_coats 32 (.iload_n 1) 1 := (by decide +kernel : decode prog_14_method_95_code 32 = .ok (.iload_n 1, 1))
theorem d_M_coats_33 : m_D k_M_coats 33 (.iadd) 1 := (by decide +kernel : decode prog_14_method_95_code 33 = .ok (.iadd, 1))
theorem d_M_coats_34 : m_D k_M_coats 34 (.iaload) 1 := (by decide +kernel : decode prog_14_method_95_code 34 = .ok (.iaload, 1))
theorem d_M_coats_35 : m_D k_M_coats 35 (.ireturn) 1 := (by decide +kernel : decode prog_14_method_95_code 35 = .ok (.ireturn, 1))
def fn_M_coats (x0 : Option mA) (x1 : Int32) (x2 : Int32) : mP Int32 :=
  m_th 11 x0 <|
  m_bd (m_gR 11 20 x0) fun v1 =>
  m_bd (m_gR 11 20 x0) fun v2 =>
  m_bd (m_aI 0 v2 (33 + x1)) fun v3 =>
  m_bd (m_tI 0 v1 (33 + x1) (iMin 999 (v3 + x2))) fun _ =>
  m_bd (m_gR 11 20 x0) fun v4 =>
  m_bd (m_aI 0 v4 (33 + x1)) fun v5 =>
  m_rt v5
set_option maxHeartbeats 4000000 in
set_option maxRecDepth 100000 in
theorem sd_M_coats (x0 : Option mA) (x1 : Int32) (x2 : Int32) : m_Sm k_M_coats 1 0 0 [.inr (.inr x0), .inl x1, .inl x2] (fn_M_coats x0 x1 x2) (fun b => some (.inl b)) := by
  refine ⟨Nat.le_of_ble_eq_true rfl, ?_⟩
  refine sm_th ?_
  refine sm_aload_n (i := 0) (j := 0) (pc' := 1) d_M_coats_0 rfl rfl rfl ?_
  refine sm_getR (pc' := 4) d_M_coats_1 rfl fl_M_35 rfl rfl (fun v1 => ?_)
  refine sm_bipush (pc' := 6) d_M_coats_4 rfl ib_33 (sm_iload_n (i := 1) (j := 1) (pc' := 7) d_M_coats_6 rfl rfl rfl (sm_iadd (pc' := 8) d_M_coats_7 rfl (sm_sipush (pc' := 11) d_M_coats_8 rfl is_999 (sm_aload_n (i := 0) (j := 0) (pc' := 12) d_M_coats_11 rfl rfl rfl ?_))))
  refine sm_getR (pc' := 15) d_M_coats_12 rfl fl_M_35 rfl rfl (fun v2 => ?_)
  refine sm_bipush (pc' := 17) d_M_coats_15 rfl ib_33 (sm_iload_n (i := 1) (j := 1) (pc' := 18) d_M_coats_17 rfl rfl rfl (sm_iadd (pc' := 19) d_M_coats_18 rfl ?_))
  refine sm_iald (pc' := 20) d_M_coats_19 rfl (fun v3 => ?_)
  refine sm_iload_n (i := 2) (j := 2) (pc' := 21) d_M_coats_20 rfl rfl rfl (sm_iadd (pc' := 22) d_M_coats_21 rfl (sm_mmin (pc' := 25) d_M_coats_22 rfl w_ml_M_375 (by decide) (Nat.le_of_ble_eq_true rfl) (sm_iast (pc' := 26) d_M_coats_25 rfl (sm_aload_n (i := 0) (j := 0) (pc' := 27) d_M_coats_26 rfl rfl rfl ?_))))
  refine sm_getR (pc' := 30) d_M_coats_27 rfl fl_M_35 rfl rfl (fun v4 => ?_)
  refine sm_bipush (pc' := 32) d_M_coats_30 rfl ib_33 (sm_iload_n (i := 1) (j := 1) (pc' := 33) d_M_coats_32 rfl rfl rfl (sm_iadd (pc' := 34) d_M_coats_33 rfl ?_))
  refine sm_iald (pc' := 35) d_M_coats_34 rfl (fun v5 => ?_)
  exact sm_ireturn d_M_coats_35 rfl rfl
