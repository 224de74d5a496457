/-! 10.ref5, laid by wip/whole/gen.py -/
theorem d_M_lastsBy_0 : m_D k_M_lastsBy 0 (.aload_n 0) 1 := (by decide +kernel : decode prog_14_method_115_code 0 = .ok (.aload_n 0, 1))
theorem d_M_lastsBy_1 : m_D k_M_lastsBy 1 (.invokevirtual 415) 3 := (by decide +kernel : decode prog_14_method_115_code 1 = .ok (.invokevirtual 415, 3))
theorem d_M_lastsBy_4 : m_D k_M_lastsBy 4 (.iconst 0) 1 := (by decide +kernel : decode prog_14_method_115_code 4 = .ok (.iconst 0, 1))
theorem d_M_lastsBy_5 : m_D k_M_lastsBy 5 (.istore 4) 2 := (by decide +kernel : decode prog_14_method_115_code 5 = .ok (.istore 4, 2))
theorem d_M_lastsBy_7 : m_D k_M_lastsBy 7 (.iload 4) 2 := (by decide +kernel : decode prog_14_method_115_code 7 = .ok (.iload 4, 2))
theorem d_M_lastsBy_9 : m_D k_M_lastsBy 9 (.iload_n 2) 1 := (by decide +kernel : decode prog_14_method_115_code 9 = .ok (.iload_n 2, 1))
theorem d_M_lastsBy_10 : m_D k_M_lastsBy 10 (.if_icmp .ge 63) 3 := (by decide +kernel : decode prog_14_method_115_code 10 = .ok (.if_icmp .ge 63, 3))
theorem d_M_lastsBy_13 : m_D k_M_lastsBy 13 (.iload_n 3) 1 := (by decide +kernel : decode prog_14_method_115_code 13 = .ok (.iload_n 3, 1))
theorem d_M_lastsBy_14 : m_D k_M_lastsBy 14 (.iload 4) 2 := (by decide +kernel : decode prog_14_method_115_code 14 = .ok (.iload 4, 2))
theorem d_M_lastsBy_16 : m_D k_M_lastsBy 16 (.invokestatic 120) 3 := (by decide +kernel : decode prog_14_method_115_code 16 = .ok (.invokestatic 120, 3))
theorem d_M_lastsBy_19 : m_D k_M_lastsBy 19 (.ifCond .eq 19) 3 := (by decide +kernel : decode prog_14_method_115_code 19 = .ok (.ifCond .eq 19, 3))
theorem d_M_lastsBy_22 : m_D k_M_lastsBy 22 (.aload_n 0) 1 := (by decide +kernel : decode prog_14_method_115_code 22 = .ok (.aload_n 0, 1))
theorem d_M_lastsBy_23 : m_D k_M_lastsBy 23 (.getfield 35) 3 := (by decide +kernel : decode prog_14_method_115_code 23 = .ok (.getfield 35, 3))
theorem d_M_lastsBy_26 : m_D k_M_lastsBy 26 (.bipush 49) 2 := (by decide +kernel : decode prog_14_method_115_code 26 = .ok (.bipush 49, 2))
theorem d_M_lastsBy_28 : m_D k_M_lastsBy 28 (.iload_n 1) 1 := (by decide +kernel : decode prog_14_method_115_code 28 = .ok (.iload_n 1, 1))
theorem d_M_lastsBy_29 : m_D k_M_lastsBy 29 (.iadd) 1 := (by decide +kernel : decode prog_14_method_115_code 29 = .ok (.iadd, 1))
theorem d_M_lastsBy_30 : m_D k_M_lastsBy 30 (.iaload) 1 := (by decide +kernel : decode prog_14_method_115_code 30 = .ok (.iaload, 1))
theorem d_M_lastsBy_31 : m_D k_M_lastsBy 31 (.ifCond .ne 7) 3 := (by decide +kernel : decode prog_14_method_115_code 31 = .ok (.ifCond .ne 7, 3))
theorem d_M_lastsBy_34 : m_D k_M_lastsBy 34 (.iconst 1) 1 := (by decide +kernel : decode prog_14_method_115_code 34 = .ok (.iconst 1, 1))
theorem d_M_lastsBy_35 : m_D k_M_lastsBy 35 (.goto 4) 3 := (by decide +kernel : decode prog_14_method_115_code 35 = .ok (.goto 4, 3))
theorem d_M_lastsBy_38 : m_D k_M_lastsBy 38 (.iconst 0) 1 := (by decide +kernel : decode prog_14_method_115_code 38 = .ok (.iconst 0, 1))
theorem d_M_lastsBy_39 : m_D k_M_lastsBy 39 (.istore 5) 2 := (by decide +kernel : decode prog_14_method_115_code 39 = .ok (.istore 5, 2))
theorem d_M_lastsBy_41 : m_D k_M_lastsBy 41 (.aload_n 0) 1 := (by decide +kernel : decode prog_14_method_115_code 41 = .ok (.aload_n 0, 1))
theorem d_M_lastsBy_42 : m_D k_M_lastsBy 42 (.getfield 35) 3 := (by decide +kernel : decode prog_14_method_115_code 42 = .ok (.getfield 35, 3))
theorem d_M_lastsBy_45 : m_D k_M_lastsBy 45 (.bipush 49) 2 := (by decide +kernel : decode prog_14_method_115_code 45 = .ok (.bipush 49, 2))
theorem d_M_lastsBy_47 : m_D k_M_lastsBy 47 (.iload_n 1) 1 := (by decide +kernel : decode prog_14_method_115_code 47 = .ok (.iload_n 1, 1))
theorem d_M_lastsBy_48 : m_D k_M_lastsBy 48 (.iadd) 1 := (by decide +kernel : decode prog_14_method_115_code 48 = .ok (.iadd, 1))
theorem d_M_lastsBy_49 : m_D k_M_lastsBy 49 (.dup2) 1 := (by decide +kernel : decode prog_14_method_115_code 49 = .ok (.dup2, 1))
theorem d_M_lastsBy_50 : m_D k_M_lastsBy 50 (.iaload) 1 := (by decide +kernel : decode prog_14_method_115_code 50 = .ok (.iaload, 1))
theorem d_M_lastsBy_51 : m_D k_M_lastsBy 51 (.iload 5) 2 := (by decide +kernel : decode prog_14_method_115_code 51 = .ok (.iload 5, 2))
theorem d_M_lastsBy_53 : m_D k_M_lastsBy 53 (.ifCond .eq 7) 3 := (by decide +kernel : decode prog_14_method_115_code 53 = .ok (.ifCond .eq 7, 3))
theorem d_M_lastsBy_56 : m_D k_M_lastsBy 56 (.iconst 1) 1 := (by decide +kernel : decode prog_14_method_115_code 56 = .ok (.iconst 1, 1))
theorem d_M_lastsBy_57 : m_D k_M_lastsBy 57 (.goto 4) 3 := (by decide +kernel : decode prog_14_method_115_code 57 = .ok (.goto 4, 3))
theorem d_M_lastsBy_60 : m_D k_M_lastsBy 60 (.iconst 0) 1 := (by decide +kernel : decode prog_14_method_115_code 60 = .ok (.iconst 0, 1))
theorem d_M_lastsBy_61 : m_D k_M_lastsBy 61 (.iadd) 1 := (by decide +kernel : decode prog_14_method_115_code 61 = .ok (.iadd, 1))
theorem d_M_lastsBy_62 : m_D k_M_lastsBy 62 (.iastore) 1 := (by decide +kernel : decode prog_14_method_115_code 62 = .ok (.iastore, 1))
theorem d_M_lastsBy_63 : m_D k_M_lastsBy 63 (.aload_n 0) 1 := (by decide +kernel : decode prog_14_method_115_code 63 = .ok (.aload_n 0, 1))
theorem d_M_lastsBy_64 : m_D k_M_lastsBy 64 (.invokevirtual 386) 3 := (by decide +kernel : decode prog_14_method_115_code 64 = .ok (.invokevirtual 386, 3))
theorem d_M_lastsBy_67 : m_D k_M_lastsBy 67 (.iinc 4 1) 3 := (by decide +kernel : decode prog_14_method_115_code 67 = .ok (.iinc 4 1, 3))
theorem d_M_lastsBy_70 : m_D k_M_lastsBy 70 (.goto (-63)) 3 := (by decide +kernel : decode prog_14_method_115_code 70 = .ok (.goto (-63), 3))
theorem d_M_lastsBy_73 : m_D k_M_lastsBy 73 (.aload_n 0) 1 := (by decide +kernel : decode prog_14_method_115_code 73 = .ok (.aload_n 0, 1))
theorem d_M_lastsBy_74 : m_D k_M_lastsBy 74 (.iload_n 1) 1 := (by decide +kernel : decode prog_14_method_115_code 74 = .ok (.iload_n 1, 1))
theorem d_M_lastsBy_75 : m_D k_M_lastsBy 75 (.invokevirtual 319) 3 := (by decide +kernel : decode prog_14_method_115_code 75 = .ok (.invokevirtual 319, 3))
theorem d_M_lastsBy_78 : m_D k_M_lastsBy 78 (.ifCond .ne 7) 3 := (by decide +kernel : decode prog_14_method_115_code 78 = .ok (.ifCond .ne 7, 3))
theorem d_M_lastsBy_81 : m_D k_M_lastsBy 81 (.iconst 1) 1 := (by decide +kernel : decode prog_14_method_115_code 81 = .ok (.iconst 1, 1))
theorem d_M_lastsBy_82 : m_D k_M_lastsBy 82 (.goto 4) 3 := (by decide +kernel : decode prog_14_method_115_code 82 = .ok (.goto 4, 3))
theorem d_M_lastsBy_85 : m_D k_M_lastsBy 85 (.iconst 0) 1 := (by decide +kernel : decode prog_14_method_115_code 85 = .ok (.iconst 0, 1))
theorem d_M_lastsBy_86 : m_D k_M_lastsBy 86 (.istore 4) 2 := (by decide +kernel : decode prog_14_method_115_code 86 = .ok (.istore 4, 2))
theorem d_M_lastsBy_88 : m_D k_M_lastsBy 88 (.aload_n 0) 1 := (by decide +kernel : decode prog_14_method_115_code 88 = .ok (.aload_n 0, 1))
theorem d_M_lastsBy_89 : m_D k_M_lastsBy 89 (.invokevirtual 418) 3 := (by decide +kernel : decode prog_14_method_115_code 89 = .ok (.invokevirtual 418, 3))
theorem d_M_lastsBy_92 : m_D k_M_lastsBy 92 (.iload 4) 2 := (by decide +kernel : decode prog_14_method_115_code 92 = .ok (.iload 4, 2))
theorem d_M_lastsBy_94 : m_D k_M_lastsBy 94 (.ireturn) 1 := (by decide +kernel : decode prog_14_method_115_code 94 = .ok (.ireturn, 1))
def fn_M_lastsBy_l7 (x0 : Option mA) (x1 : Int32) (x2 : Int32) (x3 : Int32) (t1 : Int32) : mP ((Int32) ⊕ (Unit)) :=
  if x2 ≤ t1 then
    m_rt (.inr ())
  else
    m_bd (fn_M_has x3 t1) fun v2 =>
    m_bd (α := Int32) (
      if v2 = 0 then
        m_rt 0
      else
        m_bd (m_gR 11 20 x0) fun v3 =>
        m_bd (m_aI 0 v3 (49 + x1)) fun v4 =>
        if v4 = 0 then
          m_rt 1
        else
          m_rt 0
      ) fun (t5 : Int32) =>
    m_bd (m_gR 11 20 x0) fun v6 =>
    m_bd (m_aI 0 v6 (49 + x1)) fun v7 =>
    m_bd (α := Int32) (
      if t5 = 0 then
        m_rt 0
      else
        m_rt 1
      ) fun (t8 : Int32) =>
    m_bd (m_tI 0 v6 (49 + x1) (v7 + t8)) fun _ =>
    m_bd (fn_M_goesYear x0) fun _ =>
    m_rt (.inl (t1 + 1))
def fn_M_lastsBy (x0 : Option mA) (x1 : Int32) (x2 : Int32) (x3 : Int32) : mP Int32 :=
  m_th 11 x0 <|
  m_bd (fn_M_puts x0) fun _ =>
  m_bd (m_lp (fn_M_lastsBy_l7 x0 x1 x2 x3) m_F 0) fun (t9 : Unit) =>
  m_bd (fn_M_isThrough x0 x1) fun v10 =>
  m_bd (α := Int32) (
    if v10 = 0 then
      m_rt 1
    else
      m_rt 0
    ) fun (t11 : Int32) =>
  m_bd (fn_M_gives x0) fun _ =>
  m_bd (m_cz t11) fun _ => m_rt t11
set_option maxHeartbeats 4000000 in
set_option maxRecDepth 100000 in
theorem sd_M_lastsBy (x0 : Option mA) (x1 : Int32) (x2 : Int32) (x3 : Int32) : m_Sm k_M_lastsBy 5 0 0 [.inr (.inr x0), .inl x1, .inl x2, .inl x3] (fn_M_lastsBy x0 x1 x2 x3) (fun b => some (.inl b)) := by
  refine ⟨Nat.le_of_ble_eq_true rfl, ?_⟩
  refine sm_th ?_
  refine sm_aload_n (i := 0) (j := 0) (pc' := 1) d_M_lastsBy_0 rfl rfl rfl ?_
  refine sm_callVv (ci := 11) (x := x0) (av := []) (st := []) (mc := 0) (ms := 0) (pc' := 4) d_M_lastsBy_1 rfl (sd_M_puts x0) m_lv rfl cv_M_puts w_ml_M_415 rfl rfl (by decide) (Nat.le_of_ble_eq_true rfl) rfl rfl ?_
  refine sm_iconst (pc' := 5) d_M_lastsBy_4 rfl ic_0 (sm_istore (L' := [(4, .inl 0), (0, .inr (.inr x0)), (1, .inl x1), (2, .inl x2), (3, .inl x3)]) (pc' := 7) d_M_lastsBy_5 rfl (Nat.le_of_ble_eq_true rfl) rfl ?_)
  refine sm_sub [0, 1, 2, 3, 4] rfl ?_
  refine sm_bd (mid := fun (t9 : Unit) => .inl (73, [(0, .inr (.inr x0)), (1, .inl x1)], [])) (sm_lp (hd := fun (t1 : Int32) => (.inl (7, [(4, .inl t1), (0, .inr (.inr x0)), (1, .inl x1), (2, .inl x2), (3, .inl x3)], []) : mC)) (fun t1 => ?_) m_F 0) (fun t9 => ?_)
  · refine sm_iload (j := 0) (pc' := 9) d_M_lastsBy_7 rfl rfl (sm_iload_n (i := 2) (j := 3) (pc' := 10) d_M_lastsBy_9 rfl rfl rfl ?_)
    refine sm_icmp_ge (tgt := 73) (pc' := 13) d_M_lastsBy_10 rfl rfl ?_ ?_
    · refine sm_sub [1, 2] rfl ?_
      exact sm_rt rfl
    · refine sm_iload_n (i := 3) (j := 4) (pc' := 14) d_M_lastsBy_13 rfl rfl rfl (sm_iload (j := 0) (pc' := 16) d_M_lastsBy_14 rfl rfl ?_)
      refine sm_callSi (av := [.inl x3, .inl t1]) (st := []) (mc := 0) (ms := 0) (pc' := 19) d_M_lastsBy_16 rfl (sd_M_has x3 t1) cs_M_has w_ml_M_120 rfl rfl (by decide) (Nat.le_of_ble_eq_true rfl) rfl rfl (fun v2 => ?_)
      refine sm_bd (mid := fun (t5 : Int32) => .inl (39, [(0, .inr (.inr x0)), (1, .inl x1), (2, .inl x2), (3, .inl x3), (4, .inl t1)], [.inl t5])) ?_ (fun t5 => ?_)
      · refine sm_if_eq (tgt := 38) (pc' := 22) d_M_lastsBy_19 rfl rfl ?_ ?_
        · refine sm_iconst (pc' := 39) d_M_lastsBy_38 rfl ic_0 (sm_sub [1, 2, 3, 4, 0] rfl ?_)
          exact sm_rt rfl
        · refine sm_aload_n (i := 0) (j := 1) (pc' := 23) d_M_lastsBy_22 rfl rfl rfl ?_
          refine sm_getR (pc' := 26) d_M_lastsBy_23 rfl fl_M_35 rfl rfl (fun v3 => ?_)
          refine sm_bipush (pc' := 28) d_M_lastsBy_26 rfl ib_49 (sm_iload_n (i := 1) (j := 2) (pc' := 29) d_M_lastsBy_28 rfl rfl rfl (sm_iadd (pc' := 30) d_M_lastsBy_29 rfl ?_))
          refine sm_iald (pc' := 31) d_M_lastsBy_30 rfl (fun v4 => ?_)
          refine sm_if_ne (tgt := 38) (pc' := 34) d_M_lastsBy_31 rfl rfl ?_ ?_
          · refine sm_iconst (pc' := 39) d_M_lastsBy_38 rfl ic_0 (sm_sub [1, 2, 3, 4, 0] rfl ?_)
            exact sm_rt rfl
          · refine sm_iconst (pc' := 35) d_M_lastsBy_34 rfl ic_1 (sm_goto (tgt := 39) d_M_lastsBy_35 rfl (sm_sub [1, 2, 3, 4, 0] rfl ?_))
            exact sm_rt rfl
      · refine sm_istore (L' := [(5, .inl t5), (0, .inr (.inr x0)), (1, .inl x1), (2, .inl x2), (3, .inl x3), (4, .inl t1)]) (pc' := 41) d_M_lastsBy_39 rfl (Nat.le_of_ble_eq_true rfl) rfl (sm_aload_n (i := 0) (j := 1) (pc' := 42) d_M_lastsBy_41 rfl rfl rfl ?_)
        refine sm_getR (pc' := 45) d_M_lastsBy_42 rfl fl_M_35 rfl rfl (fun v6 => ?_)
        refine sm_bipush (pc' := 47) d_M_lastsBy_45 rfl ib_49 (sm_iload_n (i := 1) (j := 2) (pc' := 48) d_M_lastsBy_47 rfl rfl rfl (sm_iadd (pc' := 49) d_M_lastsBy_48 rfl (sm_dup2 (pc' := 50) d_M_lastsBy_49 rfl rfl rfl ?_)))
        refine sm_iald (pc' := 51) d_M_lastsBy_50 rfl (fun v7 => ?_)
        refine sm_iload (j := 0) (pc' := 53) d_M_lastsBy_51 rfl rfl ?_
        refine sm_bd (mid := fun (t8 : Int32) => .inl (61, [(0, .inr (.inr x0)), (1, .inl x1), (2, .inl x2), (3, .inl x3), (4, .inl t1)], [.inl t8, .inl v7, .inl (49 + x1), .inr (.inr v6)])) ?_ (fun t8 => ?_)
        · refine sm_if_eq (tgt := 60) (pc' := 56) d_M_lastsBy_53 rfl rfl ?_ ?_
          · refine sm_iconst (pc' := 61) d_M_lastsBy_60 rfl ic_0 (sm_sub [1, 2, 3, 4, 5] rfl ?_)
            exact sm_rt rfl
          · refine sm_iconst (pc' := 57) d_M_lastsBy_56 rfl ic_1 (sm_goto (tgt := 61) d_M_lastsBy_57 rfl (sm_sub [1, 2, 3, 4, 5] rfl ?_))
            exact sm_rt rfl
        · refine sm_iadd (pc' := 62) d_M_lastsBy_61 rfl (sm_iast (pc' := 63) d_M_lastsBy_62 rfl (sm_aload_n (i := 0) (j := 0) (pc' := 64) d_M_lastsBy_63 rfl rfl rfl ?_))
          refine sm_callVv (ci := 11) (x := x0) (av := []) (st := []) (mc := 0) (ms := 0) (pc' := 67) d_M_lastsBy_64 rfl (sd_M_goesYear x0) m_lv rfl cv_M_goesYear w_ml_M_386 rfl rfl (by decide) (Nat.le_of_ble_eq_true rfl) rfl rfl ?_
          refine sm_iinc (j := 4) (L' := [(4, .inl (t1 + 1)), (0, .inr (.inr x0)), (1, .inl x1), (2, .inl x2), (3, .inl x3)]) (pc' := 70) d_M_lastsBy_67 rfl (v := (t1 + 1)) rfl (ix_1 _) (Nat.le_of_ble_eq_true rfl) rfl (sm_goto (tgt := 7) d_M_lastsBy_70 rfl (sm_sub [0, 1, 2, 3, 4] rfl ?_))
          exact sm_rt rfl
  · refine sm_aload_n (i := 0) (j := 0) (pc' := 74) d_M_lastsBy_73 rfl rfl rfl (sm_iload_n (i := 1) (j := 1) (pc' := 75) d_M_lastsBy_74 rfl rfl rfl ?_)
    refine sm_callVi (ci := 11) (x := x0) (av := [.inl x1]) (st := []) (mc := 0) (ms := 0) (pc' := 78) d_M_lastsBy_75 rfl (sd_M_isThrough x0 x1) m_lv rfl cv_M_isThrough w_ml_M_319 rfl rfl (by decide) (Nat.le_of_ble_eq_true rfl) rfl rfl (fun v10 => ?_)
    refine sm_bd (mid := fun (t11 : Int32) => .inl (86, [(0, .inr (.inr x0))], [.inl t11])) ?_ (fun t11 => ?_)
    · refine sm_if_ne (tgt := 85) (pc' := 81) d_M_lastsBy_78 rfl rfl ?_ ?_
      · refine sm_iconst (pc' := 86) d_M_lastsBy_85 rfl ic_0 (sm_sub [0] rfl ?_)
        exact sm_rt rfl
      · refine sm_iconst (pc' := 82) d_M_lastsBy_81 rfl ic_1 (sm_goto (tgt := 86) d_M_lastsBy_82 rfl (sm_sub [0] rfl ?_))
        exact sm_rt rfl
    · refine sm_istore (L' := [(4, .inl t11), (0, .inr (.inr x0))]) (pc' := 88) d_M_lastsBy_86 rfl (Nat.le_of_ble_eq_true rfl) rfl (sm_aload_n (i := 0) (j := 1) (pc' := 89) d_M_lastsBy_88 rfl rfl rfl ?_)
      refine sm_callVv (ci := 11) (x := x0) (av := []) (st := []) (mc := 0) (ms := 0) (pc' := 92) d_M_lastsBy_89 rfl (sd_M_gives x0) m_lv rfl cv_M_gives w_ml_M_418 rfl rfl (by decide) (Nat.le_of_ble_eq_true rfl) rfl rfl ?_
      refine sm_iload (j := 0) (pc' := 94) d_M_lastsBy_92 rfl rfl ?_
      exact sm_zretC d_M_lastsBy_94 rfl rfl
theorem d_M_sizeOf_0 : m_D k_M_sizeOf 0 (.iconst 0) 1 := (by decide +kernel : decode prog_14_method_20_code 0 = .ok (.iconst 0, 1))
theorem d_M_sizeOf_1 : m_D k_M_sizeOf 1 (.istore_n 1) 1 := (by decide +kernel : decode prog_14_method_20_code 1 = .ok (.istore_n 1, 1))
theorem d_M_sizeOf_2 : m_D k_M_sizeOf 2 (.iconst 0) 1 := (by decide +kernel : decode prog_14_method_20_code 2 = .ok (.iconst 0, 1))
theorem d_M_sizeOf_3 : m_D k_M_sizeOf 3 (.istore_n 2) 1 := (by decide +kernel : decode prog_14_method_20_code 3 = .ok (.istore_n 2, 1))
theorem d_M_sizeOf_4 : m_D k_M_sizeOf 4 (.iload_n 2) 1 := (by decide +kernel : decode prog_14_method_20_code 4 = .ok (.iload_n 2, 1))
theorem d_M_sizeOf_5 : m_D k_M_sizeOf 5 (.bipush 8) 2 := (by decide +kernel : decode prog_14_method_20_code 5 = .ok (.bipush 8, 2))
theorem d_M_sizeOf_7 : m_D k_M_sizeOf 7 (.if_icmp .ge 25) 3 := (by decide +kernel : decode prog_14_method_20_code 7 = .ok (.if_icmp .ge 25, 3))
theorem d_M_sizeOf_10 : m_D k_M_sizeOf 10 (.iload_n 1) 1 := (by decide +kernel : decode prog_14_method_20_code 10 = .ok (.iload_n 1, 1))
theorem d_M_sizeOf_11 : m_D k_M_sizeOf 11 (.iload_n 0) 1 := (by decide +kernel : decode prog_14_method_20_code 11 = .ok (.iload_n 0, 1))
theorem d_M_sizeOf_12 : m_D k_M_sizeOf 12 (.iload_n 2) 1 := (by decide +kernel : decode prog_14_method_20_code 12 = .ok (.iload_n 2, 1))
theorem d_M_sizeOf_13 : m_D k_M_sizeOf 13 (.invokestatic 120) 3 := (by decide +kernel : decode prog_14_method_20_code 13 = .ok (.invokestatic 120, 3))
theorem d_M_sizeOf_16 : m_D k_M_sizeOf 16 (.ifCond .eq 7) 3 := (by decide +kernel : decode prog_14_method_20_code 16 = .ok (.ifCond .eq 7, 3))
theorem d_M_sizeOf_19 : m_D k_M_sizeOf 19 (.iconst 1) 1 := (by decide +kernel : decode prog_14_method_20_code 19 = .ok (.iconst 1, 1))
theorem d_M_sizeOf_20 : m_D k_M_sizeOf 20 (.goto 4) 3 := (by decide +kernel : decode prog_14_method_20_code 20 = .ok (.goto 4, 3))
theorem d_M_sizeOf_23 : m_D k_M_sizeOf 23 (.iconst 0) 1 := (by decide +kernel : decode prog_14_method_20_code 23 = .ok (.iconst 0, 1))
theorem d_M_sizeOf_24 : m_D k_M_sizeOf 24 (.iadd) 1 := (by decide +kernel : decode prog_14_method_20_code 24 = .ok (.iadd, 1))
theorem d_M_sizeOf_25 : m_D k_M_sizeOf 25 (.istore_n 1) 1 := (by decide +kernel : decode prog_14_method_20_code 25 = .ok (.istore_n 1, 1))
theorem d_M_sizeOf_26 : m_D k_M_sizeOf 26 (.iinc 2 1) 3 := (by decide +kernel : decode prog_14_method_20_code 26 = .ok (.iinc 2 1, 3))
theorem d_M_sizeOf_29 : m_D k_M_sizeOf 29 (.goto (-25)) 3 := (by decide +kernel : decode prog_14_method_20_code 29 = .ok (.goto (-25), 3))
theorem d_M_sizeOf_32 : m_D k_M_sizeOf 32 (.iload_n 1) 1 := (by decide +kernel : decode prog_14_method_20_code 32 = .ok (.iload_n 1, 1))
theorem d_M_sizeOf_33 : m_D k_M_sizeOf 33 (.ireturn) 1 := (by decide +kernel : decode prog_14_method_20_code 33 = .ok (.ireturn, 1))
def fn_M_sizeOf_l4 (x0 : Int32) (t1 : Int32 × Int32) : mP ((Int32 × Int32) ⊕ (Int32)) :=
  if 8 ≤ t1.2 then
    m_rt (.inr t1.1)
  else
    m_bd (fn_M_has x0 t1.2) fun v2 =>
    m_bd (α := Int32) (
      if v2 = 0 then
        m_rt 0
      else
        m_rt 1
      ) fun (t3 : Int32) =>
    m_rt (.inl ((t1.1 + t3), (t1.2 + 1)))
def fn_M_sizeOf (x0 : Int32) : mP Int32 :=
  m_bd (m_lp (fn_M_sizeOf_l4 x0) m_F (0, 0)) fun (t4 : Int32) =>
  m_rt t4
set_option maxHeartbeats 4000000 in
set_option maxRecDepth 100000 in
theorem sd_M_sizeOf (x0 : Int32) : m_Sm k_M_sizeOf 2 0 0 [.inl x0] (fn_M_sizeOf x0) (fun b => some (.inl b)) := by
  refine ⟨Nat.le_of_ble_eq_true rfl, ?_⟩
  refine sm_iconst (pc' := 1) d_M_sizeOf_0 rfl ic_0 (sm_istore_n (i := 1) (L' := [(1, .inl 0), (0, .inl x0)]) (pc' := 2) d_M_sizeOf_1 rfl rfl (Nat.le_of_ble_eq_true rfl) rfl (sm_iconst (pc' := 3) d_M_sizeOf_2 rfl ic_0 (sm_istore_n (i := 2) (L' := [(2, .inl 0), (1, .inl 0), (0, .inl x0)]) (pc' := 4) d_M_sizeOf_3 rfl rfl (Nat.le_of_ble_eq_true rfl) rfl ?_)))
  refine sm_sub [1, 0, 2] rfl ?_
  refine sm_bd (mid := fun (t4 : Int32) => .inl (32, [(1, .inl t4)], [])) (sm_lp (hd := fun (t1 : Int32 × Int32) => (.inl (4, [(1, .inl t1.1), (2, .inl t1.2), (0, .inl x0)], []) : mC)) (fun t1 => ?_) m_F (0, 0)) (fun t4 => ?_)
  · refine sm_iload_n (i := 2) (j := 1) (pc' := 5) d_M_sizeOf_4 rfl rfl rfl (sm_bipush (pc' := 7) d_M_sizeOf_5 rfl ib_8 ?_)
    refine sm_icmp_ge (tgt := 32) (pc' := 10) d_M_sizeOf_7 rfl rfl ?_ ?_
    · refine sm_sub [0] rfl ?_
      exact sm_rt rfl
    · refine sm_iload_n (i := 1) (j := 0) (pc' := 11) d_M_sizeOf_10 rfl rfl rfl (sm_iload_n (i := 0) (j := 2) (pc' := 12) d_M_sizeOf_11 rfl rfl rfl (sm_iload_n (i := 2) (j := 1) (pc' := 13) d_M_sizeOf_12 rfl rfl rfl ?_))
      refine sm_callSi (av := [.inl x0, .inl t1.2]) (st := [.inl t1.1]) (mc := 0) (ms := 0) (pc' := 16) d_M_sizeOf_13 rfl (sd_M_has x0 t1.2) cs_M_has w_ml_M_120 rfl rfl (by decide) (Nat.le_of_ble_eq_true rfl) rfl rfl (fun v2 => ?_)
      refine sm_bd (mid := fun (t3 : Int32) => .inl (24, [(0, .inl x0), (2, .inl t1.2)], [.inl t3, .inl t1.1])) ?_ (fun t3 => ?_)
      · refine sm_if_eq (tgt := 23) (pc' := 19) d_M_sizeOf_16 rfl rfl ?_ ?_
        · refine sm_iconst (pc' := 24) d_M_sizeOf_23 rfl ic_0 (sm_sub [2, 1] rfl ?_)
          exact sm_rt rfl
        · refine sm_iconst (pc' := 20) d_M_sizeOf_19 rfl ic_1 (sm_goto (tgt := 24) d_M_sizeOf_20 rfl (sm_sub [2, 1] rfl ?_))
          exact sm_rt rfl
      · refine sm_iadd (pc' := 25) d_M_sizeOf_24 rfl (sm_istore_n (i := 1) (L' := [(1, .inl (t1.1 + t3)), (0, .inl x0), (2, .inl t1.2)]) (pc' := 26) d_M_sizeOf_25 rfl rfl (Nat.le_of_ble_eq_true rfl) rfl (sm_iinc (j := 2) (L' := [(2, .inl (t1.2 + 1)), (1, .inl (t1.1 + t3)), (0, .inl x0)]) (pc' := 29) d_M_sizeOf_26 rfl (v := (t1.2 + 1)) rfl (ix_1 _) (Nat.le_of_ble_eq_true rfl) rfl (sm_goto (tgt := 4) d_M_sizeOf_29 rfl (sm_sub [1, 0, 2] rfl ?_))))
        exact sm_rt rfl
  · refine sm_iload_n (i := 1) (j := 0) (pc' := 33) d_M_sizeOf_32 rfl rfl rfl ?_
    exact sm_ireturn d_M_sizeOf_33 rfl rfl
theorem d_M_jarsOf_0 : m_D k_M_jarsOf 0 (.iconst (-1)) 1 := (by decide +kernel : decode prog_14_method_116_code 0 = .ok (.iconst (-1), 1))
theorem d_M_jarsOf_1 : m_D k_M_jarsOf 1 (.istore_n 3) 1 := (by decide +kernel : decode prog_14_method_116_code 1 = .ok (.istore_n 3, 1))
theorem d_M_jarsOf_2 : m_D k_M_jarsOf 2 (.iconst 0) 1 := (by decide +kernel : decode prog_14_method_116_code 2 = .ok (.iconst 0, 1))
theorem d_M_jarsOf_3 : m_D k_M_jarsOf 3 (.istore 4) 2 := (by decide +kernel : decode prog_14_method_116_code 3 = .ok (.istore 4, 2))
theorem d_M_jarsOf_5 : m_D k_M_jarsOf 5 (.iload 4) 2 := (by decide +kernel : decode prog_14_method_116_code 5 = .ok (.iload 4, 2))
theorem d_M_jarsOf_7 : m_D k_M_jarsOf 7 (.iconst 1) 1 := (by decide +kernel : decode prog_14_method_116_code 7 = .ok (.iconst 1, 1))
theorem d_M_jarsOf_8 : m_D k_M_jarsOf 8 (.iload_n 2) 1 := (by decide +kernel : decode prog_14_method_116_code 8 = .ok (.iload_n 2, 1))
theorem d_M_jarsOf_9 : m_D k_M_jarsOf 9 (.ishl) 1 := (by decide +kernel : decode prog_14_method_116_code 9 = .ok (.ishl, 1))
theorem d_M_jarsOf_10 : m_D k_M_jarsOf 10 (.if_icmp .ge 39) 3 := (by decide +kernel : decode prog_14_method_116_code 10 = .ok (.if_icmp .ge 39, 3))
theorem d_M_jarsOf_13 : m_D k_M_jarsOf 13 (.iload_n 3) 1 := (by decide +kernel : decode prog_14_method_116_code 13 = .ok (.iload_n 3, 1))
theorem d_M_jarsOf_14 : m_D k_M_jarsOf 14 (.ifCond .lt 12) 3 := (by decide +kernel : decode prog_14_method_116_code 14 = .ok (.ifCond .lt 12, 3))
theorem d_M_jarsOf_17 : m_D k_M_jarsOf 17 (.iload 4) 2 := (by decide +kernel : decode prog_14_method_116_code 17 = .ok (.iload 4, 2))
theorem d_M_jarsOf_19 : m_D k_M_jarsOf 19 (.invokestatic 429) 3 := (by decide +kernel : decode prog_14_method_116_code 19 = .ok (.invokestatic 429, 3))
theorem d_M_jarsOf_22 : m_D k_M_jarsOf 22 (.iload_n 3) 1 := (by decide +kernel : decode prog_14_method_116_code 22 = .ok (.iload_n 3, 1))
theorem d_M_jarsOf_23 : m_D k_M_jarsOf 23 (.if_icmp .ge 20) 3 := (by decide +kernel : decode prog_14_method_116_code 23 = .ok (.if_icmp .ge 20, 3))
theorem d_M_jarsOf_26 : m_D k_M_jarsOf 26 (.aload_n 0) 1 := (by decide +kernel : decode prog_14_method_116_code 26 = .ok (.aload_n 0, 1))
theorem d_M_jarsOf_27 : m_D k_M_jarsOf 27 (.iload_n 1) 1 := (by decide +kernel : decode prog_14_method_116_code 27 = .ok (.iload_n 1, 1))
theorem d_M_jarsOf_28 : m_D k_M_jarsOf 28 (.iload_n 2) 1 := (by decide +kernel : decode prog_14_method_116_code 28 = .ok (.iload_n 2, 1))
theorem d_M_jarsOf_29 : m_D k_M_jarsOf 29 (.iload 4) 2 := (by decide +kernel : decode prog_14_method_116_code 29 = .ok (.iload 4, 2))
theorem d_M_jarsOf_31 : m_D k_M_jarsOf 31 (.invokevirtual 432) 3 := (by decide +kernel : decode prog_14_method_116_code 31 = .ok (.invokevirtual 432, 3))
theorem d_M_jarsOf_34 : m_D k_M_jarsOf 34 (.ifCond .eq 9) 3 := (by decide +kernel : decode prog_14_method_116_code 34 = .ok (.ifCond .eq 9, 3))
theorem d_M_jarsOf_37 : m_D k_M_jarsOf 37 (.iload 4) 2 := (by decide +kernel : decode prog_14_method_116_code 37 = .ok (.iload 4, 2))
theorem d_M_jarsOf_39 : m_D k_M_jarsOf 39 (.invokestatic 429) 3 := (by decide +kernel : decode prog_14_method_116_code 39 = .ok (.invokestatic 429, 3))
theorem d_M_jarsOf_42 : m_D k_M_jarsOf 42 (.istore_n 3) 1 := (by decide +kernel : decode prog_14_method_116_code 42 = .ok (.istore_n 3, 1))
theorem d_M_jarsOf_43 : m_D k_M_jarsOf 43 (.iinc 4 1) 3 := (by decide +kernel : decode prog_14_method_116_code 43 = .ok (.iinc 4 1, 3))
theorem d_M_jarsOf_46 : m_D k_M_jarsOf 46 (.goto (-41)) 3 := (by decide +kernel : decode prog_14_method_116_code 46 = .ok (.goto (-41), 3))
theorem d_M_jarsOf_49 : m_D k_M_jarsOf 49 (.iload_n 3) 1 := (by decide +kernel : decode prog_14_method_116_code 49 = .ok (.iload_n 3, 1))
theorem d_M_jarsOf_50 : m_D k_M_jarsOf 50 (.ireturn) 1 := (by decide +kernel : decode prog_14_method_116_code 50 = .ok (.ireturn, 1))
def fn_M_jarsOf_l5 (x0 : Option mA) (x1 : Int32) (x2 : Int32) (t1 : Int32 × Int32) : mP ((Int32 × Int32) ⊕ (Int32)) :=
  if (1 <<< (x2 &&& 31)) ≤ t1.2 then
    m_rt (.inr t1.1)
  else
    m_bd (α := Int32) (
      if t1.1 < 0 then
        m_bd (fn_M_lastsBy x0 x1 x2 t1.2) fun v2 =>
        if v2 = 0 then
          m_rt t1.1
        else
          m_bd (fn_M_sizeOf t1.2) fun v3 =>
          m_rt v3
      else
        m_bd (fn_M_sizeOf t1.2) fun v4 =>
        if t1.1 ≤ v4 then
          m_rt t1.1
        else
          m_bd (fn_M_lastsBy x0 x1 x2 t1.2) fun v5 =>
          if v5 = 0 then
            m_rt t1.1
          else
            m_bd (fn_M_sizeOf t1.2) fun v6 =>
            m_rt v6
      ) fun (t7 : Int32) =>
    m_rt (.inl (t7, (t1.2 + 1)))
def fn_M_jarsOf (x0 : Option mA) (x1 : Int32) (x2 : Int32) : mP Int32 :=
  m_th 11 x0 <|
  m_bd (m_lp (fn_M_jarsOf_l5 x0 x1 x2) m_F ((-1), 0)) fun (t8 : Int32) =>
  m_rt t8
set_option maxHeartbeats 4000000 in
set_option maxRecDepth 100000 in
theorem sd_M_jarsOf (x0 : Option mA) (x1 : Int32) (x2 : Int32) : m_Sm k_M_jarsOf 6 0 0 [.inr (.inr x0), .inl x1, .inl x2] (fn_M_jarsOf x0 x1 x2) (fun b => some (.inl b)) := by
  refine ⟨Nat.le_of_ble_eq_true rfl, ?_⟩
  refine sm_th ?_
  refine sm_iconst (pc' := 1) d_M_jarsOf_0 rfl ic_m1 (sm_istore_n (i := 3) (L' := [(3, .inl (-1)), (0, .inr (.inr x0)), (1, .inl x1), (2, .inl x2)]) (pc' := 2) d_M_jarsOf_1 rfl rfl (Nat.le_of_ble_eq_true rfl) rfl (sm_iconst (pc' := 3) d_M_jarsOf_2 rfl ic_0 (sm_istore (L' := [(4, .inl 0), (3, .inl (-1)), (0, .inr (.inr x0)), (1, .inl x1), (2, .inl x2)]) (pc' := 5) d_M_jarsOf_3 rfl (Nat.le_of_ble_eq_true rfl) rfl ?_)))
  refine sm_sub [1, 0, 2, 3, 4] rfl ?_
  refine sm_bd (mid := fun (t8 : Int32) => .inl (49, [(3, .inl t8)], [])) (sm_lp (hd := fun (t1 : Int32 × Int32) => (.inl (5, [(3, .inl t1.1), (4, .inl t1.2), (0, .inr (.inr x0)), (1, .inl x1), (2, .inl x2)], []) : mC)) (fun t1 => ?_) m_F ((-1), 0)) (fun t8 => ?_)
  · refine sm_iload (j := 1) (pc' := 7) d_M_jarsOf_5 rfl rfl (sm_iconst (pc' := 8) d_M_jarsOf_7 rfl ic_1 (sm_iload_n (i := 2) (j := 4) (pc' := 9) d_M_jarsOf_8 rfl rfl rfl (sm_ishl (pc' := 10) d_M_jarsOf_9 rfl ?_)))
    refine sm_icmp_ge (tgt := 49) (pc' := 13) d_M_jarsOf_10 rfl rfl ?_ ?_
    · refine sm_sub [0] rfl ?_
      exact sm_rt rfl
    · refine sm_iload_n (i := 3) (j := 0) (pc' := 14) d_M_jarsOf_13 rfl rfl rfl ?_
      refine sm_bd (mid := fun (t7 : Int32) => .inl (43, [(0, .inr (.inr x0)), (1, .inl x1), (2, .inl x2), (3, .inl t7), (4, .inl t1.2)], [])) ?_ (fun t7 => ?_)
      · refine sm_if_lt (tgt := 26) (pc' := 17) d_M_jarsOf_14 rfl rfl ?_ ?_
        · refine sm_aload_n (i := 0) (j := 2) (pc' := 27) d_M_jarsOf_26 rfl rfl rfl (sm_iload_n (i := 1) (j := 3) (pc' := 28) d_M_jarsOf_27 rfl rfl rfl (sm_iload_n (i := 2) (j := 4) (pc' := 29) d_M_jarsOf_28 rfl rfl rfl (sm_iload (j := 1) (pc' := 31) d_M_jarsOf_29 rfl rfl ?_)))
          refine sm_callVi (ci := 11) (x := x0) (av := [.inl x1, .inl x2, .inl t1.2]) (st := []) (mc := 0) (ms := 0) (pc' := 34) d_M_jarsOf_31 rfl (sd_M_lastsBy x0 x1 x2 t1.2) m_lv rfl cv_M_lastsBy w_ml_M_432 rfl rfl (by decide) (Nat.le_of_ble_eq_true rfl) rfl rfl (fun v2 => ?_)
          refine sm_if_eq (tgt := 43) (pc' := 37) d_M_jarsOf_34 rfl rfl ?_ ?_
          · refine sm_sub [2, 3, 4, 0, 1] rfl ?_
            exact sm_rt rfl
          · refine sm_iload (j := 1) (pc' := 39) d_M_jarsOf_37 rfl rfl ?_
            refine sm_callSi (av := [.inl t1.2]) (st := []) (mc := 0) (ms := 0) (pc' := 42) d_M_jarsOf_39 rfl (sd_M_sizeOf t1.2) cs_M_sizeOf w_ml_M_429 rfl rfl (by decide) (Nat.le_of_ble_eq_true rfl) rfl rfl (fun v3 => ?_)
            refine sm_istore_n (i := 3) (L' := [(3, .inl v3), (4, .inl t1.2), (0, .inr (.inr x0)), (1, .inl x1), (2, .inl x2)]) (pc' := 43) d_M_jarsOf_42 rfl rfl (Nat.le_of_ble_eq_true rfl) rfl (sm_sub [2, 3, 4, 0, 1] rfl ?_)
            exact sm_rt rfl
        · refine sm_iload (j := 1) (pc' := 19) d_M_jarsOf_17 rfl rfl ?_
          refine sm_callSi (av := [.inl t1.2]) (st := []) (mc := 0) (ms := 0) (pc' := 22) d_M_jarsOf_19 rfl (sd_M_sizeOf t1.2) cs_M_sizeOf w_ml_M_429 rfl rfl (by decide) (Nat.le_of_ble_eq_true rfl) rfl rfl (fun v4 => ?_)
          refine sm_iload_n (i := 3) (j := 0) (pc' := 23) d_M_jarsOf_22 rfl rfl rfl ?_
          refine sm_icmp_ge (tgt := 43) (pc' := 26) d_M_jarsOf_23 rfl rfl ?_ ?_
          · refine sm_sub [2, 3, 4, 0, 1] rfl ?_
            exact sm_rt rfl
          · refine sm_aload_n (i := 0) (j := 2) (pc' := 27) d_M_jarsOf_26 rfl rfl rfl (sm_iload_n (i := 1) (j := 3) (pc' := 28) d_M_jarsOf_27 rfl rfl rfl (sm_iload_n (i := 2) (j := 4) (pc' := 29) d_M_jarsOf_28 rfl rfl rfl (sm_iload (j := 1) (pc' := 31) d_M_jarsOf_29 rfl rfl ?_)))
            refine sm_callVi (ci := 11) (x := x0) (av := [.inl x1, .inl x2, .inl t1.2]) (st := []) (mc := 0) (ms := 0) (pc' := 34) d_M_jarsOf_31 rfl (sd_M_lastsBy x0 x1 x2 t1.2) m_lv rfl cv_M_lastsBy w_ml_M_432 rfl rfl (by decide) (Nat.le_of_ble_eq_true rfl) rfl rfl (fun v5 => ?_)
            refine sm_if_eq (tgt := 43) (pc' := 37) d_M_jarsOf_34 rfl rfl ?_ ?_
            · refine sm_sub [2, 3, 4, 0, 1] rfl ?_
              exact sm_rt rfl
            · refine sm_iload (j := 1) (pc' := 39) d_M_jarsOf_37 rfl rfl ?_
              refine sm_callSi (av := [.inl t1.2]) (st := []) (mc := 0) (ms := 0) (pc' := 42) d_M_jarsOf_39 rfl (sd_M_sizeOf t1.2) cs_M_sizeOf w_ml_M_429 rfl rfl (by decide) (Nat.le_of_ble_eq_true rfl) rfl rfl (fun v6 => ?_)
              refine sm_istore_n (i := 3) (L' := [(3, .inl v6), (4, .inl t1.2), (0, .inr (.inr x0)), (1, .inl x1), (2, .inl x2)]) (pc' := 43) d_M_jarsOf_42 rfl rfl (Nat.le_of_ble_eq_true rfl) rfl (sm_sub [2, 3, 4, 0, 1] rfl ?_)
              exact sm_rt rfl
      · refine sm_iinc (j := 4) (L' := [(4, .inl (t1.2 + 1)), (0, .inr (.inr x0)), (1, .inl x1), (2, .inl x2), (3, .inl t7)]) (pc' := 46) d_M_jarsOf_43 rfl (v := (t1.2 + 1)) rfl (ix_1 _) (Nat.le_of_ble_eq_true rfl) rfl (sm_goto (tgt := 5) d_M_jarsOf_46 rfl (sm_sub [4, 0, 1, 2, 3] rfl ?_))
        exact sm_rt rfl
  · refine sm_iload_n (i := 3) (j := 0) (pc' := 50) d_M_jarsOf_49 rfl rfl rfl ?_
    exact sm_ireturn d_M_jarsOf_50 rfl rfl
theorem d_M_jars_0 : m_D k_M_jars 0 (.aload_n 0) 1 := (by decide +kernel : decode prog_14_method_117_code 0 = .ok (.aload_n 0, 1))
theorem d_M_jars_1 : m_D k_M_jars 1 (.iconst 0) 1 := (by decide +kernel : decode prog_14_method_117_code 1 = .ok (.iconst 0, 1))
theorem d_M_jars_2 : m_D k_M_jars 2 (.putfield 81) 3 := (by decide +kernel : decode prog_14_method_117_code 2 = .ok (.putfield 81, 3))
theorem d_M_jars_5 : m_D k_M_jars 5 (.aload_n 0) 1 := (by decide +kernel : decode prog_14_method_117_code 5 = .ok (.aload_n 0, 1))
theorem d_M_jars_6 : m_D k_M_jars 6 (.iconst 0) 1 := (by decide +kernel : decode prog_14_method_117_code 6 = .ok (.iconst 0, 1))
theorem d_M_jars_7 : m_D k_M_jars 7 (.putfield 84) 3 := (by decide +kernel : decode prog_14_method_117_code 7 = .ok (.putfield 84, 3))
theorem d_M_jars_10 : m_D k_M_jars 10 (.aload_n 0) 1 := (by decide +kernel : decode prog_14_method_117_code 10 = .ok (.aload_n 0, 1))
theorem d_M_jars_11 : m_D k_M_jars 11 (.iload_n 1) 1 := (by decide +kernel : decode prog_14_method_117_code 11 = .ok (.iload_n 1, 1))
theorem d_M_jars_12 : m_D k_M_jars 12 (.invokevirtual 357) 3 := (by decide +kernel : decode prog_14_method_117_code 12 = .ok (.invokevirtual 357, 3))
theorem d_M_jars_15 : m_D k_M_jars 15 (.ifCond .ne 9) 3 := (by decide +kernel : decode prog_14_method_117_code 15 = .ok (.ifCond .ne 9, 3))
theorem d_M_jars_18 : m_D k_M_jars 18 (.aload_n 0) 1 := (by decide +kernel : decode prog_14_method_117_code 18 = .ok (.aload_n 0, 1))
theorem d_M_jars_19 : m_D k_M_jars 19 (.iconst 2) 1 := (by decide +kernel : decode prog_14_method_117_code 19 = .ok (.iconst 2, 1))
theorem d_M_jars_20 : m_D k_M_jars 20 (.invokevirtual 331) 3 := (by decide +kernel : decode prog_14_method_117_code 20 = .ok (.invokevirtual 331, 3))
theorem d_M_jars_23 : m_D k_M_jars 23 (.ireturn) 1 := (by decide +kernel : decode prog_14_method_117_code 23 = .ok (.ireturn, 1))
theorem d_M_jars_24 : m_D k_M_jars 24 (.iload_n 2) 1 := (by decide +kernel : decode prog_14_method_117_code 24 = .ok (.iload_n 2, 1))
theorem d_M_jars_25 : m_D k_M_jars 25 (.i2l) 1 := (by decide +kernel : decode prog_14_method_117_code 25 = .ok (.i2l, 1))
theorem d_M_jars_26 : m_D k_M_jars 26 (.lconst 0) 1 := (by decide +kernel : decode prog_14_method_117_code 26 = .ok (.lconst 0, 1))
theorem d_M_jars_27 : m_D k_M_jars 27 (.ldc2_w 179) 3 := (by decide +kernel : decode prog_14_method_117_code 27 = .ok (.ldc2_w 179, 3))
theorem d_M_jars_30 : m_D k_M_jars 30 (.invokestatic 116) 3 := (by decide +kernel : decode prog_14_method_117_code 30 = .ok (.invokestatic 116, 3))
theorem d_M_jars_33 : m_D k_M_jars 33 (.ifCond .ne 9) 3 := (by decide +kernel : decode prog_14_method_117_code 33 = .ok (.ifCond .ne 9, 3))
theorem d_M_jars_36 : m_D k_M_jars 36 (.aload_n 0) 1 := (by decide +kernel : decode prog_14_method_117_code 36 = .ok (.aload_n 0, 1))
theorem d_M_jars_37 : m_D k_M_jars 37 (.iconst 5) 1 := (by decide +kernel : decode prog_14_method_117_code 37 = .ok (.iconst 5, 1))
theorem d_M_jars_38 : m_D k_M_jars 38 (.invokevirtual 331) 3 := (by decide +kernel : decode prog_14_method_117_code 38 = .ok (.invokevirtual 331, 3))
theorem d_M_jars_41 : m_D k_M_jars 41 (.ireturn) 1 := (by decide +kernel : decode prog_14_method_117_code 41 = .ok (.ireturn, 1))
theorem d_M_jars_42 : m_D k_M_jars 42 (.aload_n 0) 1 := (by decide +kernel : decode prog_14_method_117_code 42 = .ok (.aload_n 0, 1))
theorem d_M_jars_43 : m_D k_M_jars 43 (.iload_n 1) 1 := (by decide +kernel : decode prog_14_method_117_code 43 = .ok (.iload_n 1, 1))
theorem d_M_jars_44 : m_D k_M_jars 44 (.iload_n 2) 1 := (by decide +kernel : decode prog_14_method_117_code 44 = .ok (.iload_n 2, 1))
theorem d_M_jars_45 : m_D k_M_jars 45 (.invokevirtual 436) 3 := (by decide +kernel : decode prog_14_method_117_code 45 = .ok (.invokevirtual 436, 3))
theorem d_M_jars_48 : m_D k_M_jars 48 (.istore_n 3) 1 := (by decide +kernel : decode prog_14_method_117_code 48 = .ok (.istore_n 3, 1))
theorem d_M_jars_49 : m_D k_M_jars 49 (.iload_n 3) 1 := (by decide +kernel : decode prog_14_method_117_code 49 = .ok (.iload_n 3, 1))
theorem d_M_jars_50 : m_D k_M_jars 50 (.ifCond .ge 12) 3 := (by decide +kernel : decode prog_14_method_117_code 50 = .ok (.ifCond .ge 12, 3))
theorem d_M_jars_53 : m_D k_M_jars 53 (.aload_n 0) 1 := (by decide +kernel : decode prog_14_method_117_code 53 = .ok (.aload_n 0, 1))
theorem d_M_jars_54 : m_D k_M_jars 54 (.bipush 8) 2 := (by decide +kernel : decode prog_14_method_117_code 54 = .ok (.bipush 8, 2))
theorem d_M_jars_56 : m_D k_M_jars 56 (.invokevirtual 331) 3 := (by decide +kernel : decode prog_14_method_117_code 56 = .ok (.invokevirtual 331, 3))
theorem d_M_jars_59 : m_D k_M_jars 59 (.goto 4) 3 := (by decide +kernel : decode prog_14_method_117_code 59 = .ok (.goto 4, 3))
theorem d_M_jars_62 : m_D k_M_jars 62 (.iload_n 3) 1 := (by decide +kernel : decode prog_14_method_117_code 62 = .ok (.iload_n 3, 1))
theorem d_M_jars_63 : m_D k_M_jars 63 (.ireturn) 1 := (by decide +kernel : decode prog_14_method_117_code 63 = .ok (.ireturn, 1))
def fn_M_jars (x0 : Option mA) (x1 : Int32) (x2 : Int32) : mP Int32 :=
  m_th 11 x0 <|
  m_bd (m_pI 11 1 x0 0) fun _ =>
  m_bd (m_pI 11 0 x0 0) fun _ =>
  m_bd (fn_M_isThingAt x0 x1) fun v1 =>
  if v1 = 0 then
    m_bd (fn_M_refuse x0 2) fun v6 =>
    m_rt v6
  else
    m_bd (fn_M_isIn (x2).toInt64 0 8) fun v2 =>
    if v2 = 0 then
      m_bd (fn_M_refuse x0 5) fun v5 =>
      m_rt v5
    else
      m_bd (fn_M_jarsOf x0 x1 x2) fun v3 =>
      if 0 ≤ v3 then
        m_rt v3
      else
        m_bd (fn_M_refuse x0 8) fun v4 =>
        m_rt v4
set_option maxHeartbeats 4000000 in
set_option maxRecDepth 100000 in
theorem sd_M_jars (x0 : Option mA) (x1 : Int32) (x2 : Int32) : m_Sm k_M_jars 7 0 0 [.inr (.inr x0), .inl x1, .inl x2] (fn_M_jars x0 x1 x2) (fun b => some (.inl b)) := by
  refine ⟨Nat.le_of_ble_eq_true rfl, ?_⟩
  refine sm_th ?_
  refine sm_aload_n (i := 0) (j := 0) (pc' := 1) d_M_jars_0 rfl rfl rfl (sm_iconst (pc' := 2) d_M_jars_1 rfl ic_0 (sm_putI (pc' := 5) d_M_jars_2 rfl fl_M_81 (Or.inl rfl) rfl (sm_aload_n (i := 0) (j := 0) (pc' := 6) d_M_jars_5 rfl rfl rfl (sm_iconst (pc' := 7) d_M_jars_6 rfl ic_0 (sm_putI (pc' := 10) d_M_jars_7 rfl fl_M_84 (Or.inl rfl) rfl (sm_aload_n (i := 0) (j := 0) (pc' := 11) d_M_jars_10 rfl rfl rfl (sm_iload_n (i := 1) (j := 1) (pc' := 12) d_M_jars_11 rfl rfl rfl ?_)))))))
  refine sm_callVi (ci := 11) (x := x0) (av := [.inl x1]) (st := []) (mc := 0) (ms := 0) (pc' := 15) d_M_jars_12 rfl (sd_M_isThingAt x0 x1) m_lv rfl cv_M_isThingAt w_ml_M_357 rfl rfl (by decide) (Nat.le_of_ble_eq_true rfl) rfl rfl (fun v1 => ?_)
  refine sm_if_ne (tgt := 24) (pc' := 18) d_M_jars_15 rfl rfl ?_ ?_
  · refine sm_iload_n (i := 2) (j := 2) (pc' := 25) d_M_jars_24 rfl rfl rfl (sm_i2l (pc' := 26) d_M_jars_25 rfl (sm_lconst (pc' := 27) (v := 0) d_M_jars_26 rfl rfl (sm_ldc2 (v := 8) (pc' := 30) d_M_jars_27 rfl w_cl_M_179 ?_)))
    refine sm_callSi (av := [.inr (.inl (x2).toInt64), .inr (.inl 0), .inr (.inl 8)]) (st := []) (mc := 0) (ms := 0) (pc' := 33) d_M_jars_30 rfl (sd_M_isIn (x2).toInt64 0 8) cs_M_isIn w_ml_M_116 rfl rfl (by decide) (Nat.le_of_ble_eq_true rfl) rfl rfl (fun v2 => ?_)
    refine sm_if_ne (tgt := 42) (pc' := 36) d_M_jars_33 rfl rfl ?_ ?_
    · refine sm_aload_n (i := 0) (j := 0) (pc' := 43) d_M_jars_42 rfl rfl rfl (sm_iload_n (i := 1) (j := 1) (pc' := 44) d_M_jars_43 rfl rfl rfl (sm_iload_n (i := 2) (j := 2) (pc' := 45) d_M_jars_44 rfl rfl rfl ?_))
      refine sm_callVi (ci := 11) (x := x0) (av := [.inl x1, .inl x2]) (st := []) (mc := 0) (ms := 0) (pc' := 48) d_M_jars_45 rfl (sd_M_jarsOf x0 x1 x2) m_lv rfl cv_M_jarsOf w_ml_M_436 rfl rfl (by decide) (Nat.le_of_ble_eq_true rfl) rfl rfl (fun v3 => ?_)
      refine sm_istore_n (i := 3) (L' := [(3, .inl v3), (0, .inr (.inr x0)), (1, .inl x1), (2, .inl x2)]) (pc' := 49) d_M_jars_48 rfl rfl (Nat.le_of_ble_eq_true rfl) rfl (sm_iload_n (i := 3) (j := 0) (pc' := 50) d_M_jars_49 rfl rfl rfl ?_)
      refine sm_if_ge (tgt := 62) (pc' := 53) d_M_jars_50 rfl rfl ?_ ?_
      · refine sm_iload_n (i := 3) (j := 0) (pc' := 63) d_M_jars_62 rfl rfl rfl ?_
        exact sm_ireturn d_M_jars_63 rfl rfl
      · refine sm_aload_n (i := 0) (j := 1) (pc' := 54) d_M_jars_53 rfl rfl rfl (sm_bipush (pc' := 56) d_M_jars_54 rfl ib_8 ?_)
        refine sm_callVi (ci := 11) (x := x0) (av := [.inl 8]) (st := []) (mc := 0) (ms := 0) (pc' := 59) d_M_jars_56 rfl (sd_M_refuse x0 8) m_lv rfl cv_M_refuse w_ml_M_331 rfl rfl (by decide) (Nat.le_of_ble_eq_true rfl) rfl rfl (fun v4 => ?_)
        refine sm_goto (tgt := 63) d_M_jars_59 rfl ?_
        exact sm_ireturn d_M_jars_63 rfl rfl
    · refine sm_aload_n (i := 0) (j := 0) (pc' := 37) d_M_jars_36 rfl rfl rfl (sm_iconst (pc' := 38) d_M_jars_37 rfl ic_5 ?_)
      refine sm_callVi (ci := 11) (x := x0) (av := [.inl 5]) (st := []) (mc := 0) (ms := 0) (pc' := 41) d_M_jars_38 rfl (sd_M_refuse x0 5) m_lv rfl cv_M_refuse w_ml_M_331 rfl rfl (by decide) (Nat.le_of_ble_eq_true rfl) rfl rfl (fun v5 => ?_)
      exact sm_ireturn d_M_jars_41 rfl rfl
  · refine sm_aload_n (i := 0) (j := 0) (pc' := 19) d_M_jars_18 rfl rfl rfl (sm_iconst (pc' := 20) d_M_jars_19 rfl ic_2 ?_)
    refine sm_callVi (ci := 11) (x := x0) (av := [.inl 2]) (st := []) (mc := 0) (ms := 0) (pc' := 23) d_M_jars_20 rfl (sd_M_refuse x0 2) m_lv rfl cv_M_refuse w_ml_M_331 rfl rfl (by decide) (Nat.le_of_ble_eq_true rfl) rfl rfl (fun v6 => ?_)
    exact sm_ireturn d_M_jars_23 rfl rfl
theorem d_M_jarsFor_0 : m_D k_M_jarsFor 0 (.aload_n 0) 1 := (by decide +kernel : decode prog_14_method_118_code 0 = .ok (.aload_n 0, 1))
theorem d_M_jarsFor_1 : m_D k_M_jarsFor 1 (.iconst 0) 1 := (by decide +kernel : decode prog_14_method_118_code 1 = .ok (.iconst 0, 1))
theorem d_M_jarsFor_2 : m_D k_M_jarsFor 2 (.putfield 81) 3 := (by decide +kernel : decode prog_14_method_118_code 2 = .ok (.putfield 81, 3))
theorem d_M_jarsFor_5 : m_D k_M_jarsFor 5 (.aload_n 0) 1 := (by decide +kernel : decode prog_14_method_118_code 5 = .ok (.aload_n 0, 1))
theorem d_M_jarsFor_6 : m_D k_M_jarsFor 6 (.iconst 0) 1 := (by decide +kernel : decode prog_14_method_118_code 6 = .ok (.iconst 0, 1))
theorem d_M_jarsFor_7 : m_D k_M_jarsFor 7 (.putfield 84) 3 := (by decide +kernel : decode prog_14_method_118_code 7 = .ok (.putfield 84, 3))
theorem d_M_jarsFor_10 : m_D k_M_jarsFor 10 (.iload_n 1) 1 := (by decide +kernel : decode prog_14_method_118_code 10 = .ok (.iload_n 1, 1))
theorem d_M_jarsFor_11 : m_D k_M_jarsFor 11 (.i2l) 1 := (by decide +kernel : decode prog_14_method_118_code 11 = .ok (.i2l, 1))
theorem d_M_jarsFor_12 : m_D k_M_jarsFor 12 (.lconst 0) 1 := (by decide +kernel : decode prog_14_method_118_code 12 = .ok (.lconst 0, 1))
theorem d_M_jarsFor_13 : m_D k_M_jarsFor 13 (.iconst 1) 1 := (by decide +kernel : decode prog_14_method_118_code 13 = .ok (.iconst 1, 1))
theorem d_M_jarsFor_14 : m_D k_M_jarsFor 14 (.aload_n 0) 1 := (by decide +kernel : decode prog_14_method_118_code 14 = .ok (.aload_n 0, 1))
theorem d_M_jarsFor_15 : m_D k_M_jarsFor 15 (.getfield 35) 3 := (by decide +kernel : decode prog_14_method_118_code 15 = .ok (.getfield 35, 3))
theorem d_M_jarsFor_18 : m_D k_M_jarsFor 18 (.iconst 1) 1 := (by decide +kernel : decode prog_14_method_118_code 18 = .ok (.iconst 1, 1))
theorem d_M_jarsFor_19 : m_D k_M_jarsFor 19 (.iaload) 1 := (by decide +kernel : decode prog_14_method_118_code 19 = .ok (.iaload, 1))
theorem d_M_jarsFor_20 : m_D k_M_jarsFor 20 (.ishl) 1 := (by decide +kernel : decode prog_14_method_118_code 20 = .ok (.ishl, 1))
theorem d_M_jarsFor_21 : m_D k_M_jarsFor 21 (.iconst 1) 1 := (by decide +kernel : decode prog_14_method_118_code 21 = .ok (.iconst 1, 1))
theorem d_M_jarsFor_22 : m_D k_M_jarsFor 22 (.isub) 1 := (by decide +kernel : decode prog_14_method_118_code 22 = .ok (.isub, 1))
theorem d_M_jarsFor_23 : m_D k_M_jarsFor 23 (.i2l) 1 := (by decide +kernel : decode prog_14_method_118_code 23 = .ok (.i2l, 1))
theorem d_M_jarsFor_24 : m_D k_M_jarsFor 24 (.invokestatic 116) 3 := (by decide +kernel : decode prog_14_method_118_code 24 = .ok (.invokestatic 116, 3))
theorem d_M_jarsFor_27 : m_D k_M_jarsFor 27 (.ifCond .eq 15) 3 := (by decide +kernel : decode prog_14_method_118_code 27 = .ok (.ifCond .eq 15, 3))
theorem d_M_jarsFor_30 : m_D k_M_jarsFor 30 (.iload_n 2) 1 := (by decide +kernel : decode prog_14_method_118_code 30 = .ok (.iload_n 2, 1))
theorem d_M_jarsFor_31 : m_D k_M_jarsFor 31 (.i2l) 1 := (by decide +kernel : decode prog_14_method_118_code 31 = .ok (.i2l, 1))
theorem d_M_jarsFor_32 : m_D k_M_jarsFor 32 (.lconst 0) 1 := (by decide +kernel : decode prog_14_method_118_code 32 = .ok (.lconst 0, 1))
theorem d_M_jarsFor_33 : m_D k_M_jarsFor 33 (.ldc2_w 179) 3 := (by decide +kernel : decode prog_14_method_118_code 33 = .ok (.ldc2_w 179, 3))
theorem d_M_jarsFor_36 : m_D k_M_jarsFor 36 (.invokestatic 116) 3 := (by decide +kernel : decode prog_14_method_118_code 36 = .ok (.invokestatic 116, 3))
theorem d_M_jarsFor_39 : m_D k_M_jarsFor 39 (.ifCond .ne 9) 3 := (by decide +kernel : decode prog_14_method_118_code 39 = .ok (.ifCond .ne 9, 3))
theorem d_M_jarsFor_42 : m_D k_M_jarsFor 42 (.aload_n 0) 1 := (by decide +kernel : decode prog_14_method_118_code 42 = .ok (.aload_n 0, 1))
theorem d_M_jarsFor_43 : m_D k_M_jarsFor 43 (.iconst 5) 1 := (by decide +kernel : decode prog_14_method_118_code 43 = .ok (.iconst 5, 1))
theorem d_M_jarsFor_44 : m_D k_M_jarsFor 44 (.invokevirtual 331) 3 := (by decide +kernel : decode prog_14_method_118_code 44 = .ok (.invokevirtual 331, 3))
theorem d_M_jarsFor_47 : m_D k_M_jarsFor 47 (.ireturn) 1 := (by decide +kernel : decode prog_14_method_118_code 47 = .ok (.ireturn, 1))
theorem d_M_jarsFor_48 : m_D k_M_jarsFor 48 (.iconst 0) 1 := (by decide +kernel : decode prog_14_method_118_code 48 = .ok (.iconst 0, 1))
theorem d_M_jarsFor_49 : m_D k_M_jarsFor 49 (.istore_n 3) 1 := (by decide +kernel : decode prog_14_method_118_code 49 = .ok (.istore_n 3, 1))
theorem d_M_jarsFor_50 : m_D k_M_jarsFor 50 (.iconst 0) 1 := (by decide +kernel : decode prog_14_method_118_code 50 = .ok (.iconst 0, 1))
theorem d_M_jarsFor_51 : m_D k_M_jarsFor 51 (.istore 4) 2 := (by decide +kernel : decode prog_14_method_118_code 51 = .ok (.istore 4, 2))
theorem d_M_jarsFor_53 : m_D k_M_jarsFor 53 (.iload 4) 2 := (by decide +kernel : decode prog_14_method_118_code 53 = .ok (.iload 4, 2))
theorem d_M_jarsFor_55 : m_D k_M_jarsFor 55 (.aload_n 0) 1 := (by decide +kernel : decode prog_14_method_118_code 55 = .ok (.aload_n 0, 1))
theorem d_M_jarsFor_56 : m_D k_M_jarsFor 56 (.getfield 35) 3 := (by decide +kernel : decode prog_14_method_118_code 56 = .ok (.getfield 35, 3))
theorem d_M_jarsFor_59 : m_D k_M_jarsFor 59 (.iconst 1) 1 := (by decide +kernel : decode prog_14_method_118_code 59 = .ok (.iconst 1, 1))
theorem d_M_jarsFor_60 : m_D k_M_jarsFor 60 (.iaload) 1 := (by decide +kernel : decode prog_14_method_118_code 60 = .ok (.iaload, 1))
theorem d_M_jarsFor_61 : m_D k_M_jarsFor 61 (.if_icmp .ge 48) 3 := (by decide +kernel : decode prog_14_method_118_code 61 = .ok (.if_icmp .ge 48, 3))
theorem d_M_jarsFor_64 : m_D k_M_jarsFor 64 (.iload_n 1) 1 := (by decide +kernel : decode prog_14_method_118_code 64 = .ok (.iload_n 1, 1))
theorem d_M_jarsFor_65 : m_D k_M_jarsFor 65 (.iload 4) 2 := (by decide +kernel : decode prog_14_method_118_code 65 = .ok (.iload 4, 2))
theorem d_M_jarsFor_67 : m_D k_M_jarsFor 67 (.invokestatic 120) 3 := (by decide +kernel : decode prog_14_method_118_code 67 = .ok (.invokestatic 120, 3))
theorem d_M_jarsFor_70 : m_D k_M_jarsFor 70 (.ifCond .eq 13) 3 := (by decide +kernel : decode prog_14_method_118_code 70 = .ok (.ifCond .eq 13, 3))
theorem d_M_jarsFor_73 : m_D k_M_jarsFor 73 (.aload_n 0) 1 := (by decide +kernel : decode prog_14_method_118_code 73 = .ok (.aload_n 0, 1))
theorem d_M_jarsFor_74 : m_D k_M_jarsFor 74 (.iload 4) 2 := (by decide +kernel : decode prog_14_method_118_code 74 = .ok (.iload 4, 2))
theorem d_M_jarsFor_76 : m_D k_M_jarsFor 76 (.iload_n 2) 1 := (by decide +kernel : decode prog_14_method_118_code 76 = .ok (.iload_n 2, 1))
theorem d_M_jarsFor_77 : m_D k_M_jarsFor 77 (.invokevirtual 436) 3 := (by decide +kernel : decode prog_14_method_118_code 77 = .ok (.invokevirtual 436, 3))
theorem d_M_jarsFor_80 : m_D k_M_jarsFor 80 (.goto 4) 3 := (by decide +kernel : decode prog_14_method_118_code 80 = .ok (.goto 4, 3))
theorem d_M_jarsFor_83 : m_D k_M_jarsFor 83 (.iconst 0) 1 := (by decide +kernel : decode prog_14_method_118_code 83 = .ok (.iconst 0, 1))
theorem d_M_jarsFor_84 : m_D k_M_jarsFor 84 (.istore 5) 2 := (by decide +kernel : decode prog_14_method_118_code 84 = .ok (.istore 5, 2))
theorem d_M_jarsFor_86 : m_D k_M_jarsFor 86 (.iload 5) 2 := (by decide +kernel : decode prog_14_method_118_code 86 = .ok (.iload 5, 2))
theorem d_M_jarsFor_88 : m_D k_M_jarsFor 88 (.ifCond .ge 10) 3 := (by decide +kernel : decode prog_14_method_118_code 88 = .ok (.ifCond .ge 10, 3))
theorem d_M_jarsFor_91 : m_D k_M_jarsFor 91 (.aload_n 0) 1 := (by decide +kernel : decode prog_14_method_118_code 91 = .ok (.aload_n 0, 1))
theorem d_M_jarsFor_92 : m_D k_M_jarsFor 92 (.bipush 8) 2 := (by decide +kernel : decode prog_14_method_118_code 92 = .ok (.bipush 8, 2))
theorem d_M_jarsFor_94 : m_D k_M_jarsFor 94 (.invokevirtual 331) 3 := (by decide +kernel : decode prog_14_method_118_code 94 = .ok (.invokevirtual 331, 3))
theorem d_M_jarsFor_97 : m_D k_M_jarsFor 97 (.ireturn) 1 := (by decide +kernel : decode prog_14_method_118_code 97 = .ok (.ireturn, 1))
theorem d_M_jarsFor_98 : m_D k_M_jarsFor 98 (.iload_n 3) 1 := (by decide +kernel : decode prog_14_method_118_code 98 = .ok (.iload_n 3, 1))
theorem d_M_jarsFor_99 : m_D k_M_jarsFor 99 (.iload 5) 2 := (by decide +kernel : decode prog_14_method_118_code 99 = .ok (.iload 5, 2))
theorem d_M_jarsFor_101 : m_D k_M_jarsFor 101 (.iadd) 1 := (by decide +kernel : decode prog_14_method_118_code 101 = .ok (.iadd, 1))
theorem d_M_jarsFor_102 : m_D k_M_jarsFor 102 (.istore_n 3) 1 := (by decide +kernel : decode prog_14_method_118_code 102 = .ok (.istore_n 3, 1))
theorem d_M_jarsFor_103 : m_D k_M_jarsFor 103 (.iinc 4 1) 3 := (by decide +kernel : decode prog_14_method_118_code 103 = .ok (.iinc 4 1, 3))
theorem d_M_jarsFor_106 : m_D k_M_jarsFor 106 (.goto (-53)) 3 := (by decide +kernel : decode prog_14_method_118_code 106 = .ok (.goto (-53), 3))
theorem d_M_jarsFor_109 : m_D k_M_jarsFor 109 (.iload_n 3) 1 := (by decide +kernel : decode prog_14_method_118_code 109 = .ok (.iload_n 3, 1))
theorem d_M_jarsFor_110 : m_D k_M_jarsFor 110 (.ireturn) 1 := (by decide +kernel : decode prog_14_method_118_code 110 = .ok (.ireturn, 1))
def fn_M_jarsFor_l53 (x0 : Option mA) (x1 : Int32) (x2 : Int32) (t6 : Int32 × Int32) : mP ((Int32 × Int32) ⊕ (Int32)) :=
  m_bd (m_gR 11 20 x0) fun v7 =>
  m_bd (m_aI 0 v7 1) fun v8 =>
  if v8 ≤ t6.2 then
    m_rt (.inr t6.1)
  else
    m_bd (fn_M_has x1 t6.2) fun v9 =>
    m_bd (α := Int32) (
      if v9 = 0 then
        m_rt 0
      else
        m_bd (fn_M_jarsOf x0 t6.2 x2) fun v10 =>
        m_rt v10
      ) fun (t11 : Int32) =>
    if 0 ≤ t11 then
      m_rt (.inl ((t6.1 + t11), (t6.2 + 1)))
    else
      m_bd (fn_M_refuse x0 8) fun v12 =>
      m_rt (.inr v12)
def fn_M_jarsFor (x0 : Option mA) (x1 : Int32) (x2 : Int32) : mP Int32 :=
  m_th 11 x0 <|
  m_bd (m_pI 11 1 x0 0) fun _ =>
  m_bd (m_pI 11 0 x0 0) fun _ =>
  m_bd (m_gR 11 20 x0) fun v1 =>
  m_bd (m_aI 0 v1 1) fun v2 =>
  m_bd (fn_M_isIn (x1).toInt64 0 (((1 <<< (v2 &&& 31)) - 1)).toInt64) fun v3 =>
  if v3 = 0 then
    m_bd (fn_M_refuse x0 5) fun v4 =>
    m_rt v4
  else
    m_bd (fn_M_isIn (x2).toInt64 0 8) fun v5 =>
    if v5 = 0 then
      m_bd (fn_M_refuse x0 5) fun v13 =>
      m_rt v13
    else
      m_lp (fn_M_jarsFor_l53 x0 x1 x2) m_F (0, 0)
set_option maxHeartbeats 4000000 in
set_option maxRecDepth 100000 in
theorem sd_M_jarsFor (x0 : Option mA) (x1 : Int32) (x2 : Int32) : m_Sm k_M_jarsFor 7 0 0 [.inr (.inr x0), .inl x1, .inl x2] (fn_M_jarsFor x0 x1 x2) (fun b => some (.inl b)) := by
  refine ⟨Nat.le_of_ble_eq_true rfl, ?_⟩
  refine sm_th ?_
  refine sm_aload_n (i := 0) (j := 0) (pc' := 1) d_M_jarsFor_0 rfl rfl rfl (sm_iconst (pc' := 2) d_M_jarsFor_1 rfl ic_0 (sm_putI (pc' := 5) d_M_jarsFor_2 rfl fl_M_81 (Or.inl rfl) rfl (sm_aload_n (i := 0) (j := 0) (pc' := 6) d_M_jarsFor_5 rfl rfl rfl (sm_iconst (pc' := 7) d_M_jarsFor_6 rfl ic_0 (sm_putI (pc' := 10) d_M_jarsFor_7 rfl fl_M_84 (Or.inl rfl) rfl (sm_iload_n (i := 1) (j := 1) (pc' := 11) d_M_jarsFor_10 rfl rfl rfl (sm_i2l (pc' := 12) d_M_jarsFor_11 rfl (sm_lconst (pc' := 13) (v := 0) d_M_jarsFor_12 rfl rfl (sm_iconst (pc' := 14) d_M_jarsFor_13 rfl ic_1 ?_)))))))))
  refine sm_aload_n (i := 0) (j := 0) (pc' := 15) d_M_jarsFor_14 rfl rfl rfl ?_
  refine sm_getR (pc' := 18) d_M_jarsFor_15 rfl fl_M_35 rfl rfl (fun v1 => ?_)
  refine sm_iconst (pc' := 19) d_M_jarsFor_18 rfl ic_1 ?_
  refine sm_iald (pc' := 20) d_M_jarsFor_19 rfl (fun v2 => ?_)
  refine sm_ishl (pc' := 21) d_M_jarsFor_20 rfl (sm_iconst (pc' := 22) d_M_jarsFor_21 rfl ic_1 (sm_isub (pc' := 23) d_M_jarsFor_22 rfl (sm_i2l (pc' := 24) d_M_jarsFor_23 rfl ?_)))
  refine sm_callSi (av := [.inr (.inl (x1).toInt64), .inr (.inl 0), .inr (.inl (((1 <<< (v2 &&& 31)) - 1)).toInt64)]) (st := []) (mc := 0) (ms := 0) (pc' := 27) d_M_jarsFor_24 rfl (sd_M_isIn (x1).toInt64 0 (((1 <<< (v2 &&& 31)) - 1)).toInt64) cs_M_isIn w_ml_M_116 rfl rfl (by decide) (Nat.le_of_ble_eq_true rfl) rfl rfl (fun v3 => ?_)
  refine sm_if_eq (tgt := 42) (pc' := 30) d_M_jarsFor_27 rfl rfl ?_ ?_
  · refine sm_aload_n (i := 0) (j := 0) (pc' := 43) d_M_jarsFor_42 rfl rfl rfl (sm_iconst (pc' := 44) d_M_jarsFor_43 rfl ic_5 ?_)
    refine sm_callVi (ci := 11) (x := x0) (av := [.inl 5]) (st := []) (mc := 0) (ms := 0) (pc' := 47) d_M_jarsFor_44 rfl (sd_M_refuse x0 5) m_lv rfl cv_M_refuse w_ml_M_331 rfl rfl (by decide) (Nat.le_of_ble_eq_true rfl) rfl rfl (fun v4 => ?_)
    exact sm_ireturn d_M_jarsFor_47 rfl rfl
  · refine sm_iload_n (i := 2) (j := 2) (pc' := 31) d_M_jarsFor_30 rfl rfl rfl (sm_i2l (pc' := 32) d_M_jarsFor_31 rfl (sm_lconst (pc' := 33) (v := 0) d_M_jarsFor_32 rfl rfl (sm_ldc2 (v := 8) (pc' := 36) d_M_jarsFor_33 rfl w_cl_M_179 ?_)))
    refine sm_callSi (av := [.inr (.inl (x2).toInt64), .inr (.inl 0), .inr (.inl 8)]) (st := []) (mc := 0) (ms := 0) (pc' := 39) d_M_jarsFor_36 rfl (sd_M_isIn (x2).toInt64 0 8) cs_M_isIn w_ml_M_116 rfl rfl (by decide) (Nat.le_of_ble_eq_true rfl) rfl rfl (fun v5 => ?_)
    refine sm_if_ne (tgt := 48) (pc' := 42) d_M_jarsFor_39 rfl rfl ?_ ?_
    · refine sm_iconst (pc' := 49) d_M_jarsFor_48 rfl ic_0 (sm_istore_n (i := 3) (L' := [(3, .inl 0), (0, .inr (.inr x0)), (1, .inl x1), (2, .inl x2)]) (pc' := 50) d_M_jarsFor_49 rfl rfl (Nat.le_of_ble_eq_true rfl) rfl (sm_iconst (pc' := 51) d_M_jarsFor_50 rfl ic_0 (sm_istore (L' := [(4, .inl 0), (3, .inl 0), (0, .inr (.inr x0)), (1, .inl x1), (2, .inl x2)]) (pc' := 53) d_M_jarsFor_51 rfl (Nat.le_of_ble_eq_true rfl) rfl ?_)))
      refine sm_sub [1, 0, 2, 3, 4] rfl ?_
      refine sm_lp (hd := fun (t6 : Int32 × Int32) => (.inl (53, [(3, .inl t6.1), (4, .inl t6.2), (0, .inr (.inr x0)), (1, .inl x1), (2, .inl x2)], []) : mC)) (fun t6 => ?_) m_F (0, 0)
      refine sm_iload (j := 1) (pc' := 55) d_M_jarsFor_53 rfl rfl (sm_aload_n (i := 0) (j := 2) (pc' := 56) d_M_jarsFor_55 rfl rfl rfl ?_)
      refine sm_getR (pc' := 59) d_M_jarsFor_56 rfl fl_M_35 rfl rfl (fun v7 => ?_)
      refine sm_iconst (pc' := 60) d_M_jarsFor_59 rfl ic_1 ?_
      refine sm_iald (pc' := 61) d_M_jarsFor_60 rfl (fun v8 => ?_)
      refine sm_icmp_ge (tgt := 109) (pc' := 64) d_M_jarsFor_61 rfl rfl ?_ ?_
      · refine sm_iload_n (i := 3) (j := 0) (pc' := 110) d_M_jarsFor_109 rfl rfl rfl ?_
        exact sm_ireturn d_M_jarsFor_110 rfl rfl
      · refine sm_iload_n (i := 1) (j := 3) (pc' := 65) d_M_jarsFor_64 rfl rfl rfl (sm_iload (j := 1) (pc' := 67) d_M_jarsFor_65 rfl rfl ?_)
        refine sm_callSi (av := [.inl x1, .inl t6.2]) (st := []) (mc := 0) (ms := 0) (pc' := 70) d_M_jarsFor_67 rfl (sd_M_has x1 t6.2) cs_M_has w_ml_M_120 rfl rfl (by decide) (Nat.le_of_ble_eq_true rfl) rfl rfl (fun v9 => ?_)
        refine sm_bd (mid := fun (t11 : Int32) => .inl (84, [(0, .inr (.inr x0)), (1, .inl x1), (2, .inl x2), (3, .inl t6.1), (4, .inl t6.2)], [.inl t11])) ?_ (fun t11 => ?_)
        · refine sm_if_eq (tgt := 83) (pc' := 73) d_M_jarsFor_70 rfl rfl ?_ ?_
          · refine sm_iconst (pc' := 84) d_M_jarsFor_83 rfl ic_0 (sm_sub [2, 3, 4, 0, 1] rfl ?_)
            exact sm_rt rfl
          · refine sm_aload_n (i := 0) (j := 2) (pc' := 74) d_M_jarsFor_73 rfl rfl rfl (sm_iload (j := 1) (pc' := 76) d_M_jarsFor_74 rfl rfl (sm_iload_n (i := 2) (j := 4) (pc' := 77) d_M_jarsFor_76 rfl rfl rfl ?_))
            refine sm_callVi (ci := 11) (x := x0) (av := [.inl t6.2, .inl x2]) (st := []) (mc := 0) (ms := 0) (pc' := 80) d_M_jarsFor_77 rfl (sd_M_jarsOf x0 t6.2 x2) m_lv rfl cv_M_jarsOf w_ml_M_436 rfl rfl (by decide) (Nat.le_of_ble_eq_true rfl) rfl rfl (fun v10 => ?_)
            refine sm_goto (tgt := 84) d_M_jarsFor_80 rfl (sm_sub [2, 3, 4, 0, 1] rfl ?_)
            exact sm_rt rfl
        · refine sm_istore (L' := [(5, .inl t11), (0, .inr (.inr x0)), (1, .inl x1), (2, .inl x2), (3, .inl t6.1), (4, .inl t6.2)]) (pc' := 86) d_M_jarsFor_84 rfl (Nat.le_of_ble_eq_true rfl) rfl (sm_iload (j := 0) (pc' := 88) d_M_jarsFor_86 rfl rfl ?_)
          refine sm_if_ge (tgt := 98) (pc' := 91) d_M_jarsFor_88 rfl rfl ?_ ?_
          · refine sm_iload_n (i := 3) (j := 4) (pc' := 99) d_M_jarsFor_98 rfl rfl rfl (sm_iload (j := 0) (pc' := 101) d_M_jarsFor_99 rfl rfl (sm_iadd (pc' := 102) d_M_jarsFor_101 rfl (sm_istore_n (i := 3) (L' := [(3, .inl (t6.1 + t11)), (5, .inl t11), (0, .inr (.inr x0)), (1, .inl x1), (2, .inl x2), (4, .inl t6.2)]) (pc' := 103) d_M_jarsFor_102 rfl rfl (Nat.le_of_ble_eq_true rfl) rfl (sm_iinc (j := 5) (L' := [(4, .inl (t6.2 + 1)), (3, .inl (t6.1 + t11)), (5, .inl t11), (0, .inr (.inr x0)), (1, .inl x1), (2, .inl x2)]) (pc' := 106) d_M_jarsFor_103 rfl (v := (t6.2 + 1)) rfl (ix_1 _) (Nat.le_of_ble_eq_true rfl) rfl (sm_goto (tgt := 53) d_M_jarsFor_106 rfl (sm_sub [1, 0, 3, 4, 5] rfl ?_))))))
            exact sm_rt rfl
          · refine sm_aload_n (i := 0) (j := 1) (pc' := 92) d_M_jarsFor_91 rfl rfl rfl (sm_bipush (pc' := 94) d_M_jarsFor_92 rfl ib_8 ?_)
            refine sm_callVi (ci := 11) (x := x0) (av := [.inl 8]) (st := []) (mc := 0) (ms := 0) (pc' := 97) d_M_jarsFor_94 rfl (sd_M_refuse x0 8) m_lv rfl cv_M_refuse w_ml_M_331 rfl rfl (by decide) (Nat.le_of_ble_eq_true rfl) rfl rfl (fun v12 => ?_)
            exact sm_ireturn d_M_jarsFor_97 rfl rfl
    · refine sm_aload_n (i := 0) (j := 0) (pc' := 43) d_M_jarsFor_42 rfl rfl rfl (sm_iconst (pc' := 44) d_M_jarsFor_43 rfl ic_5 ?_)
      refine sm_callVi (ci := 11) (x := x0) (av := [.inl 5]) (st := []) (mc := 0) (ms := 0) (pc' := 47) d_M_jarsFor_44 rfl (sd_M_refuse x0 5) m_lv rfl cv_M_refuse w_ml_M_331 rfl rfl (by decide) (Nat.le_of_ble_eq_true rfl) rfl rfl (fun v13 => ?_)
      exact sm_ireturn d_M_jarsFor_47 rfl rfl
theorem d_M_less_0 : m_D k_M_less 0 (.aload_n 0) 1 := (by decide +kernel : decode prog_14_method_119_code 0 = .ok (.aload_n 0, 1))
theorem d_M_less_1 : m_D k_M_less 1 (.iconst 0) 1 := (by decide +kernel : decode prog_14_method_119_code 1 = .ok (.iconst 0, 1))
theorem d_M_less_2 : m_D k_M_less 2 (.putfield 81) 3 := (by decide +kernel : decode prog_14_method_119_code 2 = .ok (.putfield 81, 3))
theorem d_M_less_5 : m_D k_M_less 5 (.aload_n 0) 1 := (by decide +kernel : decode prog_14_method_119_code 5 = .ok (.aload_n 0, 1))
theorem d_M_less_6 : m_D k_M_less 6 (.iconst 0) 1 := (by decide +kernel : decode prog_14_method_119_code 6 = .ok (.iconst 0, 1))
theorem d_M_less_7 : m_D k_M_less 7 (.putfield 84) 3 := (by decide +kernel : decode prog_14_method_119_code 7 = .ok (.putfield 84, 3))
theorem d_M_less_10 : m_D k_M_less 10 (.aload_n 0) 1 := (by decide +kernel : decode prog_14_method_119_code 10 = .ok (.aload_n 0, 1))
theorem d_M_less_11 : m_D k_M_less 11 (.iload_n 1) 1 := (by decide +kernel : decode prog_14_method_119_code 11 = .ok (.iload_n 1, 1))
theorem d_M_less_12 : m_D k_M_less 12 (.invokevirtual 349) 3 := (by decide +kernel : decode prog_14_method_119_code 12 = .ok (.invokevirtual 349, 3))
theorem d_M_less_15 : m_D k_M_less 15 (.ifCond .eq 11) 3 := (by decide +kernel : decode prog_14_method_119_code 15 = .ok (.ifCond .eq 11, 3))
theorem d_M_less_18 : m_D k_M_less 18 (.aload_n 0) 1 := (by decide +kernel : decode prog_14_method_119_code 18 = .ok (.aload_n 0, 1))
theorem d_M_less_19 : m_D k_M_less 19 (.iload_n 2) 1 := (by decide +kernel : decode prog_14_method_119_code 19 = .ok (.iload_n 2, 1))
theorem d_M_less_20 : m_D k_M_less 20 (.invokevirtual 357) 3 := (by decide +kernel : decode prog_14_method_119_code 20 = .ok (.invokevirtual 357, 3))
theorem d_M_less_23 : m_D k_M_less 23 (.ifCond .ne 9) 3 := (by decide +kernel : decode prog_14_method_119_code 23 = .ok (.ifCond .ne 9, 3))
theorem d_M_less_26 : m_D k_M_less 26 (.aload_n 0) 1 := (by decide +kernel : decode prog_14_method_119_code 26 = .ok (.aload_n 0, 1))
theorem d_M_less_27 : m_D k_M_less 27 (.iconst 2) 1 := (by decide +kernel : decode prog_14_method_119_code 27 = .ok (.iconst 2, 1))
theorem d_M_less_28 : m_D k_M_less 28 (.invokevirtual 331) 3 := (by decide +kernel : decode prog_14_method_119_code 28 = .ok (.invokevirtual 331, 3))
theorem d_M_less_31 : m_D k_M_less 31 (.ireturn) 1 := (by decide +kernel : decode prog_14_method_119_code 31 = .ok (.ireturn, 1))
theorem d_M_less_32 : m_D k_M_less 32 (.iload_n 3) 1 := (by decide +kernel : decode prog_14_method_119_code 32 = .ok (.iload_n 3, 1))
theorem d_M_less_33 : m_D k_M_less 33 (.i2l) 1 := (by decide +kernel : decode prog_14_method_119_code 33 = .ok (.i2l, 1))
theorem d_M_less_34 : m_D k_M_less 34 (.lconst 0) 1 := (by decide +kernel : decode prog_14_method_119_code 34 = .ok (.lconst 0, 1))
theorem d_M_less_35 : m_D k_M_less 35 (.ldc2_w 427) 3 := (by decide +kernel : decode prog_14_method_119_code 35 = .ok (.ldc2_w 427, 3))
theorem d_M_less_38 : m_D k_M_less 38 (.invokestatic 116) 3 := (by decide +kernel : decode prog_14_method_119_code 38 = .ok (.invokestatic 116, 3))
theorem d_M_less_41 : m_D k_M_less 41 (.ifCond .ne 9) 3 := (by decide +kernel : decode prog_14_method_119_code 41 = .ok (.ifCond .ne 9, 3))
theorem d_M_less_44 : m_D k_M_less 44 (.aload_n 0) 1 := (by decide +kernel : decode prog_14_method_119_code 44 = .ok (.aload_n 0, 1))
theorem d_M_less_45 : m_D k_M_less 45 (.iconst 5) 1 := (by decide +kernel : decode prog_14_method_119_code 45 = .ok (.iconst 5, 1))
theorem d_M_less_46 : m_D k_M_less 46 (.invokevirtual 331) 3 := (by decide +kernel : decode prog_14_method_119_code 46 = .ok (.invokevirtual 331, 3))
theorem d_M_less_49 : m_D k_M_less 49 (.ireturn) 1 := (by decide +kernel : decode prog_14_method_119_code 49 = .ok (.ireturn, 1))
theorem d_M_less_50 : m_D k_M_less 50 (.aload_n 0) 1 := (by decide +kernel : decode prog_14_method_119_code 50 = .ok (.aload_n 0, 1))
theorem d_M_less_51 : m_D k_M_less 51 (.iload_n 1) 1 := (by decide +kernel : decode prog_14_method_119_code 51 = .ok (.iload_n 1, 1))
theorem d_M_less_52 : m_D k_M_less 52 (.iload_n 2) 1 := (by decide +kernel : decode prog_14_method_119_code 52 = .ok (.iload_n 2, 1))
theorem d_M_less_53 : m_D k_M_less 53 (.invokevirtual 316) 3 := (by decide +kernel : decode prog_14_method_119_code 53 = .ok (.invokevirtual 316, 3))
theorem d_M_less_56 : m_D k_M_less 56 (.istore 4) 2 := (by decide +kernel : decode prog_14_method_119_code 56 = .ok (.istore 4, 2))
theorem d_M_less_58 : m_D k_M_less 58 (.iconst (-1)) 1 := (by decide +kernel : decode prog_14_method_119_code 58 = .ok (.iconst (-1), 1))
theorem d_M_less_59 : m_D k_M_less 59 (.istore 5) 2 := (by decide +kernel : decode prog_14_method_119_code 59 = .ok (.istore 5, 2))
theorem d_M_less_61 : m_D k_M_less 61 (.iconst 0) 1 := (by decide +kernel : decode prog_14_method_119_code 61 = .ok (.iconst 0, 1))
theorem d_M_less_62 : m_D k_M_less 62 (.istore 6) 2 := (by decide +kernel : decode prog_14_method_119_code 62 = .ok (.istore 6, 2))
theorem d_M_less_64 : m_D k_M_less 64 (.iload 6) 2 := (by decide +kernel : decode prog_14_method_119_code 64 = .ok (.iload 6, 2))
theorem d_M_less_66 : m_D k_M_less 66 (.iload 4) 2 := (by decide +kernel : decode prog_14_method_119_code 66 = .ok (.iload 4, 2))
theorem d_M_less_68 : m_D k_M_less 68 (.if_icmp .gt 47) 3 := (by decide +kernel : decode prog_14_method_119_code 68 = .ok (.if_icmp .gt 47, 3))
theorem d_M_less_71 : m_D k_M_less 71 (.iload 5) 2 := (by decide +kernel : decode prog_14_method_119_code 71 = .ok (.iload 5, 2))
theorem d_M_less_73 : m_D k_M_less 73 (.ifCond .ge 42) 3 := (by decide +kernel : decode prog_14_method_119_code 73 = .ok (.ifCond .ge 42, 3))
theorem d_M_less_76 : m_D k_M_less 76 (.aload_n 0) 1 := (by decide +kernel : decode prog_14_method_119_code 76 = .ok (.aload_n 0, 1))
theorem d_M_less_77 : m_D k_M_less 77 (.getfield 35) 3 := (by decide +kernel : decode prog_14_method_119_code 77 = .ok (.getfield 35, 3))
theorem d_M_less_80 : m_D k_M_less 80 (.bipush 57) 2 := (by decide +kernel : decode prog_14_method_119_code 80 = .ok (.bipush 57, 2))
theorem d_M_less_82 : m_D k_M_less 82 (.bipush 8) 2 := (by decide +kernel : decode prog_14_method_119_code 82 = .ok (.bipush 8, 2))
theorem d_M_less_84 : m_D k_M_less 84 (.iload_n 1) 1 := (by decide +kernel : decode prog_14_method_119_code 84 = .ok (.iload_n 1, 1))
theorem d_M_less_85 : m_D k_M_less 85 (.imul) 1 := (by decide +kernel : decode prog_14_method_119_code 85 = .ok (.imul, 1))
theorem d_M_less_86 : m_D k_M_less 86 (.iadd) 1 := (by decide +kernel : decode prog_14_method_119_code 86 = .ok (.iadd, 1))
theorem d_M_less_87 : m_D k_M_less 87 (.iload_n 2) 1 := (by decide +kernel : decode prog_14_method_119_code 87 = .ok (.iload_n 2, 1))
theorem d_M_less_88 : m_D k_M_less 88 (.iadd) 1 := (by decide +kernel : decode prog_14_method_119_code 88 = .ok (.iadd, 1))
theorem d_M_less_89 : m_D k_M_less 89 (.iload 4) 2 := (by decide +kernel : decode prog_14_method_119_code 89 = .ok (.iload 4, 2))
theorem d_M_less_91 : m_D k_M_less 91 (.iload 6) 2 := (by decide +kernel : decode prog_14_method_119_code 91 = .ok (.iload 6, 2))
theorem d_M_less_93 : m_D k_M_less 93 (.isub) 1 := (by decide +kernel : decode prog_14_method_119_code 93 = .ok (.isub, 1))
theorem d_M_less_94 : m_D k_M_less 94 (.iastore) 1 := (by decide +kernel : decode prog_14_method_119_code 94 = .ok (.iastore, 1))
theorem d_M_less_95 : m_D k_M_less 95 (.aload_n 0) 1 := (by decide +kernel : decode prog_14_method_119_code 95 = .ok (.aload_n 0, 1))
theorem d_M_less_96 : m_D k_M_less 96 (.iload_n 2) 1 := (by decide +kernel : decode prog_14_method_119_code 96 = .ok (.iload_n 2, 1))
theorem d_M_less_97 : m_D k_M_less 97 (.iload_n 3) 1 := (by decide +kernel : decode prog_14_method_119_code 97 = .ok (.iload_n 3, 1))
theorem d_M_less_98 : m_D k_M_less 98 (.iconst 0) 1 := (by decide +kernel : decode prog_14_method_119_code 98 = .ok (.iconst 0, 1))
theorem d_M_less_99 : m_D k_M_less 99 (.invokevirtual 432) 3 := (by decide +kernel : decode prog_14_method_119_code 99 = .ok (.invokevirtual 432, 3))
theorem d_M_less_102 : m_D k_M_less 102 (.ifCond .eq 7) 3 := (by decide +kernel : decode prog_14_method_119_code 102 = .ok (.ifCond .eq 7, 3))
theorem d_M_less_105 : m_D k_M_less 105 (.iload 6) 2 := (by decide +kernel : decode prog_14_method_119_code 105 = .ok (.iload 6, 2))
theorem d_M_less_107 : m_D k_M_less 107 (.istore 5) 2 := (by decide +kernel : decode prog_14_method_119_code 107 = .ok (.istore 5, 2))
theorem d_M_less_109 : m_D k_M_less 109 (.iinc 6 1) 3 := (by decide +kernel : decode prog_14_method_119_code 109 = .ok (.iinc 6 1, 3))
theorem d_M_less_112 : m_D k_M_less 112 (.goto (-48)) 3 := (by decide +kernel : decode prog_14_method_119_code 112 = .ok (.goto (-48), 3))
theorem d_M_less_115 : m_D k_M_less 115 (.aload_n 0) 1 := (by decide +kernel : decode prog_14_method_119_code 115 = .ok (.aload_n 0, 1))
theorem d_M_less_116 : m_D k_M_less 116 (.getfield 35) 3 := (by decide +kernel : decode prog_14_method_119_code 116 = .ok (.getfield 35, 3))
theorem d_M_less_119 : m_D k_M_less 119 (.bipush 57) 2 := (by decide +kernel : decode prog_14_method_119_code 119 = .ok (.bipush 57, 2))
theorem d_M_less_121 : m_D k_M_less 121 (.bipush 8) 2 := (by decide +kernel : decode prog_14_method_119_code 121 = .ok (.bipush 8, 2))
theorem d_M_less_123 : m_D k_M_less 123 (.iload_n 1) 1 := (by decide +kernel : decode prog_14_method_119_code 123 = .ok (.iload_n 1, 1))
theorem d_M_less_124 : m_D k_M_less 124 (.imul) 1 := (by decide +kernel : decode prog_14_method_119_code 124 = .ok (.imul, 1))
theorem d_M_less_125 : m_D k_M_less 125 (.iadd) 1 := (by decide +kernel : decode prog_14_method_119_code 125 = .ok (.iadd, 1))
theorem d_M_less_126 : m_D k_M_less 126 (.iload_n 2) 1 := (by decide +kernel : decode prog_14_method_119_code 126 = .ok (.iload_n 2, 1))
theorem d_M_less_127 : m_D k_M_less 127 (.iadd) 1 := (by decide +kernel : decode prog_14_method_119_code 127 = .ok (.iadd, 1))
theorem d_M_less_128 : m_D k_M_less 128 (.iload 4) 2 := (by decide +kernel : decode prog_14_method_119_code 128 = .ok (.iload 4, 2))
theorem d_M_less_130 : m_D k_M_less 130 (.iastore) 1 := (by decide +kernel : decode prog_14_method_119_code 130 = .ok (.iastore, 1))
theorem d_M_less_131 : m_D k_M_less 131 (.iload 5) 2 := (by decide +kernel : decode prog_14_method_119_code 131 = .ok (.iload 5, 2))
theorem d_M_less_133 : m_D k_M_less 133 (.ifCond .ge 12) 3 := (by decide +kernel : decode prog_14_method_119_code 133 = .ok (.ifCond .ge 12, 3))
theorem d_M_less_136 : m_D k_M_less 136 (.aload_n 0) 1 := (by decide +kernel : decode prog_14_method_119_code 136 = .ok (.aload_n 0, 1))
theorem d_M_less_137 : m_D k_M_less 137 (.bipush 8) 2 := (by decide +kernel : decode prog_14_method_119_code 137 = .ok (.bipush 8, 2))
theorem d_M_less_139 : m_D k_M_less 139 (.invokevirtual 331) 3 := (by decide +kernel : decode prog_14_method_119_code 139 = .ok (.invokevirtual 331, 3))
theorem d_M_less_142 : m_D k_M_less 142 (.goto 5) 3 := (by decide +kernel : decode prog_14_method_119_code 142 = .ok (.goto 5, 3))
theorem d_M_less_145 : m_D k_M_less 145 (.iload 5) 2 := (by decide +kernel : decode prog_14_method_119_code 145 = .ok (.iload 5, 2))
theorem d_M_less_147 : m_D k_M_less 147 (.ireturn) 1 := (by decide +kernel : decode prog_14_method_119_code 147 = .ok (.ireturn, 1))
def fn_M_less_l64 (x0 : Option mA) (x1 : Int32) (x2 : Int32) (x3 : Int32) (v5 : Int32) (t6 : Int32 × Int32) : mP ((Int32 × Int32) ⊕ (Int32)) :=
  if v5 < t6.2 then
    m_rt (.inr t6.1)
  else
    if 0 ≤ t6.1 then
      m_rt (.inr t6.1)
    else
      m_bd (m_gR 11 20 x0) fun v7 =>
      m_bd (m_tI 0 v7 ((57 + (8 * x1)) + x2) (v5 - t6.2)) fun _ =>
      m_bd (fn_M_lastsBy x0 x2 x3 0) fun v8 =>
      m_bd (α := Int32) (
        if v8 = 0 then
          m_rt t6.1
        else
          m_rt t6.2
        ) fun (t9 : Int32) =>
      m_rt (.inl (t9, (t6.2 + 1)))
def fn_M_less (x0 : Option mA) (x1 : Int32) (x2 : Int32) (x3 : Int32) : mP Int32 :=
  m_th 11 x0 <|
  m_bd (m_pI 11 1 x0 0) fun _ =>
  m_bd (m_pI 11 0 x0 0) fun _ =>
  m_bd (fn_M_isPersonAt x0 x1) fun v1 =>
  if v1 = 0 then
    m_bd (fn_M_refuse x0 2) fun v2 =>
    m_rt v2
  else
    m_bd (fn_M_isThingAt x0 x2) fun v3 =>
    if v3 = 0 then
      m_bd (fn_M_refuse x0 2) fun v14 =>
      m_rt v14
    else
      m_bd (fn_M_isIn (x3).toInt64 0 50) fun v4 =>
      if v4 = 0 then
        m_bd (fn_M_refuse x0 5) fun v13 =>
        m_rt v13
      else
        m_bd (fn_M_loveOf x0 x1 x2) fun v5 =>
        m_bd (m_lp (fn_M_less_l64 x0 x1 x2 x3 v5) m_F ((-1), 0)) fun (t10 : Int32) =>
        m_bd (m_gR 11 20 x0) fun v11 =>
        m_bd (m_tI 0 v11 ((57 + (8 * x1)) + x2) v5) fun _ =>
        if 0 ≤ t10 then
          m_rt t10
        else
          m_bd (fn_M_refuse x0 8) fun v12 =>
          m_rt v12
set_option maxHeartbeats 4000000 in
set_option maxRecDepth 100000 in
theorem sd_M_less (x0 : Option mA) (x1 : Int32) (x2 : Int32) (x3 : Int32) : m_Sm k_M_less 6 0 0 [.inr (.inr x0), .inl x1, .inl x2, .inl x3] (fn_M_less x0 x1 x2 x3) (fun b => some (.inl b)) := by
  refine ⟨Nat.le_of_ble_eq_true rfl, ?_⟩
  refine sm_th ?_
  refine sm_aload_n (i := 0) (j := 0) (pc' := 1) d_M_less_0 rfl rfl rfl (sm_iconst (pc' := 2) d_M_less_1 rfl ic_0 (sm_putI (pc' := 5) d_M_less_2 rfl fl_M_81 (Or.inl rfl) rfl (sm_aload_n (i := 0) (j := 0) (pc' := 6) d_M_less_5 rfl rfl rfl (sm_iconst (pc' := 7) d_M_less_6 rfl ic_0 (sm_putI (pc' := 10) d_M_less_7 rfl fl_M_84 (Or.inl rfl) rfl (sm_aload_n (i := 0) (j := 0) (pc' := 11) d_M_less_10 rfl rfl rfl (sm_iload_n (i := 1) (j := 1) (pc' := 12) d_M_less_11 rfl rfl rfl ?_)))))))
  refine sm_callVi (ci := 11) (x := x0) (av := [.inl x1]) (st := []) (mc := 0) (ms := 0) (pc' := 15) d_M_less_12 rfl (sd_M_isPersonAt x0 x1) m_lv rfl cv_M_isPersonAt w_ml_M_349 rfl rfl (by decide) (Nat.le_of_ble_eq_true rfl) rfl rfl (fun v1 => ?_)
  refine sm_if_eq (tgt := 26) (pc' := 18) d_M_less_15 rfl rfl ?_ ?_
  · refine sm_aload_n (i := 0) (j := 0) (pc' := 27) d_M_less_26 rfl rfl rfl (sm_iconst (pc' := 28) d_M_less_27 rfl ic_2 ?_)
    refine sm_callVi (ci := 11) (x := x0) (av := [.inl 2]) (st := []) (mc := 0) (ms := 0) (pc' := 31) d_M_less_28 rfl (sd_M_refuse x0 2) m_lv rfl cv_M_refuse w_ml_M_331 rfl rfl (by decide) (Nat.le_of_ble_eq_true rfl) rfl rfl (fun v2 => ?_)
    exact sm_ireturn d_M_less_31 rfl rfl
  · refine sm_aload_n (i := 0) (j := 0) (pc' := 19) d_M_less_18 rfl rfl rfl (sm_iload_n (i := 2) (j := 2) (pc' := 20) d_M_less_19 rfl rfl rfl ?_)
    refine sm_callVi (ci := 11) (x := x0) (av := [.inl x2]) (st := []) (mc := 0) (ms := 0) (pc' := 23) d_M_less_20 rfl (sd_M_isThingAt x0 x2) m_lv rfl cv_M_isThingAt w_ml_M_357 rfl rfl (by decide) (Nat.le_of_ble_eq_true rfl) rfl rfl (fun v3 => ?_)
    refine sm_if_ne (tgt := 32) (pc' := 26) d_M_less_23 rfl rfl ?_ ?_
    · refine sm_iload_n (i := 3) (j := 3) (pc' := 33) d_M_less_32 rfl rfl rfl (sm_i2l (pc' := 34) d_M_less_33 rfl (sm_lconst (pc' := 35) (v := 0) d_M_less_34 rfl rfl (sm_ldc2 (v := 50) (pc' := 38) d_M_less_35 rfl w_cl_M_427 ?_)))
      refine sm_callSi (av := [.inr (.inl (x3).toInt64), .inr (.inl 0), .inr (.inl 50)]) (st := []) (mc := 0) (ms := 0) (pc' := 41) d_M_less_38 rfl (sd_M_isIn (x3).toInt64 0 50) cs_M_isIn w_ml_M_116 rfl rfl (by decide) (Nat.le_of_ble_eq_true rfl) rfl rfl (fun v4 => ?_)
      refine sm_if_ne (tgt := 50) (pc' := 44) d_M_less_41 rfl rfl ?_ ?_
      · refine sm_aload_n (i := 0) (j := 0) (pc' := 51) d_M_less_50 rfl rfl rfl (sm_iload_n (i := 1) (j := 1) (pc' := 52) d_M_less_51 rfl rfl rfl (sm_iload_n (i := 2) (j := 2) (pc' := 53) d_M_less_52 rfl rfl rfl ?_))
        refine sm_callVi (ci := 11) (x := x0) (av := [.inl x1, .inl x2]) (st := []) (mc := 0) (ms := 0) (pc' := 56) d_M_less_53 rfl (sd_M_loveOf x0 x1 x2) m_lv rfl cv_M_loveOf w_ml_M_316 rfl rfl (by decide) (Nat.le_of_ble_eq_true rfl) rfl rfl (fun v5 => ?_)
        refine sm_istore (L' := [(4, .inl v5), (0, .inr (.inr x0)), (1, .inl x1), (2, .inl x2), (3, .inl x3)]) (pc' := 58) d_M_less_56 rfl (Nat.le_of_ble_eq_true rfl) rfl (sm_iconst (pc' := 59) d_M_less_58 rfl ic_m1 (sm_istore (L' := [(5, .inl (-1)), (4, .inl v5), (0, .inr (.inr x0)), (1, .inl x1), (2, .inl x2), (3, .inl x3)]) (pc' := 61) d_M_less_59 rfl (Nat.le_of_ble_eq_true rfl) rfl (sm_iconst (pc' := 62) d_M_less_61 rfl ic_0 (sm_istore (L' := [(6, .inl 0), (5, .inl (-1)), (4, .inl v5), (0, .inr (.inr x0)), (1, .inl x1), (2, .inl x2), (3, .inl x3)]) (pc' := 64) d_M_less_62 rfl (Nat.le_of_ble_eq_true rfl) rfl ?_))))
        refine sm_sub [1, 0, 3, 4, 5, 6, 2] rfl ?_
        refine sm_bd (mid := fun (t10 : Int32) => .inl (115, [(5, .inl t10), (0, .inr (.inr x0)), (1, .inl x1), (2, .inl x2), (4, .inl v5)], [])) (sm_lp (hd := fun (t6 : Int32 × Int32) => (.inl (64, [(5, .inl t6.1), (6, .inl t6.2), (0, .inr (.inr x0)), (1, .inl x1), (2, .inl x2), (3, .inl x3), (4, .inl v5)], []) : mC)) (fun t6 => ?_) m_F ((-1), 0)) (fun t10 => ?_)
        · refine sm_iload (j := 1) (pc' := 66) d_M_less_64 rfl rfl (sm_iload (j := 6) (pc' := 68) d_M_less_66 rfl rfl ?_)
          refine sm_icmp_gt (tgt := 115) (pc' := 71) d_M_less_68 rfl rfl ?_ ?_
          · refine sm_sub [0, 2, 3, 4, 6] rfl ?_
            exact sm_rt rfl
          · refine sm_iload (j := 0) (pc' := 73) d_M_less_71 rfl rfl ?_
            refine sm_if_ge (tgt := 115) (pc' := 76) d_M_less_73 rfl rfl ?_ ?_
            · refine sm_sub [0, 2, 3, 4, 6] rfl ?_
              exact sm_rt rfl
            · refine sm_aload_n (i := 0) (j := 2) (pc' := 77) d_M_less_76 rfl rfl rfl ?_
              refine sm_getR (pc' := 80) d_M_less_77 rfl fl_M_35 rfl rfl (fun v7 => ?_)
              refine sm_bipush (pc' := 82) d_M_less_80 rfl ib_57 (sm_bipush (pc' := 84) d_M_less_82 rfl ib_8 (sm_iload_n (i := 1) (j := 3) (pc' := 85) d_M_less_84 rfl rfl rfl (sm_imul (pc' := 86) d_M_less_85 rfl (sm_iadd (pc' := 87) d_M_less_86 rfl (sm_iload_n (i := 2) (j := 4) (pc' := 88) d_M_less_87 rfl rfl rfl (sm_iadd (pc' := 89) d_M_less_88 rfl (sm_iload (j := 6) (pc' := 91) d_M_less_89 rfl rfl (sm_iload (j := 1) (pc' := 93) d_M_less_91 rfl rfl (sm_isub (pc' := 94) d_M_less_93 rfl ?_)))))))))
              refine sm_iast (pc' := 95) d_M_less_94 rfl (sm_aload_n (i := 0) (j := 2) (pc' := 96) d_M_less_95 rfl rfl rfl (sm_iload_n (i := 2) (j := 4) (pc' := 97) d_M_less_96 rfl rfl rfl (sm_iload_n (i := 3) (j := 5) (pc' := 98) d_M_less_97 rfl rfl rfl (sm_iconst (pc' := 99) d_M_less_98 rfl ic_0 ?_))))
              refine sm_callVi (ci := 11) (x := x0) (av := [.inl x2, .inl x3, .inl 0]) (st := []) (mc := 0) (ms := 0) (pc' := 102) d_M_less_99 rfl (sd_M_lastsBy x0 x2 x3 0) m_lv rfl cv_M_lastsBy w_ml_M_432 rfl rfl (by decide) (Nat.le_of_ble_eq_true rfl) rfl rfl (fun v8 => ?_)
              refine sm_bd (mid := fun (t9 : Int32) => .inl (109, [(0, .inr (.inr x0)), (1, .inl x1), (2, .inl x2), (3, .inl x3), (4, .inl v5), (5, .inl t9), (6, .inl t6.2)], [])) ?_ (fun t9 => ?_)
              · refine sm_if_eq (tgt := 109) (pc' := 105) d_M_less_102 rfl rfl ?_ ?_
                · refine sm_sub [2, 3, 4, 5, 6, 0, 1] rfl ?_
                  exact sm_rt rfl
                · refine sm_iload (j := 1) (pc' := 107) d_M_less_105 rfl rfl (sm_istore (L' := [(5, .inl t6.2), (6, .inl t6.2), (0, .inr (.inr x0)), (1, .inl x1), (2, .inl x2), (3, .inl x3), (4, .inl v5)]) (pc' := 109) d_M_less_107 rfl (Nat.le_of_ble_eq_true rfl) rfl (sm_sub [2, 3, 4, 5, 6, 0, 1] rfl ?_))
                  exact sm_rt rfl
              · refine sm_iinc (j := 6) (L' := [(6, .inl (t6.2 + 1)), (0, .inr (.inr x0)), (1, .inl x1), (2, .inl x2), (3, .inl x3), (4, .inl v5), (5, .inl t9)]) (pc' := 112) d_M_less_109 rfl (v := (t6.2 + 1)) rfl (ix_1 _) (Nat.le_of_ble_eq_true rfl) rfl (sm_goto (tgt := 64) d_M_less_112 rfl (sm_sub [6, 0, 1, 2, 3, 4, 5] rfl ?_))
                exact sm_rt rfl
        · refine sm_aload_n (i := 0) (j := 1) (pc' := 116) d_M_less_115 rfl rfl rfl ?_
          refine sm_getR (pc' := 119) d_M_less_116 rfl fl_M_35 rfl rfl (fun v11 => ?_)
          refine sm_bipush (pc' := 121) d_M_less_119 rfl ib_57 (sm_bipush (pc' := 123) d_M_less_121 rfl ib_8 (sm_iload_n (i := 1) (j := 2) (pc' := 124) d_M_less_123 rfl rfl rfl (sm_imul (pc' := 125) d_M_less_124 rfl (sm_iadd (pc' := 126) d_M_less_125 rfl (sm_iload_n (i := 2) (j := 3) (pc' := 127) d_M_less_126 rfl rfl rfl (sm_iadd (pc' := 128) d_M_less_127 rfl (sm_iload (j := 4) (pc' := 130) d_M_less_128 rfl rfl (sm_iast (pc' := 131) d_M_less_130 rfl (sm_iload (j := 0) (pc' := 133) d_M_less_131 rfl rfl ?_)))))))))
          refine sm_if_ge (tgt := 145) (pc' := 136) d_M_less_133 rfl rfl ?_ ?_
          · refine sm_iload (j := 0) (pc' := 147) d_M_less_145 rfl rfl ?_
            exact sm_ireturn d_M_less_147 rfl rfl
          · refine sm_aload_n (i := 0) (j := 1) (pc' := 137) d_M_less_136 rfl rfl rfl (sm_bipush (pc' := 139) d_M_less_137 rfl ib_8 ?_)
            refine sm_callVi (ci := 11) (x := x0) (av := [.inl 8]) (st := []) (mc := 0) (ms := 0) (pc' := 142) d_M_less_139 rfl (sd_M_refuse x0 8) m_lv rfl cv_M_refuse w_ml_M_331 rfl rfl (by decide) (Nat.le_of_ble_eq_true rfl) rfl rfl (fun v12 => ?_)
            refine sm_goto (tgt := 147) d_M_less_142 rfl ?_
            exact sm_ireturn d_M_less_147 rfl rfl
      · refine sm_aload_n (i := 0) (j := 0) (pc' := 45) d_M_less_44 rfl rfl rfl (sm_iconst (pc' := 46) d_M_less_45 rfl ic_5 ?_)
        refine sm_callVi (ci := 11) (x := x0) (av := [.inl 5]) (st := []) (mc := 0) (ms := 0) (pc' := 49) d_M_less_46 rfl (sd_M_refuse x0 5) m_lv rfl cv_M_refuse w_ml_M_331 rfl rfl (by decide) (Nat.le_of_ble_eq_true rfl) rfl rfl (fun v13 => ?_)
        exact sm_ireturn d_M_less_49 rfl rfl
    · refine sm_aload_n (i := 0) (j := 0) (pc' := 27) d_M_less_26 rfl rfl rfl (sm_iconst (pc' := 28) d_M_less_27 rfl ic_2 ?_)
      refine sm_callVi (ci := 11) (x := x0) (av := [.inl 2]) (st := []) (mc := 0) (ms := 0) (pc' := 31) d_M_less_28 rfl (sd_M_refuse x0 2) m_lv rfl cv_M_refuse w_ml_M_331 rfl rfl (by decide) (Nat.le_of_ble_eq_true rfl) rfl rfl (fun v14 => ?_)
      exact sm_ireturn d_M_less_31 rfl rfl
theorem d_M_numberOf_0 : m_D k_M_numberOf 0 (.aload_n 0) 1 := (by decide +kernel : decode prog_14_method_17_code 0 = .ok (.aload_n 0, 1))
theorem d_M_numberOf_1 : m_D k_M_numberOf 1 (.getfield 20) 3 := (by decide +kernel : decode prog_14_method_17_code 1 = .ok (.getfield 20, 3))
theorem d_M_numberOf_4 : m_D k_M_numberOf 4 (.bipush 60) 2 := (by decide +kernel : decode prog_14_method_17_code 4 = .ok (.bipush 60, 2))
theorem d_M_numberOf_6 : m_D k_M_numberOf 6 (.iload_n 1) 1 := (by decide +kernel : decode prog_14_method_17_code 6 = .ok (.iload_n 1, 1))
theorem d_M_numberOf_7 : m_D k_M_numberOf 7 (.imul) 1 := (by decide +kernel : decode prog_14_method_17_code 7 = .ok (.imul, 1))
theorem d_M_numberOf_8 : m_D k_M_numberOf 8 (.iload_n 2) 1 := (by decide +kernel : decode prog_14_method_17_code 8 = .ok (.iload_n 2, 1))
theorem d_M_numberOf_9 : m_D k_M_numberOf 9 (.iadd) 1 := (by decide +kernel : decode prog_14_method_17_code 9 = .ok (.iadd, 1))
theorem d_M_numberOf_10 : m_D k_M_numberOf 10 (.laload) 1 := (by decide +kernel : decode prog_14_method_17_code 10 = .ok (.laload, 1))
theorem d_M_numberOf_11 : m_D k_M_numberOf 11 (.lreturn) 1 := (by decide +kernel : decode prog_14_method_17_code 11 = .ok (.lreturn, 1))
def fn_M_numberOf (x0 : Option mA) (x1 : Int32) (x2 : Int32) : mP Int64 :=
  m_th 11 x0 <|
  m_bd (m_gR 11 6 x0) fun v1 =>
  m_bd (m_aJ v1 ((60 * x1) + x2)) fun v2 =>
  m_rt v2
set_option maxHeartbeats 4000000 in
set_option maxRecDepth 100000 in
theorem sd_M_numberOf (x0 : Option mA) (x1 : Int32) (x2 : Int32) : m_Sm k_M_numberOf 1 0 0 [.inr (.inr x0), .inl x1, .inl x2] (fn_M_numberOf x0 x1 x2) (fun b => some (.inr (.inl b))) := by
  refine ⟨Nat.le_of_ble_eq_true rfl, ?_⟩
  refine sm_th ?_
  refine sm_aload_n (i := 0) (j := 0) (pc' := 1) d_M_numberOf_0 rfl rfl rfl ?_
  refine sm_getR (pc' := 4) d_M_numberOf_1 rfl fl_M_20 rfl rfl (fun v1 => ?_)
  refine sm_bipush (pc' := 6) d_M_numberOf_4 rfl ib_60 (sm_iload_n (i := 1) (j := 1) (pc' := 7) d_M_numberOf_6 rfl rfl rfl (sm_imul (pc' := 8) d_M_numberOf_7 rfl (sm_iload_n (i := 2) (j := 2) (pc' := 9) d_M_numberOf_8 rfl rfl rfl (sm_iadd (pc' := 10) d_M_numberOf_9 rfl ?_))))
  refine sm_lald (pc' := 11) d_M_numberOf_10 rfl (fun v2 => ?_)
  exact sm_lreturn d_M_numberOf_11 rfl rfl
theorem d_M_isSeen_0 : m_D k_M_isSeen 0 (.iconst 0) 1 := (by decide +kernel : decode prog_14_method_121_code 0 = .ok (.iconst 0, 1))
theorem d_M_isSeen_1 : m_D k_M_isSeen 1 (.istore 4) 2 := (by decide +kernel : decode prog_14_method_121_code 1 = .ok (.istore 4, 2))
theorem d_M_isSeen_3 : m_D k_M_isSeen 3 (.iload 4) 2 := (by decide +kernel : decode prog_14_method_121_code 3 = .ok (.iload 4, 2))
theorem d_M_isSeen_5 : m_D k_M_isSeen 5 (.iload_n 3) 1 := (by decide +kernel : decode prog_14_method_121_code 5 = .ok (.iload_n 3, 1))
theorem d_M_isSeen_6 : m_D k_M_isSeen 6 (.if_icmp .ge 42) 3 := (by decide +kernel : decode prog_14_method_121_code 6 = .ok (.if_icmp .ge 42, 3))
theorem d_M_isSeen_9 : m_D k_M_isSeen 9 (.iload_n 1) 1 := (by decide +kernel : decode prog_14_method_121_code 9 = .ok (.iload_n 1, 1))
theorem d_M_isSeen_10 : m_D k_M_isSeen 10 (.aload_n 0) 1 := (by decide +kernel : decode prog_14_method_121_code 10 = .ok (.aload_n 0, 1))
theorem d_M_isSeen_11 : m_D k_M_isSeen 11 (.iload_n 2) 1 := (by decide +kernel : decode prog_14_method_121_code 11 = .ok (.iload_n 2, 1))
theorem d_M_isSeen_12 : m_D k_M_isSeen 12 (.iconst 2) 1 := (by decide +kernel : decode prog_14_method_121_code 12 = .ok (.iconst 2, 1))
theorem d_M_isSeen_13 : m_D k_M_isSeen 13 (.iload 4) 2 := (by decide +kernel : decode prog_14_method_121_code 13 = .ok (.iload 4, 2))
theorem d_M_isSeen_15 : m_D k_M_isSeen 15 (.imul) 1 := (by decide +kernel : decode prog_14_method_121_code 15 = .ok (.imul, 1))
theorem d_M_isSeen_16 : m_D k_M_isSeen 16 (.invokevirtual 441) 3 := (by decide +kernel : decode prog_14_method_121_code 16 = .ok (.invokevirtual 441, 3))
theorem d_M_isSeen_19 : m_D k_M_isSeen 19 (.l2i) 1 := (by decide +kernel : decode prog_14_method_121_code 19 = .ok (.l2i, 1))
theorem d_M_isSeen_20 : m_D k_M_isSeen 20 (.iconst 0) 1 := (by decide +kernel : decode prog_14_method_121_code 20 = .ok (.iconst 0, 1))
theorem d_M_isSeen_21 : m_D k_M_isSeen 21 (.invokestatic 325) 3 := (by decide +kernel : decode prog_14_method_121_code 21 = .ok (.invokestatic 325, 3))
theorem d_M_isSeen_24 : m_D k_M_isSeen 24 (.i2l) 1 := (by decide +kernel : decode prog_14_method_121_code 24 = .ok (.i2l, 1))
theorem d_M_isSeen_25 : m_D k_M_isSeen 25 (.aload_n 0) 1 := (by decide +kernel : decode prog_14_method_121_code 25 = .ok (.aload_n 0, 1))
theorem d_M_isSeen_26 : m_D k_M_isSeen 26 (.iload_n 2) 1 := (by decide +kernel : decode prog_14_method_121_code 26 = .ok (.iload_n 2, 1))
theorem d_M_isSeen_27 : m_D k_M_isSeen 27 (.iconst 2) 1 := (by decide +kernel : decode prog_14_method_121_code 27 = .ok (.iconst 2, 1))
theorem d_M_isSeen_28 : m_D k_M_isSeen 28 (.iload 4) 2 := (by decide +kernel : decode prog_14_method_121_code 28 = .ok (.iload 4, 2))
theorem d_M_isSeen_30 : m_D k_M_isSeen 30 (.imul) 1 := (by decide +kernel : decode prog_14_method_121_code 30 = .ok (.imul, 1))
theorem d_M_isSeen_31 : m_D k_M_isSeen 31 (.iconst 1) 1 := (by decide +kernel : decode prog_14_method_121_code 31 = .ok (.iconst 1, 1))
theorem d_M_isSeen_32 : m_D k_M_isSeen 32 (.iadd) 1 := (by decide +kernel : decode prog_14_method_121_code 32 = .ok (.iadd, 1))
theorem d_M_isSeen_33 : m_D k_M_isSeen 33 (.invokevirtual 441) 3 := (by decide +kernel : decode prog_14_method_121_code 33 = .ok (.invokevirtual 441, 3))
theorem d_M_isSeen_36 : m_D k_M_isSeen 36 (.lcmp) 1 := (by decide +kernel : decode prog_14_method_121_code 36 = .ok (.lcmp, 1))
theorem d_M_isSeen_37 : m_D k_M_isSeen 37 (.ifCond .eq 5) 3 := (by decide +kernel : decode prog_14_method_121_code 37 = .ok (.ifCond .eq 5, 3))
theorem d_M_isSeen_40 : m_D k_M_isSeen 40 (.iconst 0) 1 := (by decide +kernel : decode prog_14_method_121_code 40 = .ok (.iconst 0, 1))
theorem d_M_isSeen_41 : m_D k_M_isSeen 41 (.ireturn) 1 := (by decide +kernel : decode prog_14_method_121_code 41 = .ok (.ireturn, 1))
theorem d_M_isSeen_42 : m_D k_M_isSeen 42 (.iinc 4 1) 3 := (by decide +kernel : decode prog_14_method_121_code 42 = .ok (.iinc 4 1, 3))
theorem d_M_isSeen_45 : m_D k_M_isSeen 45 (.goto (-42)) 3 := (by decide +kernel : decode prog_14_method_121_code 45 = .ok (.goto (-42), 3))
theorem d_M_isSeen_48 : m_D k_M_isSeen 48 (.iconst 1) 1 := (by decide +kernel : decode prog_14_method_121_code 48 = .ok (.iconst 1, 1))
theorem d_M_isSeen_49 : m_D k_M_isSeen 49 (.ireturn) 1 := (by decide +kernel : decode prog_14_method_121_code 49 = .ok (.ireturn, 1))
def fn_M_isSeen_l3 (x0 : Option mA) (x1 : Int32) (x2 : Int32) (x3 : Int32) (t1 : Int32) : mP ((Int32) ⊕ (Int32)) :=
  if x3 ≤ t1 then
    m_rt (.inr 1)
  else
    m_bd (fn_M_numberOf x0 x2 (2 * t1)) fun v2 =>
    m_bd (fn_M_bitten x1 (v2).toInt32 0) fun v3 =>
    m_bd (fn_M_numberOf x0 x2 ((2 * t1) + 1)) fun v4 =>
    if (lg_cmp (v3).toInt64 v4) = 0 then
      m_rt (.inl (t1 + 1))
    else
      m_rt (.inr 0)
def fn_M_isSeen (x0 : Option mA) (x1 : Int32) (x2 : Int32) (x3 : Int32) : mP Int32 :=
  m_th 11 x0 <|
  m_lp (fn_M_isSeen_l3 x0 x1 x2 x3) m_F 0
set_option maxHeartbeats 4000000 in
set_option maxRecDepth 100000 in
theorem sd_M_isSeen (x0 : Option mA) (x1 : Int32) (x2 : Int32) (x3 : Int32) : m_Sm k_M_isSeen 2 0 0 [.inr (.inr x0), .inl x1, .inl x2, .inl x3] (fn_M_isSeen x0 x1 x2 x3) (fun b => some (.inl b)) := by
  refine ⟨Nat.le_of_ble_eq_true rfl, ?_⟩
  refine sm_th ?_
  refine sm_iconst (pc' := 1) d_M_isSeen_0 rfl ic_0 (sm_istore (L' := [(4, .inl 0), (0, .inr (.inr x0)), (1, .inl x1), (2, .inl x2), (3, .inl x3)]) (pc' := 3) d_M_isSeen_1 rfl (Nat.le_of_ble_eq_true rfl) rfl ?_)
  refine sm_sub [0, 1, 2, 3, 4] rfl ?_
  refine sm_lp (hd := fun (t1 : Int32) => (.inl (3, [(4, .inl t1), (0, .inr (.inr x0)), (1, .inl x1), (2, .inl x2), (3, .inl x3)], []) : mC)) (fun t1 => ?_) m_F 0
  refine sm_iload (j := 0) (pc' := 5) d_M_isSeen_3 rfl rfl (sm_iload_n (i := 3) (j := 4) (pc' := 6) d_M_isSeen_5 rfl rfl rfl ?_)
  refine sm_icmp_ge (tgt := 48) (pc' := 9) d_M_isSeen_6 rfl rfl ?_ ?_
  · refine sm_iconst (pc' := 49) d_M_isSeen_48 rfl ic_1 ?_
    exact sm_zreturn d_M_isSeen_49 rfl (by decide) rfl
  · refine sm_iload_n (i := 1) (j := 2) (pc' := 10) d_M_isSeen_9 rfl rfl rfl (sm_aload_n (i := 0) (j := 1) (pc' := 11) d_M_isSeen_10 rfl rfl rfl (sm_iload_n (i := 2) (j := 3) (pc' := 12) d_M_isSeen_11 rfl rfl rfl (sm_iconst (pc' := 13) d_M_isSeen_12 rfl ic_2 (sm_iload (j := 0) (pc' := 15) d_M_isSeen_13 rfl rfl (sm_imul (pc' := 16) d_M_isSeen_15 rfl ?_)))))
    refine sm_callVj (ci := 11) (x := x0) (av := [.inl x2, .inl (2 * t1)]) (st := [.inl x1]) (mc := 0) (ms := 0) (pc' := 19) d_M_isSeen_16 rfl (sd_M_numberOf x0 x2 (2 * t1)) m_lv rfl cv_M_numberOf w_ml_M_441 rfl rfl (by decide) (Nat.le_of_ble_eq_true rfl) rfl rfl (fun v2 => ?_)
    refine sm_l2i (pc' := 20) d_M_isSeen_19 rfl (sm_iconst (pc' := 21) d_M_isSeen_20 rfl ic_0 ?_)
    refine sm_callSi (av := [.inl x1, .inl (v2).toInt32, .inl 0]) (st := []) (mc := 0) (ms := 0) (pc' := 24) d_M_isSeen_21 rfl (sd_M_bitten x1 (v2).toInt32 0) cs_M_bitten w_ml_M_325 rfl rfl (by decide) (Nat.le_of_ble_eq_true rfl) rfl rfl (fun v3 => ?_)
    refine sm_i2l (pc' := 25) d_M_isSeen_24 rfl (sm_aload_n (i := 0) (j := 1) (pc' := 26) d_M_isSeen_25 rfl rfl rfl (sm_iload_n (i := 2) (j := 3) (pc' := 27) d_M_isSeen_26 rfl rfl rfl (sm_iconst (pc' := 28) d_M_isSeen_27 rfl ic_2 (sm_iload (j := 0) (pc' := 30) d_M_isSeen_28 rfl rfl (sm_imul (pc' := 31) d_M_isSeen_30 rfl (sm_iconst (pc' := 32) d_M_isSeen_31 rfl ic_1 (sm_iadd (pc' := 33) d_M_isSeen_32 rfl ?_)))))))
    refine sm_callVj (ci := 11) (x := x0) (av := [.inl x2, .inl ((2 * t1) + 1)]) (st := [.inr (.inl (v3).toInt64)]) (mc := 0) (ms := 0) (pc' := 36) d_M_isSeen_33 rfl (sd_M_numberOf x0 x2 ((2 * t1) + 1)) m_lv rfl cv_M_numberOf w_ml_M_441 rfl rfl (by decide) (Nat.le_of_ble_eq_true rfl) rfl rfl (fun v4 => ?_)
    refine sm_lcmp (pc' := 37) d_M_isSeen_36 rfl ?_
    refine sm_if_eq (tgt := 42) (pc' := 40) d_M_isSeen_37 rfl rfl ?_ ?_
    · refine sm_iinc (j := 0) (L' := [(4, .inl (t1 + 1)), (0, .inr (.inr x0)), (1, .inl x1), (2, .inl x2), (3, .inl x3)]) (pc' := 45) d_M_isSeen_42 rfl (v := (t1 + 1)) rfl (ix_1 _) (Nat.le_of_ble_eq_true rfl) rfl (sm_goto (tgt := 3) d_M_isSeen_45 rfl (sm_sub [0, 1, 2, 3, 4] rfl ?_))
      exact sm_rt rfl
    · refine sm_iconst (pc' := 41) d_M_isSeen_40 rfl ic_0 ?_
      exact sm_zreturn d_M_isSeen_41 rfl (by decide) rfl
theorem d_M_laysSeen_0 : m_D k_M_laysSeen 0 (.aload_n 0) 1 := (by decide +kernel : decode prog_14_method_122_code 0 = .ok (.aload_n 0, 1))
theorem d_M_laysSeen_1 : m_D k_M_laysSeen 1 (.iconst 0) 1 := (by decide +kernel : decode prog_14_method_122_code 1 = .ok (.iconst 0, 1))
theorem d_M_laysSeen_2 : m_D k_M_laysSeen 2 (.putfield 445) 3 := (by decide +kernel : decode prog_14_method_122_code 2 = .ok (.putfield 445, 3))
theorem d_M_laysSeen_5 : m_D k_M_laysSeen 5 (.iconst 0) 1 := (by decide +kernel : decode prog_14_method_122_code 5 = .ok (.iconst 0, 1))
theorem d_M_laysSeen_6 : m_D k_M_laysSeen 6 (.istore_n 3) 1 := (by decide +kernel : decode prog_14_method_122_code 6 = .ok (.istore_n 3, 1))
theorem d_M_laysSeen_7 : m_D k_M_laysSeen 7 (.iload_n 3) 1 := (by decide +kernel : decode prog_14_method_122_code 7 = .ok (.iload_n 3, 1))
theorem d_M_laysSeen_8 : m_D k_M_laysSeen 8 (.bipush 19) 2 := (by decide +kernel : decode prog_14_method_122_code 8 = .ok (.bipush 19, 2))
theorem d_M_laysSeen_10 : m_D k_M_laysSeen 10 (.if_icmp .ge 16) 3 := (by decide +kernel : decode prog_14_method_122_code 10 = .ok (.if_icmp .ge 16, 3))
theorem d_M_laysSeen_13 : m_D k_M_laysSeen 13 (.aload_n 0) 1 := (by decide +kernel : decode prog_14_method_122_code 13 = .ok (.aload_n 0, 1))
theorem d_M_laysSeen_14 : m_D k_M_laysSeen 14 (.getfield 50) 3 := (by decide +kernel : decode prog_14_method_122_code 14 = .ok (.getfield 50, 3))
theorem d_M_laysSeen_17 : m_D k_M_laysSeen 17 (.iload_n 3) 1 := (by decide +kernel : decode prog_14_method_122_code 17 = .ok (.iload_n 3, 1))
theorem d_M_laysSeen_18 : m_D k_M_laysSeen 18 (.iconst 0) 1 := (by decide +kernel : decode prog_14_method_122_code 18 = .ok (.iconst 0, 1))
theorem d_M_laysSeen_19 : m_D k_M_laysSeen 19 (.iastore) 1 := (by decide +kernel : decode prog_14_method_122_code 19 = .ok (.iastore, 1))
theorem d_M_laysSeen_20 : m_D k_M_laysSeen 20 (.iinc 3 1) 3 := (by decide +kernel : decode prog_14_method_122_code 20 = .ok (.iinc 3 1, 3))
theorem d_M_laysSeen_23 : m_D k_M_laysSeen 23 (.goto (-16)) 3 := (by decide +kernel : decode prog_14_method_122_code 23 = .ok (.goto (-16), 3))
theorem d_M_laysSeen_26 : m_D k_M_laysSeen 26 (.iconst 0) 1 := (by decide +kernel : decode prog_14_method_122_code 26 = .ok (.iconst 0, 1))
theorem d_M_laysSeen_27 : m_D k_M_laysSeen 27 (.istore_n 3) 1 := (by decide +kernel : decode prog_14_method_122_code 27 = .ok (.istore_n 3, 1))
theorem d_M_laysSeen_28 : m_D k_M_laysSeen 28 (.iload_n 3) 1 := (by decide +kernel : decode prog_14_method_122_code 28 = .ok (.iload_n 3, 1))
theorem d_M_laysSeen_29 : m_D k_M_laysSeen 29 (.sipush 4096) 3 := (by decide +kernel : decode prog_14_method_122_code 29 = .ok (.sipush 4096, 3))
theorem d_M_laysSeen_32 : m_D k_M_laysSeen 32 (.if_icmp .ge 186) 3 := (by decide +kernel : decode prog_14_method_122_code 32 = .ok (.if_icmp .ge 186, 3))
theorem d_M_laysSeen_35 : m_D k_M_laysSeen 35 (.iconst 0) 1 := (by decide +kernel : decode prog_14_method_122_code 35 = .ok (.iconst 0, 1))
theorem d_M_laysSeen_36 : m_D k_M_laysSeen 36 (.istore 4) 2 := (by decide +kernel : decode prog_14_method_122_code 36 = .ok (.istore 4, 2))
theorem d_M_laysSeen_38 : m_D k_M_laysSeen 38 (.iconst 1) 1 := (by decide +kernel : decode prog_14_method_122_code 38 = .ok (.iconst 1, 1))
theorem d_M_laysSeen_39 : m_D k_M_laysSeen 39 (.istore 5) 2 := (by decide +kernel : decode prog_14_method_122_code 39 = .ok (.istore 5, 2))
theorem d_M_laysSeen_41 : m_D k_M_laysSeen 41 (.iconst 0) 1 := (by decide +kernel : decode prog_14_method_122_code 41 = .ok (.iconst 0, 1))
theorem d_M_laysSeen_42 : m_D k_M_laysSeen 42 (.istore 6) 2 := (by decide +kernel : decode prog_14_method_122_code 42 = .ok (.istore 6, 2))
theorem d_M_laysSeen_44 : m_D k_M_laysSeen 44 (.iload 6) 2 := (by decide +kernel : decode prog_14_method_122_code 44 = .ok (.iload 6, 2))
theorem d_M_laysSeen_46 : m_D k_M_laysSeen 46 (.bipush 6) 2 := (by decide +kernel : decode prog_14_method_122_code 46 = .ok (.bipush 6, 2))
theorem d_M_laysSeen_48 : m_D k_M_laysSeen 48 (.if_icmp .ge 63) 3 := (by decide +kernel : decode prog_14_method_122_code 48 = .ok (.if_icmp .ge 63, 3))
theorem d_M_laysSeen_51 : m_D k_M_laysSeen 51 (.iload_n 3) 1 := (by decide +kernel : decode prog_14_method_122_code 51 = .ok (.iload_n 3, 1))
theorem d_M_laysSeen_52 : m_D k_M_laysSeen 52 (.iconst 2) 1 := (by decide +kernel : decode prog_14_method_122_code 52 = .ok (.iconst 2, 1))
theorem d_M_laysSeen_53 : m_D k_M_laysSeen 53 (.iload 6) 2 := (by decide +kernel : decode prog_14_method_122_code 53 = .ok (.iload 6, 2))
theorem d_M_laysSeen_55 : m_D k_M_laysSeen 55 (.imul) 1 := (by decide +kernel : decode prog_14_method_122_code 55 = .ok (.imul, 1))
theorem d_M_laysSeen_56 : m_D k_M_laysSeen 56 (.ishr) 1 := (by decide +kernel : decode prog_14_method_122_code 56 = .ok (.ishr, 1))
theorem d_M_laysSeen_57 : m_D k_M_laysSeen 57 (.iconst 3) 1 := (by decide +kernel : decode prog_14_method_122_code 57 = .ok (.iconst 3, 1))
theorem d_M_laysSeen_58 : m_D k_M_laysSeen 58 (.iand) 1 := (by decide +kernel : decode prog_14_method_122_code 58 = .ok (.iand, 1))
theorem d_M_laysSeen_59 : m_D k_M_laysSeen 59 (.istore 7) 2 := (by decide +kernel : decode prog_14_method_122_code 59 = .ok (.istore 7, 2))
theorem d_M_laysSeen_61 : m_D k_M_laysSeen 61 (.iload 4) 2 := (by decide +kernel : decode prog_14_method_122_code 61 = .ok (.iload 4, 2))
theorem d_M_laysSeen_63 : m_D k_M_laysSeen 63 (.iload 7) 2 := (by decide +kernel : decode prog_14_method_122_code 63 = .ok (.iload 7, 2))
theorem d_M_laysSeen_65 : m_D k_M_laysSeen 65 (.iadd) 1 := (by decide +kernel : decode prog_14_method_122_code 65 = .ok (.iadd, 1))
theorem d_M_laysSeen_66 : m_D k_M_laysSeen 66 (.istore 4) 2 := (by decide +kernel : decode prog_14_method_122_code 66 = .ok (.istore 4, 2))
theorem d_M_laysSeen_68 : m_D k_M_laysSeen 68 (.iload 5) 2 := (by decide +kernel : decode prog_14_method_122_code 68 = .ok (.iload 5, 2))
theorem d_M_laysSeen_70 : m_D k_M_laysSeen 70 (.ifCond .eq 32) 3 := (by decide +kernel : decode prog_14_method_122_code 70 = .ok (.ifCond .eq 32, 3))
theorem d_M_laysSeen_73 : m_D k_M_laysSeen 73 (.iload 7) 2 := (by decide +kernel : decode prog_14_method_122_code 73 = .ok (.iload 7, 2))
theorem d_M_laysSeen_75 : m_D k_M_laysSeen 75 (.ifCond .eq 23) 3 := (by decide +kernel : decode prog_14_method_122_code 75 = .ok (.ifCond .eq 23, 3))
theorem d_M_laysSeen_78 : m_D k_M_laysSeen 78 (.iload 6) 2 := (by decide +kernel : decode prog_14_method_122_code 78 = .ok (.iload 6, 2))
theorem d_M_laysSeen_80 : m_D k_M_laysSeen 80 (.aload_n 0) 1 := (by decide +kernel : decode prog_14_method_122_code 80 = .ok (.aload_n 0, 1))
theorem d_M_laysSeen_81 : m_D k_M_laysSeen 81 (.getfield 35) 3 := (by decide +kernel : decode prog_14_method_122_code 81 = .ok (.getfield 35, 3))
theorem d_M_laysSeen_84 : m_D k_M_laysSeen 84 (.iconst 0) 1 := (by decide +kernel : decode prog_14_method_122_code 84 = .ok (.iconst 0, 1))
theorem d_M_laysSeen_85 : m_D k_M_laysSeen 85 (.iaload) 1 := (by decide +kernel : decode prog_14_method_122_code 85 = .ok (.iaload, 1))
theorem d_M_laysSeen_86 : m_D k_M_laysSeen 86 (.if_icmp .ge 16) 3 := (by decide +kernel : decode prog_14_method_122_code 86 = .ok (.if_icmp .ge 16, 3))
theorem d_M_laysSeen_89 : m_D k_M_laysSeen 89 (.aload_n 0) 1 := (by decide +kernel : decode prog_14_method_122_code 89 = .ok (.aload_n 0, 1))
theorem d_M_laysSeen_90 : m_D k_M_laysSeen 90 (.iload 6) 2 := (by decide +kernel : decode prog_14_method_122_code 90 = .ok (.iload 6, 2))
theorem d_M_laysSeen_92 : m_D k_M_laysSeen 92 (.invokevirtual 313) 3 := (by decide +kernel : decode prog_14_method_122_code 92 = .ok (.invokevirtual 313, 3))
theorem d_M_laysSeen_95 : m_D k_M_laysSeen 95 (.ifCond .eq 7) 3 := (by decide +kernel : decode prog_14_method_122_code 95 = .ok (.ifCond .eq 7, 3))
theorem d_M_laysSeen_98 : m_D k_M_laysSeen 98 (.iconst 1) 1 := (by decide +kernel : decode prog_14_method_122_code 98 = .ok (.iconst 1, 1))
theorem d_M_laysSeen_99 : m_D k_M_laysSeen 99 (.goto 4) 3 := (by decide +kernel : decode prog_14_method_122_code 99 = .ok (.goto 4, 3))
theorem d_M_laysSeen_102 : m_D k_M_laysSeen 102 (.iconst 0) 1 := (by decide +kernel : decode prog_14_method_122_code 102 = .ok (.iconst 0, 1))
theorem d_M_laysSeen_103 : m_D k_M_laysSeen 103 (.istore 5) 2 := (by decide +kernel : decode prog_14_method_122_code 103 = .ok (.istore 5, 2))
theorem d_M_laysSeen_105 : m_D k_M_laysSeen 105 (.iinc 6 1) 3 := (by decide +kernel : decode prog_14_method_122_code 105 = .ok (.iinc 6 1, 3))
theorem d_M_laysSeen_108 : m_D k_M_laysSeen 108 (.goto (-64)) 3 := (by decide +kernel : decode prog_14_method_122_code 108 = .ok (.goto (-64), 3))
theorem d_M_laysSeen_111 : m_D k_M_laysSeen 111 (.iload 5) 2 := (by decide +kernel : decode prog_14_method_122_code 111 = .ok (.iload 5, 2))
theorem d_M_laysSeen_113 : m_D k_M_laysSeen 113 (.ifCond .eq 99) 3 := (by decide +kernel : decode prog_14_method_122_code 113 = .ok (.ifCond .eq 99, 3))
theorem d_M_laysSeen_116 : m_D k_M_laysSeen 116 (.aload_n 0) 1 := (by decide +kernel : decode prog_14_method_122_code 116 = .ok (.aload_n 0, 1))
theorem d_M_laysSeen_117 : m_D k_M_laysSeen 117 (.iload 4) 2 := (by decide +kernel : decode prog_14_method_122_code 117 = .ok (.iload 4, 2))
theorem d_M_laysSeen_119 : m_D k_M_laysSeen 119 (.iload_n 1) 1 := (by decide +kernel : decode prog_14_method_122_code 119 = .ok (.iload_n 1, 1))
theorem d_M_laysSeen_120 : m_D k_M_laysSeen 120 (.iload_n 2) 1 := (by decide +kernel : decode prog_14_method_122_code 120 = .ok (.iload_n 2, 1))
theorem d_M_laysSeen_121 : m_D k_M_laysSeen 121 (.invokevirtual 448) 3 := (by decide +kernel : decode prog_14_method_122_code 121 = .ok (.invokevirtual 448, 3))
theorem d_M_laysSeen_124 : m_D k_M_laysSeen 124 (.ifCond .ne 6) 3 := (by decide +kernel : decode prog_14_method_122_code 124 = .ok (.ifCond .ne 6, 3))
theorem d_M_laysSeen_127 : m_D k_M_laysSeen 127 (.goto 85) 3 := (by decide +kernel : decode prog_14_method_122_code 127 = .ok (.goto 85, 3))
theorem d_M_laysSeen_130 : m_D k_M_laysSeen 130 (.iconst 0) 1 := (by decide +kernel : decode prog_14_method_122_code 130 = .ok (.iconst 0, 1))
theorem d_M_laysSeen_131 : m_D k_M_laysSeen 131 (.istore 6) 2 := (by decide +kernel : decode prog_14_method_122_code 131 = .ok (.istore 6, 2))
theorem d_M_laysSeen_133 : m_D k_M_laysSeen 133 (.iload 6) 2 := (by decide +kernel : decode prog_14_method_122_code 133 = .ok (.iload 6, 2))
theorem d_M_laysSeen_135 : m_D k_M_laysSeen 135 (.bipush 6) 2 := (by decide +kernel : decode prog_14_method_122_code 135 = .ok (.bipush 6, 2))
theorem d_M_laysSeen_137 : m_D k_M_laysSeen 137 (.if_icmp .ge 54) 3 := (by decide +kernel : decode prog_14_method_122_code 137 = .ok (.if_icmp .ge 54, 3))
theorem d_M_laysSeen_140 : m_D k_M_laysSeen 140 (.aload_n 0) 1 := (by decide +kernel : decode prog_14_method_122_code 140 = .ok (.aload_n 0, 1))
theorem d_M_laysSeen_141 : m_D k_M_laysSeen 141 (.getfield 47) 3 := (by decide +kernel : decode prog_14_method_122_code 141 = .ok (.getfield 47, 3))
theorem d_M_laysSeen_144 : m_D k_M_laysSeen 144 (.iload 6) 2 := (by decide +kernel : decode prog_14_method_122_code 144 = .ok (.iload 6, 2))
theorem d_M_laysSeen_146 : m_D k_M_laysSeen 146 (.aload_n 0) 1 := (by decide +kernel : decode prog_14_method_122_code 146 = .ok (.aload_n 0, 1))
theorem d_M_laysSeen_147 : m_D k_M_laysSeen 147 (.getfield 445) 3 := (by decide +kernel : decode prog_14_method_122_code 147 = .ok (.getfield 445, 3))
theorem d_M_laysSeen_150 : m_D k_M_laysSeen 150 (.ifCond .eq 21) 3 := (by decide +kernel : decode prog_14_method_122_code 150 = .ok (.ifCond .eq 21, 3))
theorem d_M_laysSeen_153 : m_D k_M_laysSeen 153 (.aload_n 0) 1 := (by decide +kernel : decode prog_14_method_122_code 153 = .ok (.aload_n 0, 1))
theorem d_M_laysSeen_154 : m_D k_M_laysSeen 154 (.getfield 47) 3 := (by decide +kernel : decode prog_14_method_122_code 154 = .ok (.getfield 47, 3))
theorem d_M_laysSeen_157 : m_D k_M_laysSeen 157 (.iload 6) 2 := (by decide +kernel : decode prog_14_method_122_code 157 = .ok (.iload 6, 2))
theorem d_M_laysSeen_159 : m_D k_M_laysSeen 159 (.iaload) 1 := (by decide +kernel : decode prog_14_method_122_code 159 = .ok (.iaload, 1))
theorem d_M_laysSeen_160 : m_D k_M_laysSeen 160 (.iload_n 3) 1 := (by decide +kernel : decode prog_14_method_122_code 160 = .ok (.iload_n 3, 1))
theorem d_M_laysSeen_161 : m_D k_M_laysSeen 161 (.iconst 2) 1 := (by decide +kernel : decode prog_14_method_122_code 161 = .ok (.iconst 2, 1))
theorem d_M_laysSeen_162 : m_D k_M_laysSeen 162 (.iload 6) 2 := (by decide +kernel : decode prog_14_method_122_code 162 = .ok (.iload 6, 2))
theorem d_M_laysSeen_164 : m_D k_M_laysSeen 164 (.imul) 1 := (by decide +kernel : decode prog_14_method_122_code 164 = .ok (.imul, 1))
theorem d_M_laysSeen_165 : m_D k_M_laysSeen 165 (.ishr) 1 := (by decide +kernel : decode prog_14_method_122_code 165 = .ok (.ishr, 1))
theorem d_M_laysSeen_166 : m_D k_M_laysSeen 166 (.iconst 3) 1 := (by decide +kernel : decode prog_14_method_122_code 166 = .ok (.iconst 3, 1))
theorem d_M_laysSeen_167 : m_D k_M_laysSeen 167 (.iand) 1 := (by decide +kernel : decode prog_14_method_122_code 167 = .ok (.iand, 1))
theorem d_M_laysSeen_168 : m_D k_M_laysSeen 168 (.if_icmp .ne 14) 3 := (by decide +kernel : decode prog_14_method_122_code 168 = .ok (.if_icmp .ne 14, 3))
theorem d_M_laysSeen_171 : m_D k_M_laysSeen 171 (.iload_n 3) 1 := (by decide +kernel : decode prog_14_method_122_code 171 = .ok (.iload_n 3, 1))
theorem d_M_laysSeen_172 : m_D k_M_laysSeen 172 (.iconst 2) 1 := (by decide +kernel : decode prog_14_method_122_code 172 = .ok (.iconst 2, 1))
theorem d_M_laysSeen_173 : m_D k_M_laysSeen 173 (.iload 6) 2 := (by decide +kernel : decode prog_14_method_122_code 173 = .ok (.iload 6, 2))
theorem d_M_laysSeen_175 : m_D k_M_laysSeen 175 (.imul) 1 := (by decide +kernel : decode prog_14_method_122_code 175 = .ok (.imul, 1))
theorem d_M_laysSeen_176 : m_D k_M_laysSeen 176 (.ishr) 1 := (by decide +kernel : decode prog_14_method_122_code 176 = .ok (.ishr, 1))
theorem d_M_laysSeen_177 : m_D k_M_laysSeen 177 (.iconst 3) 1 := (by decide +kernel : decode prog_14_method_122_code 177 = .ok (.iconst 3, 1))
theorem d_M_laysSeen_178 : m_D k_M_laysSeen 178 (.iand) 1 := (by decide +kernel : decode prog_14_method_122_code 178 = .ok (.iand, 1))
theorem d_M_laysSeen_179 : m_D k_M_laysSeen 179 (.goto 5) 3 := (by decide +kernel : decode prog_14_method_122_code 179 = .ok (.goto 5, 3))
theorem d_M_laysSeen_182 : m_D k_M_laysSeen 182 (.bipush (-2)) 2 := (by decide +kernel : decode prog_14_method_122_code 182 = .ok (.bipush (-2), 2))
theorem d_M_laysSeen_184 : m_D k_M_laysSeen 184 (.iastore) 1 := (by decide +kernel : decode prog_14_method_122_code 184 = .ok (.iastore, 1))
theorem d_M_laysSeen_185 : m_D k_M_laysSeen 185 (.iinc 6 1) 3 := (by decide +kernel : decode prog_14_method_122_code 185 = .ok (.iinc 6 1, 3))
theorem d_M_laysSeen_188 : m_D k_M_laysSeen 188 (.goto (-55)) 3 := (by decide +kernel : decode prog_14_method_122_code 188 = .ok (.goto (-55), 3))
theorem d_M_laysSeen_191 : m_D k_M_laysSeen 191 (.aload_n 0) 1 := (by decide +kernel : decode prog_14_method_122_code 191 = .ok (.aload_n 0, 1))
theorem d_M_laysSeen_192 : m_D k_M_laysSeen 192 (.dup) 1 := (by decide +kernel : decode prog_14_method_122_code 192 = .ok (.dup, 1))
theorem d_M_laysSeen_193 : m_D k_M_laysSeen 193 (.getfield 445) 3 := (by decide +kernel : decode prog_14_method_122_code 193 = .ok (.getfield 445, 3))
theorem d_M_laysSeen_196 : m_D k_M_laysSeen 196 (.iconst 1) 1 := (by decide +kernel : decode prog_14_method_122_code 196 = .ok (.iconst 1, 1))
theorem d_M_laysSeen_197 : m_D k_M_laysSeen 197 (.iadd) 1 := (by decide +kernel : decode prog_14_method_122_code 197 = .ok (.iadd, 1))
theorem d_M_laysSeen_198 : m_D k_M_laysSeen 198 (.putfield 445) 3 := (by decide +kernel : decode prog_14_method_122_code 198 = .ok (.putfield 445, 3))
theorem d_M_laysSeen_201 : m_D k_M_laysSeen 201 (.aload_n 0) 1 := (by decide +kernel : decode prog_14_method_122_code 201 = .ok (.aload_n 0, 1))
theorem d_M_laysSeen_202 : m_D k_M_laysSeen 202 (.getfield 50) 3 := (by decide +kernel : decode prog_14_method_122_code 202 = .ok (.getfield 50, 3))
theorem d_M_laysSeen_205 : m_D k_M_laysSeen 205 (.iload 4) 2 := (by decide +kernel : decode prog_14_method_122_code 205 = .ok (.iload 4, 2))
theorem d_M_laysSeen_207 : m_D k_M_laysSeen 207 (.dup2) 1 := (by decide +kernel : decode prog_14_method_122_code 207 = .ok (.dup2, 1))
theorem d_M_laysSeen_208 : m_D k_M_laysSeen 208 (.iaload) 1 := (by decide +kernel : decode prog_14_method_122_code 208 = .ok (.iaload, 1))
theorem d_M_laysSeen_209 : m_D k_M_laysSeen 209 (.iconst 1) 1 := (by decide +kernel : decode prog_14_method_122_code 209 = .ok (.iconst 1, 1))
theorem d_M_laysSeen_210 : m_D k_M_laysSeen 210 (.iadd) 1 := (by decide +kernel : decode prog_14_method_122_code 210 = .ok (.iadd, 1))
theorem d_M_laysSeen_211 : m_D k_M_laysSeen 211 (.iastore) 1 := (by decide +kernel : decode prog_14_method_122_code 211 = .ok (.iastore, 1))
theorem d_M_laysSeen_212 : m_D k_M_laysSeen 212 (.iinc 3 1) 3 := (by decide +kernel : decode prog_14_method_122_code 212 = .ok (.iinc 3 1, 3))
theorem d_M_laysSeen_215 : m_D k_M_laysSeen 215 (.goto (-187)) 3 := (by decide +kernel : decode prog_14_method_122_code 215 = .ok (.goto (-187), 3))
theorem d_M_laysSeen_218 : m_D k_M_laysSeen 218 (.return_) 1 := (by decide +kernel : decode prog_14_method_122_code 218 = .ok (.return_, 1))
def fn_M_laysSeen_l7 (x0 : Option mA) (t1 : Int32) : mP ((Int32) ⊕ (Unit)) :=
  if 19 ≤ t1 then
    m_rt (.inr ())
  else
    m_bd (m_gR 11 31 x0) fun v2 =>
    m_bd (m_tI 0 v2 t1 0) fun _ =>
    m_rt (.inl (t1 + 1))
def fn_M_laysSeen_l44 (x0 : Option mA) (t4 : Int32) (t5 : Int32 × Int32 × Int32) : mP ((Int32 × Int32 × Int32) ⊕ (Int32 × Int32)) :=
  if 6 ≤ t5.2.2 then
    m_rt (.inr (t5.1, t5.2.1))
  else
    m_bd (α := Int32) (
      if t5.2.1 = 0 then
        m_rt 0
      else
        if ((t4 >>> ((2 * t5.2.2) &&& 31)) &&& 3) = 0 then
          m_rt 1
        else
          m_bd (m_gR 11 20 x0) fun v6 =>
          m_bd (m_aI 0 v6 0) fun v7 =>
          if v7 ≤ t5.2.2 then
            m_rt 0
          else
            m_bd (fn_M_showsNow x0 t5.2.2) fun v8 =>
            if v8 = 0 then
              m_rt 0
            else
              m_rt 1
      ) fun (t9 : Int32) =>
    m_rt (.inl ((t5.1 + ((t4 >>> ((2 * t5.2.2) &&& 31)) &&& 3)), t9, (t5.2.2 + 1)))
def fn_M_laysSeen_l133 (x0 : Option mA) (t4 : Int32) (t12 : Int32) : mP ((Int32) ⊕ (Unit)) :=
  if 6 ≤ t12 then
    m_rt (.inr ())
  else
    m_bd (m_gR 11 30 x0) fun v13 =>
    m_bd (m_gI 11 29 x0) fun v14 =>
    m_bd (α := Int32) (
      if v14 = 0 then
        m_rt ((t4 >>> ((2 * t12) &&& 31)) &&& 3)
      else
        m_bd (m_gR 11 30 x0) fun v15 =>
        m_bd (m_aI 0 v15 t12) fun v16 =>
        if v16 = ((t4 >>> ((2 * t12) &&& 31)) &&& 3) then
          m_rt ((t4 >>> ((2 * t12) &&& 31)) &&& 3)
        else
          m_rt (-2)
      ) fun (t17 : Int32) =>
    m_bd (m_tI 0 v13 t12 t17) fun _ =>
    m_rt (.inl (t12 + 1))
def fn_M_laysSeen_l28 (x0 : Option mA) (x1 : Int32) (x2 : Int32) (t4 : Int32) : mP ((Int32) ⊕ (Unit)) :=
  if 4096 ≤ t4 then
    m_rt (.inr ())
  else
    m_bd (m_lp (fn_M_laysSeen_l44 x0 t4) m_F (0, 1, 0)) fun (t10 : Int32 × Int32) =>
    m_bd (α := Unit) (
      if t10.2 = 0 then
        m_rt ()
      else
        m_bd (fn_M_isSeen x0 t10.1 x1 x2) fun v11 =>
        if v11 = 0 then
          m_rt ()
        else
          m_bd (m_lp (fn_M_laysSeen_l133 x0 t4) m_F 0) fun (t18 : Unit) =>
          m_bd (m_gI 11 29 x0) fun v19 =>
          m_bd (m_pI 11 29 x0 (v19 + 1)) fun _ =>
          m_bd (m_gR 11 31 x0) fun v20 =>
          m_bd (m_aI 0 v20 t10.1) fun v21 =>
          m_bd (m_tI 0 v20 t10.1 (v21 + 1)) fun _ =>
          m_rt ()
      ) fun (t22 : Unit) =>
    m_rt (.inl (t4 + 1))
def fn_M_laysSeen (x0 : Option mA) (x1 : Int32) (x2 : Int32) : mP Unit :=
  m_th 11 x0 <|
  m_bd (m_pI 11 29 x0 0) fun _ =>
  m_bd (m_lp (fn_M_laysSeen_l7 x0) m_F 0) fun (t3 : Unit) =>
  m_bd (m_lp (fn_M_laysSeen_l28 x0 x1 x2) m_F 0) fun (t23 : Unit) =>
  m_rt ()
set_option maxHeartbeats 4000000 in
set_option maxRecDepth 100000 in
theorem sd_M_laysSeen (x0 : Option mA) (x1 : Int32) (x2 : Int32) : m_Sm k_M_laysSeen 3 0 0 [.inr (.inr x0), .inl x1, .inl x2] (fn_M_laysSeen x0 x1 x2) (fun _ => none) := by
  refine ⟨Nat.le_of_ble_eq_true rfl, ?_⟩
  refine sm_th ?_
  refine sm_aload_n (i := 0) (j := 0) (pc' := 1) d_M_laysSeen_0 rfl rfl rfl (sm_iconst (pc' := 2) d_M_laysSeen_1 rfl ic_0 (sm_putI (pc' := 5) d_M_laysSeen_2 rfl fl_M_445 (Or.inl rfl) rfl (sm_iconst (pc' := 6) d_M_laysSeen_5 rfl ic_0 (sm_istore_n (i := 3) (L' := [(3, .inl 0), (0, .inr (.inr x0)), (1, .inl x1), (2, .inl x2)]) (pc' := 7) d_M_laysSeen_6 rfl rfl (Nat.le_of_ble_eq_true rfl) rfl ?_))))
  refine sm_sub [0, 1, 2, 3] rfl ?_
  refine sm_bd (mid := fun (t3 : Unit) => .inl (26, [(0, .inr (.inr x0)), (1, .inl x1), (2, .inl x2)], [])) (sm_lp (hd := fun (t1 : Int32) => (.inl (7, [(3, .inl t1), (0, .inr (.inr x0)), (1, .inl x1), (2, .inl x2)], []) : mC)) (fun t1 => ?_) m_F 0) (fun t3 => ?_)
  · refine sm_iload_n (i := 3) (j := 0) (pc' := 8) d_M_laysSeen_7 rfl rfl rfl (sm_bipush (pc' := 10) d_M_laysSeen_8 rfl ib_19 ?_)
    refine sm_icmp_ge (tgt := 26) (pc' := 13) d_M_laysSeen_10 rfl rfl ?_ ?_
    · refine sm_sub [1, 2, 3] rfl ?_
      exact sm_rt rfl
    · refine sm_aload_n (i := 0) (j := 1) (pc' := 14) d_M_laysSeen_13 rfl rfl rfl ?_
      refine sm_getR (pc' := 17) d_M_laysSeen_14 rfl fl_M_50 rfl rfl (fun v2 => ?_)
      refine sm_iload_n (i := 3) (j := 0) (pc' := 18) d_M_laysSeen_17 rfl rfl rfl (sm_iconst (pc' := 19) d_M_laysSeen_18 rfl ic_0 (sm_iast (pc' := 20) d_M_laysSeen_19 rfl (sm_iinc (j := 0) (L' := [(3, .inl (t1 + 1)), (0, .inr (.inr x0)), (1, .inl x1), (2, .inl x2)]) (pc' := 23) d_M_laysSeen_20 rfl (v := (t1 + 1)) rfl (ix_1 _) (Nat.le_of_ble_eq_true rfl) rfl (sm_goto (tgt := 7) d_M_laysSeen_23 rfl (sm_sub [0, 1, 2, 3] rfl ?_)))))
      exact sm_rt rfl
  · refine sm_iconst (pc' := 27) d_M_laysSeen_26 rfl ic_0 (sm_istore_n (i := 3) (L' := [(3, .inl 0), (0, .inr (.inr x0)), (1, .inl x1), (2, .inl x2)]) (pc' := 28) d_M_laysSeen_27 rfl rfl (Nat.le_of_ble_eq_true rfl) rfl ?_)
    refine sm_sub [0, 1, 2, 3] rfl ?_
    refine sm_bd (mid := fun (t23 : Unit) => .inl (218, [], [])) (sm_lp (hd := fun (t4 : Int32) => (.inl (28, [(3, .inl t4), (0, .inr (.inr x0)), (1, .inl x1), (2, .inl x2)], []) : mC)) (fun t4 => ?_) m_F 0) (fun t23 => ?_)
    · refine sm_iload_n (i := 3) (j := 0) (pc' := 29) d_M_laysSeen_28 rfl rfl rfl (sm_sipush (pc' := 32) d_M_laysSeen_29 rfl is_4096 ?_)
      refine sm_icmp_ge (tgt := 218) (pc' := 35) d_M_laysSeen_32 rfl rfl ?_ ?_
      · refine sm_sub [] rfl ?_
        exact sm_rt rfl
      · refine sm_iconst (pc' := 36) d_M_laysSeen_35 rfl ic_0 (sm_istore (L' := [(4, .inl 0), (3, .inl t4), (0, .inr (.inr x0)), (1, .inl x1), (2, .inl x2)]) (pc' := 38) d_M_laysSeen_36 rfl (Nat.le_of_ble_eq_true rfl) rfl (sm_iconst (pc' := 39) d_M_laysSeen_38 rfl ic_1 (sm_istore (L' := [(5, .inl 1), (4, .inl 0), (3, .inl t4), (0, .inr (.inr x0)), (1, .inl x1), (2, .inl x2)]) (pc' := 41) d_M_laysSeen_39 rfl (Nat.le_of_ble_eq_true rfl) rfl (sm_iconst (pc' := 42) d_M_laysSeen_41 rfl ic_0 (sm_istore (L' := [(6, .inl 0), (5, .inl 1), (4, .inl 0), (3, .inl t4), (0, .inr (.inr x0)), (1, .inl x1), (2, .inl x2)]) (pc' := 44) d_M_laysSeen_42 rfl (Nat.le_of_ble_eq_true rfl) rfl ?_)))))
        refine sm_sub [2, 1, 0, 4, 5, 6, 3] rfl ?_
        refine sm_bd (mid := fun (t10 : Int32 × Int32) => .inl (111, [(4, .inl t10.1), (5, .inl t10.2), (0, .inr (.inr x0)), (1, .inl x1), (2, .inl x2), (3, .inl t4)], [])) (sm_lp (hd := fun (t5 : Int32 × Int32 × Int32) => (.inl (44, [(4, .inl t5.1), (5, .inl t5.2.1), (6, .inl t5.2.2), (0, .inr (.inr x0)), (1, .inl x1), (2, .inl x2), (3, .inl t4)], []) : mC)) (fun t5 => ?_) m_F (0, 1, 0)) (fun t10 => ?_)
        · refine sm_iload (j := 2) (pc' := 46) d_M_laysSeen_44 rfl rfl (sm_bipush (pc' := 48) d_M_laysSeen_46 rfl ib_6 ?_)
          refine sm_icmp_ge (tgt := 111) (pc' := 51) d_M_laysSeen_48 rfl rfl ?_ ?_
          · refine sm_sub [0, 1, 3, 4, 5, 6] rfl ?_
            exact sm_rt rfl
          · refine sm_iload_n (i := 3) (j := 6) (pc' := 52) d_M_laysSeen_51 rfl rfl rfl (sm_iconst (pc' := 53) d_M_laysSeen_52 rfl ic_2 (sm_iload (j := 2) (pc' := 55) d_M_laysSeen_53 rfl rfl (sm_imul (pc' := 56) d_M_laysSeen_55 rfl (sm_ishr (pc' := 57) d_M_laysSeen_56 rfl (sm_iconst (pc' := 58) d_M_laysSeen_57 rfl ic_3 (sm_iand (pc' := 59) d_M_laysSeen_58 rfl (sm_istore (L' := [(7, .inl ((t4 >>> ((2 * t5.2.2) &&& 31)) &&& 3)), (4, .inl t5.1), (5, .inl t5.2.1), (6, .inl t5.2.2), (0, .inr (.inr x0)), (1, .inl x1), (2, .inl x2), (3, .inl t4)]) (pc' := 61) d_M_laysSeen_59 rfl (Nat.le_of_ble_eq_true rfl) rfl (sm_iload (j := 1) (pc' := 63) d_M_laysSeen_61 rfl rfl (sm_iload (j := 0) (pc' := 65) d_M_laysSeen_63 rfl rfl ?_)))))))))
            refine sm_iadd (pc' := 66) d_M_laysSeen_65 rfl (sm_istore (L' := [(4, .inl (t5.1 + ((t4 >>> ((2 * t5.2.2) &&& 31)) &&& 3))), (7, .inl ((t4 >>> ((2 * t5.2.2) &&& 31)) &&& 3)), (5, .inl t5.2.1), (6, .inl t5.2.2), (0, .inr (.inr x0)), (1, .inl x1), (2, .inl x2), (3, .inl t4)]) (pc' := 68) d_M_laysSeen_66 rfl (Nat.le_of_ble_eq_true rfl) rfl (sm_iload (j := 2) (pc' := 70) d_M_laysSeen_68 rfl rfl ?_))
            refine sm_bd (mid := fun (t9 : Int32) => .inl (103, [(0, .inr (.inr x0)), (1, .inl x1), (2, .inl x2), (3, .inl t4), (4, .inl (t5.1 + ((t4 >>> ((2 * t5.2.2) &&& 31)) &&& 3))), (6, .inl t5.2.2)], [.inl t9])) ?_ (fun t9 => ?_)
            · refine sm_if_eq (tgt := 102) (pc' := 73) d_M_laysSeen_70 rfl rfl ?_ ?_
              · refine sm_iconst (pc' := 103) d_M_laysSeen_102 rfl ic_0 (sm_sub [4, 5, 6, 7, 0, 3] rfl ?_)
                exact sm_rt rfl
              · refine sm_iload (j := 1) (pc' := 75) d_M_laysSeen_73 rfl rfl ?_
                refine sm_if_eq (tgt := 98) (pc' := 78) d_M_laysSeen_75 rfl rfl ?_ ?_
                · refine sm_iconst (pc' := 99) d_M_laysSeen_98 rfl ic_1 (sm_goto (tgt := 103) d_M_laysSeen_99 rfl (sm_sub [4, 5, 6, 7, 0, 3] rfl ?_))
                  exact sm_rt rfl
                · refine sm_iload (j := 3) (pc' := 80) d_M_laysSeen_78 rfl rfl (sm_aload_n (i := 0) (j := 4) (pc' := 81) d_M_laysSeen_80 rfl rfl rfl ?_)
                  refine sm_getR (pc' := 84) d_M_laysSeen_81 rfl fl_M_35 rfl rfl (fun v6 => ?_)
                  refine sm_iconst (pc' := 85) d_M_laysSeen_84 rfl ic_0 ?_
                  refine sm_iald (pc' := 86) d_M_laysSeen_85 rfl (fun v7 => ?_)
                  refine sm_icmp_ge (tgt := 102) (pc' := 89) d_M_laysSeen_86 rfl rfl ?_ ?_
                  · refine sm_iconst (pc' := 103) d_M_laysSeen_102 rfl ic_0 (sm_sub [4, 5, 6, 7, 0, 3] rfl ?_)
                    exact sm_rt rfl
                  · refine sm_aload_n (i := 0) (j := 4) (pc' := 90) d_M_laysSeen_89 rfl rfl rfl (sm_iload (j := 3) (pc' := 92) d_M_laysSeen_90 rfl rfl ?_)
                    refine sm_callVi (ci := 11) (x := x0) (av := [.inl t5.2.2]) (st := []) (mc := 0) (ms := 0) (pc' := 95) d_M_laysSeen_92 rfl (sd_M_showsNow x0 t5.2.2) m_lv rfl cv_M_showsNow w_ml_M_313 rfl rfl (by decide) (Nat.le_of_ble_eq_true rfl) rfl rfl (fun v8 => ?_)
                    refine sm_if_eq (tgt := 102) (pc' := 98) d_M_laysSeen_95 rfl rfl ?_ ?_
                    · refine sm_iconst (pc' := 103) d_M_laysSeen_102 rfl ic_0 (sm_sub [4, 5, 6, 7, 0, 3] rfl ?_)
                      exact sm_rt rfl
                    · refine sm_iconst (pc' := 99) d_M_laysSeen_98 rfl ic_1 (sm_goto (tgt := 103) d_M_laysSeen_99 rfl (sm_sub [4, 5, 6, 7, 0, 3] rfl ?_))
                      exact sm_rt rfl
            · refine sm_istore (L' := [(5, .inl t9), (0, .inr (.inr x0)), (1, .inl x1), (2, .inl x2), (3, .inl t4), (4, .inl (t5.1 + ((t4 >>> ((2 * t5.2.2) &&& 31)) &&& 3))), (6, .inl t5.2.2)]) (pc' := 105) d_M_laysSeen_103 rfl (Nat.le_of_ble_eq_true rfl) rfl (sm_iinc (j := 6) (L' := [(6, .inl (t5.2.2 + 1)), (5, .inl t9), (0, .inr (.inr x0)), (1, .inl x1), (2, .inl x2), (3, .inl t4), (4, .inl (t5.1 + ((t4 >>> ((2 * t5.2.2) &&& 31)) &&& 3)))]) (pc' := 108) d_M_laysSeen_105 rfl (v := (t5.2.2 + 1)) rfl (ix_1 _) (Nat.le_of_ble_eq_true rfl) rfl (sm_goto (tgt := 44) d_M_laysSeen_108 rfl (sm_sub [6, 1, 0, 2, 3, 4, 5] rfl ?_)))
              exact sm_rt rfl
        · refine sm_iload (j := 1) (pc' := 113) d_M_laysSeen_111 rfl rfl ?_
          refine sm_bd (mid := fun (t22 : Unit) => .inl (212, [(0, .inr (.inr x0)), (1, .inl x1), (2, .inl x2), (3, .inl t4)], [])) ?_ (fun t22 => ?_)
          · refine sm_if_eq (tgt := 212) (pc' := 116) d_M_laysSeen_113 rfl rfl ?_ ?_
            · refine sm_sub [2, 3, 4, 5] rfl ?_
              exact sm_rt rfl
            · refine sm_aload_n (i := 0) (j := 2) (pc' := 117) d_M_laysSeen_116 rfl rfl rfl (sm_iload (j := 0) (pc' := 119) d_M_laysSeen_117 rfl rfl (sm_iload_n (i := 1) (j := 3) (pc' := 120) d_M_laysSeen_119 rfl rfl rfl (sm_iload_n (i := 2) (j := 4) (pc' := 121) d_M_laysSeen_120 rfl rfl rfl ?_)))
              refine sm_callVi (ci := 11) (x := x0) (av := [.inl t10.1, .inl x1, .inl x2]) (st := []) (mc := 0) (ms := 0) (pc' := 124) d_M_laysSeen_121 rfl (sd_M_isSeen x0 t10.1 x1 x2) m_lv rfl cv_M_isSeen w_ml_M_448 rfl rfl (by decide) (Nat.le_of_ble_eq_true rfl) rfl rfl (fun v11 => ?_)
              refine sm_if_ne (tgt := 130) (pc' := 127) d_M_laysSeen_124 rfl rfl ?_ ?_
              · refine sm_iconst (pc' := 131) d_M_laysSeen_130 rfl ic_0 (sm_istore (L' := [(6, .inl 0), (4, .inl t10.1), (5, .inl t10.2), (0, .inr (.inr x0)), (1, .inl x1), (2, .inl x2), (3, .inl t4)]) (pc' := 133) d_M_laysSeen_131 rfl (Nat.le_of_ble_eq_true rfl) rfl ?_)
                refine sm_sub [0, 3, 4, 5, 6, 1] rfl ?_
                refine sm_bd (mid := fun (t18 : Unit) => .inl (191, [(0, .inr (.inr x0)), (1, .inl x1), (2, .inl x2), (3, .inl t4), (4, .inl t10.1)], [])) (sm_lp (hd := fun (t12 : Int32) => (.inl (133, [(6, .inl t12), (0, .inr (.inr x0)), (1, .inl x1), (2, .inl x2), (3, .inl t4), (4, .inl t10.1)], []) : mC)) (fun t12 => ?_) m_F 0) (fun t18 => ?_)
                · refine sm_iload (j := 0) (pc' := 135) d_M_laysSeen_133 rfl rfl (sm_bipush (pc' := 137) d_M_laysSeen_135 rfl ib_6 ?_)
                  refine sm_icmp_ge (tgt := 191) (pc' := 140) d_M_laysSeen_137 rfl rfl ?_ ?_
                  · refine sm_sub [1, 2, 3, 4, 5] rfl ?_
                    exact sm_rt rfl
                  · refine sm_aload_n (i := 0) (j := 1) (pc' := 141) d_M_laysSeen_140 rfl rfl rfl ?_
                    refine sm_getR (pc' := 144) d_M_laysSeen_141 rfl fl_M_47 rfl rfl (fun v13 => ?_)
                    refine sm_iload (j := 0) (pc' := 146) d_M_laysSeen_144 rfl rfl (sm_aload_n (i := 0) (j := 1) (pc' := 147) d_M_laysSeen_146 rfl rfl rfl ?_)
                    refine sm_getI (pc' := 150) d_M_laysSeen_147 rfl fl_M_445 rfl ⟨by decide, by decide⟩ (fun v14 => ?_)
                    refine sm_bd (mid := fun (t17 : Int32) => .inl (184, [(0, .inr (.inr x0)), (1, .inl x1), (2, .inl x2), (3, .inl t4), (4, .inl t10.1), (6, .inl t12)], [.inl t17, .inl t12, .inr (.inr v13)])) ?_ (fun t17 => ?_)
                    · refine sm_if_eq (tgt := 171) (pc' := 153) d_M_laysSeen_150 rfl rfl ?_ ?_
                      · refine sm_iload_n (i := 3) (j := 4) (pc' := 172) d_M_laysSeen_171 rfl rfl rfl (sm_iconst (pc' := 173) d_M_laysSeen_172 rfl ic_2 (sm_iload (j := 0) (pc' := 175) d_M_laysSeen_173 rfl rfl (sm_imul (pc' := 176) d_M_laysSeen_175 rfl (sm_ishr (pc' := 177) d_M_laysSeen_176 rfl (sm_iconst (pc' := 178) d_M_laysSeen_177 rfl ic_3 (sm_iand (pc' := 179) d_M_laysSeen_178 rfl (sm_goto (tgt := 184) d_M_laysSeen_179 rfl (sm_sub [1, 2, 3, 4, 5, 0] rfl ?_))))))))
                        exact sm_rt rfl
                      · refine sm_aload_n (i := 0) (j := 1) (pc' := 154) d_M_laysSeen_153 rfl rfl rfl ?_
                        refine sm_getR (pc' := 157) d_M_laysSeen_154 rfl fl_M_47 rfl rfl (fun v15 => ?_)
                        refine sm_iload (j := 0) (pc' := 159) d_M_laysSeen_157 rfl rfl ?_
                        refine sm_iald (pc' := 160) d_M_laysSeen_159 rfl (fun v16 => ?_)
                        refine sm_iload_n (i := 3) (j := 4) (pc' := 161) d_M_laysSeen_160 rfl rfl rfl (sm_iconst (pc' := 162) d_M_laysSeen_161 rfl ic_2 (sm_iload (j := 0) (pc' := 164) d_M_laysSeen_162 rfl rfl (sm_imul (pc' := 165) d_M_laysSeen_164 rfl (sm_ishr (pc' := 166) d_M_laysSeen_165 rfl (sm_iconst (pc' := 167) d_M_laysSeen_166 rfl ic_3 (sm_iand (pc' := 168) d_M_laysSeen_167 rfl ?_))))))
                        refine sm_icmp_ne (tgt := 182) (pc' := 171) d_M_laysSeen_168 rfl rfl ?_ ?_
                        · refine sm_bipush (pc' := 184) d_M_laysSeen_182 rfl ib_m2 (sm_sub [1, 2, 3, 4, 5, 0] rfl ?_)
                          exact sm_rt rfl
                        · refine sm_iload_n (i := 3) (j := 4) (pc' := 172) d_M_laysSeen_171 rfl rfl rfl (sm_iconst (pc' := 173) d_M_laysSeen_172 rfl ic_2 (sm_iload (j := 0) (pc' := 175) d_M_laysSeen_173 rfl rfl (sm_imul (pc' := 176) d_M_laysSeen_175 rfl (sm_ishr (pc' := 177) d_M_laysSeen_176 rfl (sm_iconst (pc' := 178) d_M_laysSeen_177 rfl ic_3 (sm_iand (pc' := 179) d_M_laysSeen_178 rfl (sm_goto (tgt := 184) d_M_laysSeen_179 rfl (sm_sub [1, 2, 3, 4, 5, 0] rfl ?_))))))))
                          exact sm_rt rfl
                    · refine sm_iast (pc' := 185) d_M_laysSeen_184 rfl (sm_iinc (j := 5) (L' := [(6, .inl (t12 + 1)), (0, .inr (.inr x0)), (1, .inl x1), (2, .inl x2), (3, .inl t4), (4, .inl t10.1)]) (pc' := 188) d_M_laysSeen_185 rfl (v := (t12 + 1)) rfl (ix_1 _) (Nat.le_of_ble_eq_true rfl) rfl (sm_goto (tgt := 133) d_M_laysSeen_188 rfl (sm_sub [0, 1, 2, 3, 4, 5] rfl ?_)))
                      exact sm_rt rfl
                · refine sm_aload_n (i := 0) (j := 0) (pc' := 192) d_M_laysSeen_191 rfl rfl rfl (sm_dup (pc' := 193) d_M_laysSeen_192 rfl rfl ?_)
                  refine sm_getI (pc' := 196) d_M_laysSeen_193 rfl fl_M_445 rfl ⟨by decide, by decide⟩ (fun v19 => ?_)
                  refine sm_iconst (pc' := 197) d_M_laysSeen_196 rfl ic_1 (sm_iadd (pc' := 198) d_M_laysSeen_197 rfl (sm_putI (pc' := 201) d_M_laysSeen_198 rfl fl_M_445 (Or.inl rfl) rfl (sm_aload_n (i := 0) (j := 0) (pc' := 202) d_M_laysSeen_201 rfl rfl rfl ?_)))
                  refine sm_getR (pc' := 205) d_M_laysSeen_202 rfl fl_M_50 rfl rfl (fun v20 => ?_)
                  refine sm_iload (j := 4) (pc' := 207) d_M_laysSeen_205 rfl rfl (sm_dup2 (pc' := 208) d_M_laysSeen_207 rfl rfl rfl ?_)
                  refine sm_iald (pc' := 209) d_M_laysSeen_208 rfl (fun v21 => ?_)
                  refine sm_iconst (pc' := 210) d_M_laysSeen_209 rfl ic_1 (sm_iadd (pc' := 211) d_M_laysSeen_210 rfl (sm_iast (pc' := 212) d_M_laysSeen_211 rfl (sm_sub [0, 1, 2, 3] rfl ?_)))
                  exact sm_rt rfl
              · refine sm_goto (tgt := 212) d_M_laysSeen_127 rfl (sm_sub [2, 3, 4, 5] rfl ?_)
                exact sm_rt rfl
          · refine sm_iinc (j := 3) (L' := [(3, .inl (t4 + 1)), (0, .inr (.inr x0)), (1, .inl x1), (2, .inl x2)]) (pc' := 215) d_M_laysSeen_212 rfl (v := (t4 + 1)) rfl (ix_1 _) (Nat.le_of_ble_eq_true rfl) rfl (sm_goto (tgt := 28) d_M_laysSeen_215 rfl (sm_sub [0, 1, 2, 3] rfl ?_))
            exact sm_rt rfl
    · exact sm_return d_M_laysSeen_218 rfl rfl
theorem d_M_whyNotSeen_0 : m_D k_M_whyNotSeen 0 (.aload_n 0) 1 := (by decide +kernel : decode prog_14_method_120_code 0 = .ok (.aload_n 0, 1))
theorem d_M_whyNotSeen_1 : m_D k_M_whyNotSeen 1 (.iload_n 1) 1 := (by decide +kernel : decode prog_14_method_120_code 1 = .ok (.iload_n 1, 1))
theorem d_M_whyNotSeen_2 : m_D k_M_whyNotSeen 2 (.invokevirtual 365) 3 := (by decide +kernel : decode prog_14_method_120_code 2 = .ok (.invokevirtual 365, 3))
theorem d_M_whyNotSeen_5 : m_D k_M_whyNotSeen 5 (.ifCond .ne 5) 3 := (by decide +kernel : decode prog_14_method_120_code 5 = .ok (.ifCond .ne 5, 3))
theorem d_M_whyNotSeen_8 : m_D k_M_whyNotSeen 8 (.iconst 1) 1 := (by decide +kernel : decode prog_14_method_120_code 8 = .ok (.iconst 1, 1))
theorem d_M_whyNotSeen_9 : m_D k_M_whyNotSeen 9 (.ireturn) 1 := (by decide +kernel : decode prog_14_method_120_code 9 = .ok (.ireturn, 1))
theorem d_M_whyNotSeen_10 : m_D k_M_whyNotSeen 10 (.aload_n 0) 1 := (by decide +kernel : decode prog_14_method_120_code 10 = .ok (.aload_n 0, 1))
theorem d_M_whyNotSeen_11 : m_D k_M_whyNotSeen 11 (.getfield 17) 3 := (by decide +kernel : decode prog_14_method_120_code 11 = .ok (.getfield 17, 3))
theorem d_M_whyNotSeen_14 : m_D k_M_whyNotSeen 14 (.iload_n 1) 1 := (by decide +kernel : decode prog_14_method_120_code 14 = .ok (.iload_n 1, 1))
theorem d_M_whyNotSeen_15 : m_D k_M_whyNotSeen 15 (.iaload) 1 := (by decide +kernel : decode prog_14_method_120_code 15 = .ok (.iaload, 1))
theorem d_M_whyNotSeen_16 : m_D k_M_whyNotSeen 16 (.ifCond .ge 5) 3 := (by decide +kernel : decode prog_14_method_120_code 16 = .ok (.ifCond .ge 5, 3))
theorem d_M_whyNotSeen_19 : m_D k_M_whyNotSeen 19 (.iconst 3) 1 := (by decide +kernel : decode prog_14_method_120_code 19 = .ok (.iconst 3, 1))
theorem d_M_whyNotSeen_20 : m_D k_M_whyNotSeen 20 (.ireturn) 1 := (by decide +kernel : decode prog_14_method_120_code 20 = .ok (.ireturn, 1))
theorem d_M_whyNotSeen_21 : m_D k_M_whyNotSeen 21 (.aload_n 0) 1 := (by decide +kernel : decode prog_14_method_120_code 21 = .ok (.aload_n 0, 1))
theorem d_M_whyNotSeen_22 : m_D k_M_whyNotSeen 22 (.getfield 17) 3 := (by decide +kernel : decode prog_14_method_120_code 22 = .ok (.getfield 17, 3))
theorem d_M_whyNotSeen_25 : m_D k_M_whyNotSeen 25 (.iload_n 1) 1 := (by decide +kernel : decode prog_14_method_120_code 25 = .ok (.iload_n 1, 1))
theorem d_M_whyNotSeen_26 : m_D k_M_whyNotSeen 26 (.iaload) 1 := (by decide +kernel : decode prog_14_method_120_code 26 = .ok (.iaload, 1))
theorem d_M_whyNotSeen_27 : m_D k_M_whyNotSeen 27 (.i2l) 1 := (by decide +kernel : decode prog_14_method_120_code 27 = .ok (.i2l, 1))
theorem d_M_whyNotSeen_28 : m_D k_M_whyNotSeen 28 (.ldc2_w 404) 3 := (by decide +kernel : decode prog_14_method_120_code 28 = .ok (.ldc2_w 404, 3))
theorem d_M_whyNotSeen_31 : m_D k_M_whyNotSeen 31 (.iload_n 2) 1 := (by decide +kernel : decode prog_14_method_120_code 31 = .ok (.iload_n 2, 1))
theorem d_M_whyNotSeen_32 : m_D k_M_whyNotSeen 32 (.i2l) 1 := (by decide +kernel : decode prog_14_method_120_code 32 = .ok (.i2l, 1))
theorem d_M_whyNotSeen_33 : m_D k_M_whyNotSeen 33 (.lmul) 1 := (by decide +kernel : decode prog_14_method_120_code 33 = .ok (.lmul, 1))
theorem d_M_whyNotSeen_34 : m_D k_M_whyNotSeen 34 (.lcmp) 1 := (by decide +kernel : decode prog_14_method_120_code 34 = .ok (.lcmp, 1))
theorem d_M_whyNotSeen_35 : m_D k_M_whyNotSeen 35 (.ifCond .ge 5) 3 := (by decide +kernel : decode prog_14_method_120_code 35 = .ok (.ifCond .ge 5, 3))
theorem d_M_whyNotSeen_38 : m_D k_M_whyNotSeen 38 (.iconst 4) 1 := (by decide +kernel : decode prog_14_method_120_code 38 = .ok (.iconst 4, 1))
theorem d_M_whyNotSeen_39 : m_D k_M_whyNotSeen 39 (.ireturn) 1 := (by decide +kernel : decode prog_14_method_120_code 39 = .ok (.ireturn, 1))
theorem d_M_whyNotSeen_40 : m_D k_M_whyNotSeen 40 (.iload_n 2) 1 := (by decide +kernel : decode prog_14_method_120_code 40 = .ok (.iload_n 2, 1))
theorem d_M_whyNotSeen_41 : m_D k_M_whyNotSeen 41 (.i2l) 1 := (by decide +kernel : decode prog_14_method_120_code 41 = .ok (.i2l, 1))
theorem d_M_whyNotSeen_42 : m_D k_M_whyNotSeen 42 (.lconst 0) 1 := (by decide +kernel : decode prog_14_method_120_code 42 = .ok (.lconst 0, 1))
theorem d_M_whyNotSeen_43 : m_D k_M_whyNotSeen 43 (.ldc2_w 439) 3 := (by decide +kernel : decode prog_14_method_120_code 43 = .ok (.ldc2_w 439, 3))
theorem d_M_whyNotSeen_46 : m_D k_M_whyNotSeen 46 (.invokestatic 116) 3 := (by decide +kernel : decode prog_14_method_120_code 46 = .ok (.invokestatic 116, 3))
theorem d_M_whyNotSeen_49 : m_D k_M_whyNotSeen 49 (.ifCond .ne 5) 3 := (by decide +kernel : decode prog_14_method_120_code 49 = .ok (.ifCond .ne 5, 3))
theorem d_M_whyNotSeen_52 : m_D k_M_whyNotSeen 52 (.iconst 5) 1 := (by decide +kernel : decode prog_14_method_120_code 52 = .ok (.iconst 5, 1))
theorem d_M_whyNotSeen_53 : m_D k_M_whyNotSeen 53 (.ireturn) 1 := (by decide +kernel : decode prog_14_method_120_code 53 = .ok (.ireturn, 1))
theorem d_M_whyNotSeen_54 : m_D k_M_whyNotSeen 54 (.iconst 0) 1 := (by decide +kernel : decode prog_14_method_120_code 54 = .ok (.iconst 0, 1))
theorem d_M_whyNotSeen_55 : m_D k_M_whyNotSeen 55 (.istore_n 3) 1 := (by decide +kernel : decode prog_14_method_120_code 55 = .ok (.istore_n 3, 1))
theorem d_M_whyNotSeen_56 : m_D k_M_whyNotSeen 56 (.iload_n 3) 1 := (by decide +kernel : decode prog_14_method_120_code 56 = .ok (.iload_n 3, 1))
theorem d_M_whyNotSeen_57 : m_D k_M_whyNotSeen 57 (.iload_n 2) 1 := (by decide +kernel : decode prog_14_method_120_code 57 = .ok (.iload_n 2, 1))
theorem d_M_whyNotSeen_58 : m_D k_M_whyNotSeen 58 (.if_icmp .ge 44) 3 := (by decide +kernel : decode prog_14_method_120_code 58 = .ok (.if_icmp .ge 44, 3))
theorem d_M_whyNotSeen_61 : m_D k_M_whyNotSeen 61 (.aload_n 0) 1 := (by decide +kernel : decode prog_14_method_120_code 61 = .ok (.aload_n 0, 1))
theorem d_M_whyNotSeen_62 : m_D k_M_whyNotSeen 62 (.iload_n 1) 1 := (by decide +kernel : decode prog_14_method_120_code 62 = .ok (.iload_n 1, 1))
theorem d_M_whyNotSeen_63 : m_D k_M_whyNotSeen 63 (.iconst 2) 1 := (by decide +kernel : decode prog_14_method_120_code 63 = .ok (.iconst 2, 1))
theorem d_M_whyNotSeen_64 : m_D k_M_whyNotSeen 64 (.iload_n 3) 1 := (by decide +kernel : decode prog_14_method_120_code 64 = .ok (.iload_n 3, 1))
theorem d_M_whyNotSeen_65 : m_D k_M_whyNotSeen 65 (.imul) 1 := (by decide +kernel : decode prog_14_method_120_code 65 = .ok (.imul, 1))
theorem d_M_whyNotSeen_66 : m_D k_M_whyNotSeen 66 (.invokevirtual 441) 3 := (by decide +kernel : decode prog_14_method_120_code 66 = .ok (.invokevirtual 441, 3))
theorem d_M_whyNotSeen_69 : m_D k_M_whyNotSeen 69 (.lconst 0) 1 := (by decide +kernel : decode prog_14_method_120_code 69 = .ok (.lconst 0, 1))
theorem d_M_whyNotSeen_70 : m_D k_M_whyNotSeen 70 (.ldc2_w 389) 3 := (by decide +kernel : decode prog_14_method_120_code 70 = .ok (.ldc2_w 389, 3))
theorem d_M_whyNotSeen_73 : m_D k_M_whyNotSeen 73 (.invokestatic 116) 3 := (by decide +kernel : decode prog_14_method_120_code 73 = .ok (.invokestatic 116, 3))
theorem d_M_whyNotSeen_76 : m_D k_M_whyNotSeen 76 (.ifCond .eq 18) 3 := (by decide +kernel : decode prog_14_method_120_code 76 = .ok (.ifCond .eq 18, 3))
theorem d_M_whyNotSeen_79 : m_D k_M_whyNotSeen 79 (.aload_n 0) 1 := (by decide +kernel : decode prog_14_method_120_code 79 = .ok (.aload_n 0, 1))
theorem d_M_whyNotSeen_80 : m_D k_M_whyNotSeen 80 (.iload_n 1) 1 := (by decide +kernel : decode prog_14_method_120_code 80 = .ok (.iload_n 1, 1))
theorem d_M_whyNotSeen_81 : m_D k_M_whyNotSeen 81 (.iconst 2) 1 := (by decide +kernel : decode prog_14_method_120_code 81 = .ok (.iconst 2, 1))
theorem d_M_whyNotSeen_82 : m_D k_M_whyNotSeen 82 (.iload_n 3) 1 := (by decide +kernel : decode prog_14_method_120_code 82 = .ok (.iload_n 3, 1))
theorem d_M_whyNotSeen_83 : m_D k_M_whyNotSeen 83 (.imul) 1 := (by decide +kernel : decode prog_14_method_120_code 83 = .ok (.imul, 1))
theorem d_M_whyNotSeen_84 : m_D k_M_whyNotSeen 84 (.iconst 1) 1 := (by decide +kernel : decode prog_14_method_120_code 84 = .ok (.iconst 1, 1))
theorem d_M_whyNotSeen_85 : m_D k_M_whyNotSeen 85 (.iadd) 1 := (by decide +kernel : decode prog_14_method_120_code 85 = .ok (.iadd, 1))
theorem d_M_whyNotSeen_86 : m_D k_M_whyNotSeen 86 (.invokevirtual 441) 3 := (by decide +kernel : decode prog_14_method_120_code 86 = .ok (.invokevirtual 441, 3))
theorem d_M_whyNotSeen_89 : m_D k_M_whyNotSeen 89 (.lconst 0) 1 := (by decide +kernel : decode prog_14_method_120_code 89 = .ok (.lconst 0, 1))
theorem d_M_whyNotSeen_90 : m_D k_M_whyNotSeen 90 (.lcmp) 1 := (by decide +kernel : decode prog_14_method_120_code 90 = .ok (.lcmp, 1))
theorem d_M_whyNotSeen_91 : m_D k_M_whyNotSeen 91 (.ifCond .ge 5) 3 := (by decide +kernel : decode prog_14_method_120_code 91 = .ok (.ifCond .ge 5, 3))
theorem d_M_whyNotSeen_94 : m_D k_M_whyNotSeen 94 (.iconst 5) 1 := (by decide +kernel : decode prog_14_method_120_code 94 = .ok (.iconst 5, 1))
theorem d_M_whyNotSeen_95 : m_D k_M_whyNotSeen 95 (.ireturn) 1 := (by decide +kernel : decode prog_14_method_120_code 95 = .ok (.ireturn, 1))
theorem d_M_whyNotSeen_96 : m_D k_M_whyNotSeen 96 (.iinc 3 1) 3 := (by decide +kernel : decode prog_14_method_120_code 96 = .ok (.iinc 3 1, 3))
theorem d_M_whyNotSeen_99 : m_D k_M_whyNotSeen 99 (.goto (-43)) 3 := (by decide +kernel : decode prog_14_method_120_code 99 = .ok (.goto (-43), 3))
theorem d_M_whyNotSeen_102 : m_D k_M_whyNotSeen 102 (.iconst 0) 1 := (by decide +kernel : decode prog_14_method_120_code 102 = .ok (.iconst 0, 1))
theorem d_M_whyNotSeen_103 : m_D k_M_whyNotSeen 103 (.ireturn) 1 := (by decide +kernel : decode prog_14_method_120_code 103 = .ok (.ireturn, 1))
def fn_M_whyNotSeen_l56 (x0 : Option mA) (x1 : Int32) (x2 : Int32) (t7 : Int32) : mP ((Int32) ⊕ (Int32)) :=
  if x2 ≤ t7 then
    m_rt (.inr 0)
  else
    m_bd (fn_M_numberOf x0 x1 (2 * t7)) fun v8 =>
    m_bd (fn_M_isIn v8 0 9) fun v9 =>
    if v9 = 0 then
      m_rt (.inr 5)
    else
      m_bd (fn_M_numberOf x0 x1 ((2 * t7) + 1)) fun v10 =>
      if 0 ≤ (lg_cmp v10 0) then
        m_rt (.inl (t7 + 1))
      else
        m_rt (.inr 5)
def fn_M_whyNotSeen (x0 : Option mA) (x1 : Int32) (x2 : Int32) : mP Int32 :=
  m_th 11 x0 <|
  m_bd (fn_M_isTray x0 x1) fun v1 =>
  if v1 = 0 then
    m_rt 1
  else
    m_bd (m_gR 11 5 x0) fun v2 =>
    m_bd (m_aI 0 v2 x1) fun v3 =>
    if 0 ≤ v3 then
      m_bd (m_gR 11 5 x0) fun v4 =>
      m_bd (m_aI 0 v4 x1) fun v5 =>
      if 0 ≤ (lg_cmp (v5).toInt64 (2 * (x2).toInt64)) then
        m_bd (fn_M_isIn (x2).toInt64 0 20) fun v6 =>
        if v6 = 0 then
          m_rt 5
        else
          m_lp (fn_M_whyNotSeen_l56 x0 x1 x2) m_F 0
      else
        m_rt 4
    else
      m_rt 3
set_option maxHeartbeats 4000000 in
set_option maxRecDepth 100000 in
theorem sd_M_whyNotSeen (x0 : Option mA) (x1 : Int32) (x2 : Int32) : m_Sm k_M_whyNotSeen 3 0 0 [.inr (.inr x0), .inl x1, .inl x2] (fn_M_whyNotSeen x0 x1 x2) (fun b => some (.inl b)) := by
  refine ⟨Nat.le_of_ble_eq_true rfl, ?_⟩
  refine sm_th ?_
  refine sm_aload_n (i := 0) (j := 0) (pc' := 1) d_M_whyNotSeen_0 rfl rfl rfl (sm_iload_n (i := 1) (j := 1) (pc' := 2) d_M_whyNotSeen_1 rfl rfl rfl ?_)
  refine sm_callVi (ci := 11) (x := x0) (av := [.inl x1]) (st := []) (mc := 0) (ms := 0) (pc' := 5) d_M_whyNotSeen_2 rfl (sd_M_isTray x0 x1) m_lv rfl cv_M_isTray w_ml_M_365 rfl rfl (by decide) (Nat.le_of_ble_eq_true rfl) rfl rfl (fun v1 => ?_)
  refine sm_if_ne (tgt := 10) (pc' := 8) d_M_whyNotSeen_5 rfl rfl ?_ ?_
  · refine sm_aload_n (i := 0) (j := 0) (pc' := 11) d_M_whyNotSeen_10 rfl rfl rfl ?_
    refine sm_getR (pc' := 14) d_M_whyNotSeen_11 rfl fl_M_17 rfl rfl (fun v2 => ?_)
    refine sm_iload_n (i := 1) (j := 1) (pc' := 15) d_M_whyNotSeen_14 rfl rfl rfl ?_
    refine sm_iald (pc' := 16) d_M_whyNotSeen_15 rfl (fun v3 => ?_)
    refine sm_if_ge (tgt := 21) (pc' := 19) d_M_whyNotSeen_16 rfl rfl ?_ ?_
    · refine sm_aload_n (i := 0) (j := 0) (pc' := 22) d_M_whyNotSeen_21 rfl rfl rfl ?_
      refine sm_getR (pc' := 25) d_M_whyNotSeen_22 rfl fl_M_17 rfl rfl (fun v4 => ?_)
      refine sm_iload_n (i := 1) (j := 1) (pc' := 26) d_M_whyNotSeen_25 rfl rfl rfl ?_
      refine sm_iald (pc' := 27) d_M_whyNotSeen_26 rfl (fun v5 => ?_)
      refine sm_i2l (pc' := 28) d_M_whyNotSeen_27 rfl (sm_ldc2 (v := 2) (pc' := 31) d_M_whyNotSeen_28 rfl w_cl_M_404 (sm_iload_n (i := 2) (j := 2) (pc' := 32) d_M_whyNotSeen_31 rfl rfl rfl (sm_i2l (pc' := 33) d_M_whyNotSeen_32 rfl (sm_lmul (pc' := 34) d_M_whyNotSeen_33 rfl (sm_lcmp (pc' := 35) d_M_whyNotSeen_34 rfl ?_)))))
      refine sm_if_ge (tgt := 40) (pc' := 38) d_M_whyNotSeen_35 rfl rfl ?_ ?_
      · refine sm_iload_n (i := 2) (j := 2) (pc' := 41) d_M_whyNotSeen_40 rfl rfl rfl (sm_i2l (pc' := 42) d_M_whyNotSeen_41 rfl (sm_lconst (pc' := 43) (v := 0) d_M_whyNotSeen_42 rfl rfl (sm_ldc2 (v := 20) (pc' := 46) d_M_whyNotSeen_43 rfl w_cl_M_439 ?_)))
        refine sm_callSi (av := [.inr (.inl (x2).toInt64), .inr (.inl 0), .inr (.inl 20)]) (st := []) (mc := 0) (ms := 0) (pc' := 49) d_M_whyNotSeen_46 rfl (sd_M_isIn (x2).toInt64 0 20) cs_M_isIn w_ml_M_116 rfl rfl (by decide) (Nat.le_of_ble_eq_true rfl) rfl rfl (fun v6 => ?_)
        refine sm_if_ne (tgt := 54) (pc' := 52) d_M_whyNotSeen_49 rfl rfl ?_ ?_
        · refine sm_iconst (pc' := 55) d_M_whyNotSeen_54 rfl ic_0 (sm_istore_n (i := 3) (L' := [(3, .inl 0), (0, .inr (.inr x0)), (1, .inl x1), (2, .inl x2)]) (pc' := 56) d_M_whyNotSeen_55 rfl rfl (Nat.le_of_ble_eq_true rfl) rfl ?_)
          refine sm_sub [0, 1, 2, 3] rfl ?_
          refine sm_lp (hd := fun (t7 : Int32) => (.inl (56, [(3, .inl t7), (0, .inr (.inr x0)), (1, .inl x1), (2, .inl x2)], []) : mC)) (fun t7 => ?_) m_F 0
          refine sm_iload_n (i := 3) (j := 0) (pc' := 57) d_M_whyNotSeen_56 rfl rfl rfl (sm_iload_n (i := 2) (j := 3) (pc' := 58) d_M_whyNotSeen_57 rfl rfl rfl ?_)
          refine sm_icmp_ge (tgt := 102) (pc' := 61) d_M_whyNotSeen_58 rfl rfl ?_ ?_
          · refine sm_iconst (pc' := 103) d_M_whyNotSeen_102 rfl ic_0 ?_
            exact sm_ireturn d_M_whyNotSeen_103 rfl rfl
          · refine sm_aload_n (i := 0) (j := 1) (pc' := 62) d_M_whyNotSeen_61 rfl rfl rfl (sm_iload_n (i := 1) (j := 2) (pc' := 63) d_M_whyNotSeen_62 rfl rfl rfl (sm_iconst (pc' := 64) d_M_whyNotSeen_63 rfl ic_2 (sm_iload_n (i := 3) (j := 0) (pc' := 65) d_M_whyNotSeen_64 rfl rfl rfl (sm_imul (pc' := 66) d_M_whyNotSeen_65 rfl ?_))))
            refine sm_callVj (ci := 11) (x := x0) (av := [.inl x1, .inl (2 * t7)]) (st := []) (mc := 0) (ms := 0) (pc' := 69) d_M_whyNotSeen_66 rfl (sd_M_numberOf x0 x1 (2 * t7)) m_lv rfl cv_M_numberOf w_ml_M_441 rfl rfl (by decide) (Nat.le_of_ble_eq_true rfl) rfl rfl (fun v8 => ?_)
            refine sm_lconst (pc' := 70) (v := 0) d_M_whyNotSeen_69 rfl rfl (sm_ldc2 (v := 9) (pc' := 73) d_M_whyNotSeen_70 rfl w_cl_M_389 ?_)
            refine sm_callSi (av := [.inr (.inl v8), .inr (.inl 0), .inr (.inl 9)]) (st := []) (mc := 0) (ms := 0) (pc' := 76) d_M_whyNotSeen_73 rfl (sd_M_isIn v8 0 9) cs_M_isIn w_ml_M_116 rfl rfl (by decide) (Nat.le_of_ble_eq_true rfl) rfl rfl (fun v9 => ?_)
            refine sm_if_eq (tgt := 94) (pc' := 79) d_M_whyNotSeen_76 rfl rfl ?_ ?_
            · refine sm_iconst (pc' := 95) d_M_whyNotSeen_94 rfl ic_5 ?_
              exact sm_ireturn d_M_whyNotSeen_95 rfl rfl
            · refine sm_aload_n (i := 0) (j := 1) (pc' := 80) d_M_whyNotSeen_79 rfl rfl rfl (sm_iload_n (i := 1) (j := 2) (pc' := 81) d_M_whyNotSeen_80 rfl rfl rfl (sm_iconst (pc' := 82) d_M_whyNotSeen_81 rfl ic_2 (sm_iload_n (i := 3) (j := 0) (pc' := 83) d_M_whyNotSeen_82 rfl rfl rfl (sm_imul (pc' := 84) d_M_whyNotSeen_83 rfl (sm_iconst (pc' := 85) d_M_whyNotSeen_84 rfl ic_1 (sm_iadd (pc' := 86) d_M_whyNotSeen_85 rfl ?_))))))
              refine sm_callVj (ci := 11) (x := x0) (av := [.inl x1, .inl ((2 * t7) + 1)]) (st := []) (mc := 0) (ms := 0) (pc' := 89) d_M_whyNotSeen_86 rfl (sd_M_numberOf x0 x1 ((2 * t7) + 1)) m_lv rfl cv_M_numberOf w_ml_M_441 rfl rfl (by decide) (Nat.le_of_ble_eq_true rfl) rfl rfl (fun v10 => ?_)
              refine sm_lconst (pc' := 90) (v := 0) d_M_whyNotSeen_89 rfl rfl (sm_lcmp (pc' := 91) d_M_whyNotSeen_90 rfl ?_)
              refine sm_if_ge (tgt := 96) (pc' := 94) d_M_whyNotSeen_91 rfl rfl ?_ ?_
              · refine sm_iinc (j := 0) (L' := [(3, .inl (t7 + 1)), (0, .inr (.inr x0)), (1, .inl x1), (2, .inl x2)]) (pc' := 99) d_M_whyNotSeen_96 rfl (v := (t7 + 1)) rfl (ix_1 _) (Nat.le_of_ble_eq_true rfl) rfl (sm_goto (tgt := 56) d_M_whyNotSeen_99 rfl (sm_sub [0, 1, 2, 3] rfl ?_))
                exact sm_rt rfl
              · refine sm_iconst (pc' := 95) d_M_whyNotSeen_94 rfl ic_5 ?_
                exact sm_ireturn d_M_whyNotSeen_95 rfl rfl
        · refine sm_iconst (pc' := 53) d_M_whyNotSeen_52 rfl ic_5 ?_
          exact sm_ireturn d_M_whyNotSeen_53 rfl rfl
      · refine sm_iconst (pc' := 39) d_M_whyNotSeen_38 rfl ic_4 ?_
        exact sm_ireturn d_M_whyNotSeen_39 rfl rfl
    · refine sm_iconst (pc' := 20) d_M_whyNotSeen_19 rfl ic_3 ?_
      exact sm_ireturn d_M_whyNotSeen_20 rfl rfl
  · refine sm_iconst (pc' := 9) d_M_whyNotSeen_8 rfl ic_1 ?_
    exact sm_ireturn d_M_whyNotSeen_9 rfl rfl
theorem d_M_seen_0 : m_D k_M_seen 0 (.aload_n 0) 1 := (by decide +kernel : decode prog_14_method_123_code 0 = .ok (.aload_n 0, 1))
theorem d_M_seen_1 : m_D k_M_seen 1 (.iconst 0) 1 := (by decide +kernel : decode prog_14_method_123_code 1 = .ok (.iconst 0, 1))
theorem d_M_seen_2 : m_D k_M_seen 2 (.putfield 81) 3 := (by decide +kernel : decode prog_14_method_123_code 2 = .ok (.putfield 81, 3))
theorem d_M_seen_5 : m_D k_M_seen 5 (.aload_n 0) 1 := (by decide +kernel : decode prog_14_method_123_code 5 = .ok (.aload_n 0, 1))
theorem d_M_seen_6 : m_D k_M_seen 6 (.aload_n 0) 1 := (by decide +kernel : decode prog_14_method_123_code 6 = .ok (.aload_n 0, 1))
theorem d_M_seen_7 : m_D k_M_seen 7 (.iload_n 1) 1 := (by decide +kernel : decode prog_14_method_123_code 7 = .ok (.iload_n 1, 1))
theorem d_M_seen_8 : m_D k_M_seen 8 (.iload_n 2) 1 := (by decide +kernel : decode prog_14_method_123_code 8 = .ok (.iload_n 2, 1))
theorem d_M_seen_9 : m_D k_M_seen 9 (.invokevirtual 451) 3 := (by decide +kernel : decode prog_14_method_123_code 9 = .ok (.invokevirtual 451, 3))
theorem d_M_seen_12 : m_D k_M_seen 12 (.putfield 84) 3 := (by decide +kernel : decode prog_14_method_123_code 12 = .ok (.putfield 84, 3))
theorem d_M_seen_15 : m_D k_M_seen 15 (.aload_n 0) 1 := (by decide +kernel : decode prog_14_method_123_code 15 = .ok (.aload_n 0, 1))
theorem d_M_seen_16 : m_D k_M_seen 16 (.getfield 84) 3 := (by decide +kernel : decode prog_14_method_123_code 16 = .ok (.getfield 84, 3))
theorem d_M_seen_19 : m_D k_M_seen 19 (.ifCond .le 5) 3 := (by decide +kernel : decode prog_14_method_123_code 19 = .ok (.ifCond .le 5, 3))
theorem d_M_seen_22 : m_D k_M_seen 22 (.iconst (-1)) 1 := (by decide +kernel : decode prog_14_method_123_code 22 = .ok (.iconst (-1), 1))
theorem d_M_seen_23 : m_D k_M_seen 23 (.ireturn) 1 := (by decide +kernel : decode prog_14_method_123_code 23 = .ok (.ireturn, 1))
theorem d_M_seen_24 : m_D k_M_seen 24 (.aload_n 0) 1 := (by decide +kernel : decode prog_14_method_123_code 24 = .ok (.aload_n 0, 1))
theorem d_M_seen_25 : m_D k_M_seen 25 (.iload_n 1) 1 := (by decide +kernel : decode prog_14_method_123_code 25 = .ok (.iload_n 1, 1))
theorem d_M_seen_26 : m_D k_M_seen 26 (.iload_n 2) 1 := (by decide +kernel : decode prog_14_method_123_code 26 = .ok (.iload_n 2, 1))
theorem d_M_seen_27 : m_D k_M_seen 27 (.invokevirtual 454) 3 := (by decide +kernel : decode prog_14_method_123_code 27 = .ok (.invokevirtual 454, 3))
theorem d_M_seen_30 : m_D k_M_seen 30 (.aload_n 0) 1 := (by decide +kernel : decode prog_14_method_123_code 30 = .ok (.aload_n 0, 1))
theorem d_M_seen_31 : m_D k_M_seen 31 (.getfield 445) 3 := (by decide +kernel : decode prog_14_method_123_code 31 = .ok (.getfield 445, 3))
theorem d_M_seen_34 : m_D k_M_seen 34 (.ireturn) 1 := (by decide +kernel : decode prog_14_method_123_code 34 = .ok (.ireturn, 1))
def fn_M_seen (x0 : Option mA) (x1 : Int32) (x2 : Int32) : mP Int32 :=
  m_th 11 x0 <|
  m_bd (m_pI 11 1 x0 0) fun _ =>
  m_bd (fn_M_whyNotSeen x0 x1 x2) fun v1 =>
  m_bd (m_pI 11 0 x0 v1) fun _ =>
  m_bd (m_gI 11 0 x0) fun v2 =>
  if v2 ≤ 0 then
    m_bd (fn_M_laysSeen x0 x1 x2) fun _ =>
    m_bd (m_gI 11 29 x0) fun v3 =>
    m_rt v3
  else
    m_rt (-1)
set_option maxHeartbeats 4000000 in
set_option maxRecDepth 100000 in
theorem sd_M_seen (x0 : Option mA) (x1 : Int32) (x2 : Int32) : m_Sm k_M_seen 4 0 0 [.inr (.inr x0), .inl x1, .inl x2] (fn_M_seen x0 x1 x2) (fun b => some (.inl b)) := by
  refine ⟨Nat.le_of_ble_eq_true rfl, ?_⟩
  refine sm_th ?_
  refine sm_aload_n (i := 0) (j := 0) (pc' := 1) d_M_seen_0 rfl rfl rfl (sm_iconst (pc' := 2) d_M_seen_1 rfl ic_0 (sm_putI (pc' := 5) d_M_seen_2 rfl fl_M_81 (Or.inl rfl) rfl (sm_aload_n (i := 0) (j := 0) (pc' := 6) d_M_seen_5 rfl rfl rfl (sm_aload_n (i := 0) (j := 0) (pc' := 7) d_M_seen_6 rfl rfl rfl (sm_iload_n (i := 1) (j := 1) (pc' := 8) d_M_seen_7 rfl rfl rfl (sm_iload_n (i := 2) (j := 2) (pc' := 9) d_M_seen_8 rfl rfl rfl ?_))))))
  refine sm_callVi (ci := 11) (x := x0) (av := [.inl x1, .inl x2]) (st := [.inr (.inr x0)]) (mc := 0) (ms := 0) (pc' := 12) d_M_seen_9 rfl (sd_M_whyNotSeen x0 x1 x2) m_lv rfl cv_M_whyNotSeen w_ml_M_451 rfl rfl (by decide) (Nat.le_of_ble_eq_true rfl) rfl rfl (fun v1 => ?_)
  refine sm_putI (pc' := 15) d_M_seen_12 rfl fl_M_84 (Or.inl rfl) rfl (sm_aload_n (i := 0) (j := 0) (pc' := 16) d_M_seen_15 rfl rfl rfl ?_)
  refine sm_getI (pc' := 19) d_M_seen_16 rfl fl_M_84 rfl ⟨by decide, by decide⟩ (fun v2 => ?_)
  refine sm_if_le (tgt := 24) (pc' := 22) d_M_seen_19 rfl rfl ?_ ?_
  · refine sm_aload_n (i := 0) (j := 0) (pc' := 25) d_M_seen_24 rfl rfl rfl (sm_iload_n (i := 1) (j := 1) (pc' := 26) d_M_seen_25 rfl rfl rfl (sm_iload_n (i := 2) (j := 2) (pc' := 27) d_M_seen_26 rfl rfl rfl ?_))
    refine sm_callVv (ci := 11) (x := x0) (av := [.inl x1, .inl x2]) (st := []) (mc := 0) (ms := 0) (pc' := 30) d_M_seen_27 rfl (sd_M_laysSeen x0 x1 x2) m_lv rfl cv_M_laysSeen w_ml_M_454 rfl rfl (by decide) (Nat.le_of_ble_eq_true rfl) rfl rfl ?_
    refine sm_aload_n (i := 0) (j := 0) (pc' := 31) d_M_seen_30 rfl rfl rfl ?_
    refine sm_getI (pc' := 34) d_M_seen_31 rfl fl_M_445 rfl ⟨by decide, by decide⟩ (fun v3 => ?_)
    exact sm_ireturn d_M_seen_34 rfl rfl
  · refine sm_iconst (pc' := 23) d_M_seen_22 rfl ic_m1 ?_
    exact sm_ireturn d_M_seen_23 rfl rfl
theorem d_M_sure_0 : m_D k_M_sure 0 (.aload_n 0) 1 := (by decide +kernel : decode prog_14_method_124_code 0 = .ok (.aload_n 0, 1))
theorem d_M_sure_1 : m_D k_M_sure 1 (.iconst 0) 1 := (by decide +kernel : decode prog_14_method_124_code 1 = .ok (.iconst 0, 1))
theorem d_M_sure_2 : m_D k_M_sure 2 (.putfield 81) 3 := (by decide +kernel : decode prog_14_method_124_code 2 = .ok (.putfield 81, 3))
theorem d_M_sure_5 : m_D k_M_sure 5 (.aload_n 0) 1 := (by decide +kernel : decode prog_14_method_124_code 5 = .ok (.aload_n 0, 1))
theorem d_M_sure_6 : m_D k_M_sure 6 (.aload_n 0) 1 := (by decide +kernel : decode prog_14_method_124_code 6 = .ok (.aload_n 0, 1))
theorem d_M_sure_7 : m_D k_M_sure 7 (.iload_n 2) 1 := (by decide +kernel : decode prog_14_method_124_code 7 = .ok (.iload_n 2, 1))
theorem d_M_sure_8 : m_D k_M_sure 8 (.invokevirtual 365) 3 := (by decide +kernel : decode prog_14_method_124_code 8 = .ok (.invokevirtual 365, 3))
theorem d_M_sure_11 : m_D k_M_sure 11 (.ifCond .ne 7) 3 := (by decide +kernel : decode prog_14_method_124_code 11 = .ok (.ifCond .ne 7, 3))
theorem d_M_sure_14 : m_D k_M_sure 14 (.iconst 1) 1 := (by decide +kernel : decode prog_14_method_124_code 14 = .ok (.iconst 1, 1))
theorem d_M_sure_15 : m_D k_M_sure 15 (.goto 21) 3 := (by decide +kernel : decode prog_14_method_124_code 15 = .ok (.goto 21, 3))
theorem d_M_sure_18 : m_D k_M_sure 18 (.aload_n 0) 1 := (by decide +kernel : decode prog_14_method_124_code 18 = .ok (.aload_n 0, 1))
theorem d_M_sure_19 : m_D k_M_sure 19 (.iload_n 1) 1 := (by decide +kernel : decode prog_14_method_124_code 19 = .ok (.iload_n 1, 1))
theorem d_M_sure_20 : m_D k_M_sure 20 (.invokevirtual 349) 3 := (by decide +kernel : decode prog_14_method_124_code 20 = .ok (.invokevirtual 349, 3))
theorem d_M_sure_23 : m_D k_M_sure 23 (.ifCond .ne 7) 3 := (by decide +kernel : decode prog_14_method_124_code 23 = .ok (.ifCond .ne 7, 3))
theorem d_M_sure_26 : m_D k_M_sure 26 (.iconst 2) 1 := (by decide +kernel : decode prog_14_method_124_code 26 = .ok (.iconst 2, 1))
theorem d_M_sure_27 : m_D k_M_sure 27 (.goto 9) 3 := (by decide +kernel : decode prog_14_method_124_code 27 = .ok (.goto 9, 3))
theorem d_M_sure_30 : m_D k_M_sure 30 (.aload_n 0) 1 := (by decide +kernel : decode prog_14_method_124_code 30 = .ok (.aload_n 0, 1))
theorem d_M_sure_31 : m_D k_M_sure 31 (.iload_n 2) 1 := (by decide +kernel : decode prog_14_method_124_code 31 = .ok (.iload_n 2, 1))
theorem d_M_sure_32 : m_D k_M_sure 32 (.iload_n 3) 1 := (by decide +kernel : decode prog_14_method_124_code 32 = .ok (.iload_n 3, 1))
theorem d_M_sure_33 : m_D k_M_sure 33 (.invokevirtual 451) 3 := (by decide +kernel : decode prog_14_method_124_code 33 = .ok (.invokevirtual 451, 3))
theorem d_M_sure_36 : m_D k_M_sure 36 (.putfield 84) 3 := (by decide +kernel : decode prog_14_method_124_code 36 = .ok (.putfield 84, 3))
theorem d_M_sure_39 : m_D k_M_sure 39 (.aload_n 0) 1 := (by decide +kernel : decode prog_14_method_124_code 39 = .ok (.aload_n 0, 1))
theorem d_M_sure_40 : m_D k_M_sure 40 (.getfield 84) 3 := (by decide +kernel : decode prog_14_method_124_code 40 = .ok (.getfield 84, 3))
theorem d_M_sure_43 : m_D k_M_sure 43 (.ifCond .le 5) 3 := (by decide +kernel : decode prog_14_method_124_code 43 = .ok (.ifCond .le 5, 3))
theorem d_M_sure_46 : m_D k_M_sure 46 (.iconst (-1)) 1 := (by decide +kernel : decode prog_14_method_124_code 46 = .ok (.iconst (-1), 1))
theorem d_M_sure_47 : m_D k_M_sure 47 (.ireturn) 1 := (by decide +kernel : decode prog_14_method_124_code 47 = .ok (.ireturn, 1))
theorem d_M_sure_48 : m_D k_M_sure 48 (.aload_n 0) 1 := (by decide +kernel : decode prog_14_method_124_code 48 = .ok (.aload_n 0, 1))
theorem d_M_sure_49 : m_D k_M_sure 49 (.iload_n 2) 1 := (by decide +kernel : decode prog_14_method_124_code 49 = .ok (.iload_n 2, 1))
theorem d_M_sure_50 : m_D k_M_sure 50 (.iload_n 3) 1 := (by decide +kernel : decode prog_14_method_124_code 50 = .ok (.iload_n 3, 1))
theorem d_M_sure_51 : m_D k_M_sure 51 (.invokevirtual 454) 3 := (by decide +kernel : decode prog_14_method_124_code 51 = .ok (.invokevirtual 454, 3))
theorem d_M_sure_54 : m_D k_M_sure 54 (.aload_n 0) 1 := (by decide +kernel : decode prog_14_method_124_code 54 = .ok (.aload_n 0, 1))
theorem d_M_sure_55 : m_D k_M_sure 55 (.getfield 445) 3 := (by decide +kernel : decode prog_14_method_124_code 55 = .ok (.getfield 445, 3))
theorem d_M_sure_58 : m_D k_M_sure 58 (.ifCond .eq 20) 3 := (by decide +kernel : decode prog_14_method_124_code 58 = .ok (.ifCond .eq 20, 3))
theorem d_M_sure_61 : m_D k_M_sure 61 (.aload_n 0) 1 := (by decide +kernel : decode prog_14_method_124_code 61 = .ok (.aload_n 0, 1))
theorem d_M_sure_62 : m_D k_M_sure 62 (.getfield 47) 3 := (by decide +kernel : decode prog_14_method_124_code 62 = .ok (.getfield 47, 3))
theorem d_M_sure_65 : m_D k_M_sure 65 (.iload_n 1) 1 := (by decide +kernel : decode prog_14_method_124_code 65 = .ok (.iload_n 1, 1))
theorem d_M_sure_66 : m_D k_M_sure 66 (.iaload) 1 := (by decide +kernel : decode prog_14_method_124_code 66 = .ok (.iaload, 1))
theorem d_M_sure_67 : m_D k_M_sure 67 (.ifCond .lt 11) 3 := (by decide +kernel : decode prog_14_method_124_code 67 = .ok (.ifCond .lt 11, 3))
theorem d_M_sure_70 : m_D k_M_sure 70 (.aload_n 0) 1 := (by decide +kernel : decode prog_14_method_124_code 70 = .ok (.aload_n 0, 1))
theorem d_M_sure_71 : m_D k_M_sure 71 (.iload_n 1) 1 := (by decide +kernel : decode prog_14_method_124_code 71 = .ok (.iload_n 1, 1))
theorem d_M_sure_72 : m_D k_M_sure 72 (.invokevirtual 313) 3 := (by decide +kernel : decode prog_14_method_124_code 72 = .ok (.invokevirtual 313, 3))
theorem d_M_sure_75 : m_D k_M_sure 75 (.ifCond .ne 12) 3 := (by decide +kernel : decode prog_14_method_124_code 75 = .ok (.ifCond .ne 12, 3))
theorem d_M_sure_78 : m_D k_M_sure 78 (.aload_n 0) 1 := (by decide +kernel : decode prog_14_method_124_code 78 = .ok (.aload_n 0, 1))
theorem d_M_sure_79 : m_D k_M_sure 79 (.bipush 8) 2 := (by decide +kernel : decode prog_14_method_124_code 79 = .ok (.bipush 8, 2))
theorem d_M_sure_81 : m_D k_M_sure 81 (.invokevirtual 331) 3 := (by decide +kernel : decode prog_14_method_124_code 81 = .ok (.invokevirtual 331, 3))
theorem d_M_sure_84 : m_D k_M_sure 84 (.goto 9) 3 := (by decide +kernel : decode prog_14_method_124_code 84 = .ok (.goto 9, 3))
theorem d_M_sure_87 : m_D k_M_sure 87 (.aload_n 0) 1 := (by decide +kernel : decode prog_14_method_124_code 87 = .ok (.aload_n 0, 1))
theorem d_M_sure_88 : m_D k_M_sure 88 (.getfield 47) 3 := (by decide +kernel : decode prog_14_method_124_code 88 = .ok (.getfield 47, 3))
theorem d_M_sure_91 : m_D k_M_sure 91 (.iload_n 1) 1 := (by decide +kernel : decode prog_14_method_124_code 91 = .ok (.iload_n 1, 1))
theorem d_M_sure_92 : m_D k_M_sure 92 (.iaload) 1 := (by decide +kernel : decode prog_14_method_124_code 92 = .ok (.iaload, 1))
theorem d_M_sure_93 : m_D k_M_sure 93 (.ireturn) 1 := (by decide +kernel : decode prog_14_method_124_code 93 = .ok (.ireturn, 1))
def fn_M_sure (x0 : Option mA) (x1 : Int32) (x2 : Int32) (x3 : Int32) : mP Int32 :=
  m_th 11 x0 <|
  m_bd (m_pI 11 1 x0 0) fun _ =>
  m_bd (fn_M_isTray x0 x2) fun v1 =>
  m_bd (α := Int32) (
    if v1 = 0 then
      m_rt 1
    else
      m_bd (fn_M_isPersonAt x0 x1) fun v2 =>
      if v2 = 0 then
        m_rt 2
      else
        m_bd (fn_M_whyNotSeen x0 x2 x3) fun v3 =>
        m_rt v3
    ) fun (t4 : Int32) =>
  m_bd (m_pI 11 0 x0 t4) fun _ =>
  m_bd (m_gI 11 0 x0) fun v5 =>
  if v5 ≤ 0 then
    m_bd (fn_M_laysSeen x0 x2 x3) fun _ =>
    m_bd (m_gI 11 29 x0) fun v6 =>
    if v6 = 0 then
      m_bd (fn_M_refuse x0 8) fun v7 =>
      m_rt v7
    else
      m_bd (m_gR 11 30 x0) fun v8 =>
      m_bd (m_aI 0 v8 x1) fun v9 =>
      if v9 < 0 then
        m_bd (fn_M_refuse x0 8) fun v10 =>
        m_rt v10
      else
        m_bd (fn_M_showsNow x0 x1) fun v11 =>
        if v11 = 0 then
          m_bd (fn_M_refuse x0 8) fun v14 =>
          m_rt v14
        else
          m_bd (m_gR 11 30 x0) fun v12 =>
          m_bd (m_aI 0 v12 x1) fun v13 =>
          m_rt v13
  else
    m_rt (-1)
set_option maxHeartbeats 4000000 in
set_option maxRecDepth 100000 in
theorem sd_M_sure (x0 : Option mA) (x1 : Int32) (x2 : Int32) (x3 : Int32) : m_Sm k_M_sure 4 0 0 [.inr (.inr x0), .inl x1, .inl x2, .inl x3] (fn_M_sure x0 x1 x2 x3) (fun b => some (.inl b)) := by
  refine ⟨Nat.le_of_ble_eq_true rfl, ?_⟩
  refine sm_th ?_
  refine sm_aload_n (i := 0) (j := 0) (pc' := 1) d_M_sure_0 rfl rfl rfl (sm_iconst (pc' := 2) d_M_sure_1 rfl ic_0 (sm_putI (pc' := 5) d_M_sure_2 rfl fl_M_81 (Or.inl rfl) rfl (sm_aload_n (i := 0) (j := 0) (pc' := 6) d_M_sure_5 rfl rfl rfl (sm_aload_n (i := 0) (j := 0) (pc' := 7) d_M_sure_6 rfl rfl rfl (sm_iload_n (i := 2) (j := 2) (pc' := 8) d_M_sure_7 rfl rfl rfl ?_)))))
  refine sm_callVi (ci := 11) (x := x0) (av := [.inl x2]) (st := [.inr (.inr x0)]) (mc := 0) (ms := 0) (pc' := 11) d_M_sure_8 rfl (sd_M_isTray x0 x2) m_lv rfl cv_M_isTray w_ml_M_365 rfl rfl (by decide) (Nat.le_of_ble_eq_true rfl) rfl rfl (fun v1 => ?_)
  refine sm_bd (mid := fun (t4 : Int32) => .inl (36, [(0, .inr (.inr x0)), (1, .inl x1), (2, .inl x2), (3, .inl x3)], [.inl t4, .inr (.inr x0)])) ?_ (fun t4 => ?_)
  · refine sm_if_ne (tgt := 18) (pc' := 14) d_M_sure_11 rfl rfl ?_ ?_
    · refine sm_aload_n (i := 0) (j := 0) (pc' := 19) d_M_sure_18 rfl rfl rfl (sm_iload_n (i := 1) (j := 1) (pc' := 20) d_M_sure_19 rfl rfl rfl ?_)
      refine sm_callVi (ci := 11) (x := x0) (av := [.inl x1]) (st := [.inr (.inr x0)]) (mc := 0) (ms := 0) (pc' := 23) d_M_sure_20 rfl (sd_M_isPersonAt x0 x1) m_lv rfl cv_M_isPersonAt w_ml_M_349 rfl rfl (by decide) (Nat.le_of_ble_eq_true rfl) rfl rfl (fun v2 => ?_)
      refine sm_if_ne (tgt := 30) (pc' := 26) d_M_sure_23 rfl rfl ?_ ?_
      · refine sm_aload_n (i := 0) (j := 0) (pc' := 31) d_M_sure_30 rfl rfl rfl (sm_iload_n (i := 2) (j := 2) (pc' := 32) d_M_sure_31 rfl rfl rfl (sm_iload_n (i := 3) (j := 3) (pc' := 33) d_M_sure_32 rfl rfl rfl ?_))
        refine sm_callVi (ci := 11) (x := x0) (av := [.inl x2, .inl x3]) (st := [.inr (.inr x0)]) (mc := 0) (ms := 0) (pc' := 36) d_M_sure_33 rfl (sd_M_whyNotSeen x0 x2 x3) m_lv rfl cv_M_whyNotSeen w_ml_M_451 rfl rfl (by decide) (Nat.le_of_ble_eq_true rfl) rfl rfl (fun v3 => ?_)
        refine sm_sub [0, 1, 2, 3] rfl ?_
        exact sm_rt rfl
      · refine sm_iconst (pc' := 27) d_M_sure_26 rfl ic_2 (sm_goto (tgt := 36) d_M_sure_27 rfl (sm_sub [0, 1, 2, 3] rfl ?_))
        exact sm_rt rfl
    · refine sm_iconst (pc' := 15) d_M_sure_14 rfl ic_1 (sm_goto (tgt := 36) d_M_sure_15 rfl (sm_sub [0, 1, 2, 3] rfl ?_))
      exact sm_rt rfl
  · refine sm_putI (pc' := 39) d_M_sure_36 rfl fl_M_84 (Or.inl rfl) rfl (sm_aload_n (i := 0) (j := 0) (pc' := 40) d_M_sure_39 rfl rfl rfl ?_)
    refine sm_getI (pc' := 43) d_M_sure_40 rfl fl_M_84 rfl ⟨by decide, by decide⟩ (fun v5 => ?_)
    refine sm_if_le (tgt := 48) (pc' := 46) d_M_sure_43 rfl rfl ?_ ?_
    · refine sm_aload_n (i := 0) (j := 0) (pc' := 49) d_M_sure_48 rfl rfl rfl (sm_iload_n (i := 2) (j := 2) (pc' := 50) d_M_sure_49 rfl rfl rfl (sm_iload_n (i := 3) (j := 3) (pc' := 51) d_M_sure_50 rfl rfl rfl ?_))
      refine sm_callVv (ci := 11) (x := x0) (av := [.inl x2, .inl x3]) (st := []) (mc := 0) (ms := 0) (pc' := 54) d_M_sure_51 rfl (sd_M_laysSeen x0 x2 x3) m_lv rfl cv_M_laysSeen w_ml_M_454 rfl rfl (by decide) (Nat.le_of_ble_eq_true rfl) rfl rfl ?_
      refine sm_aload_n (i := 0) (j := 0) (pc' := 55) d_M_sure_54 rfl rfl rfl ?_
      refine sm_getI (pc' := 58) d_M_sure_55 rfl fl_M_445 rfl ⟨by decide, by decide⟩ (fun v6 => ?_)
      refine sm_if_eq (tgt := 78) (pc' := 61) d_M_sure_58 rfl rfl ?_ ?_
      · refine sm_aload_n (i := 0) (j := 0) (pc' := 79) d_M_sure_78 rfl rfl rfl (sm_bipush (pc' := 81) d_M_sure_79 rfl ib_8 ?_)
        refine sm_callVi (ci := 11) (x := x0) (av := [.inl 8]) (st := []) (mc := 0) (ms := 0) (pc' := 84) d_M_sure_81 rfl (sd_M_refuse x0 8) m_lv rfl cv_M_refuse w_ml_M_331 rfl rfl (by decide) (Nat.le_of_ble_eq_true rfl) rfl rfl (fun v7 => ?_)
        refine sm_goto (tgt := 93) d_M_sure_84 rfl ?_
        exact sm_ireturn d_M_sure_93 rfl rfl
      · refine sm_aload_n (i := 0) (j := 0) (pc' := 62) d_M_sure_61 rfl rfl rfl ?_
        refine sm_getR (pc' := 65) d_M_sure_62 rfl fl_M_47 rfl rfl (fun v8 => ?_)
        refine sm_iload_n (i := 1) (j := 1) (pc' := 66) d_M_sure_65 rfl rfl rfl ?_
        refine sm_iald (pc' := 67) d_M_sure_66 rfl (fun v9 => ?_)
        refine sm_if_lt (tgt := 78) (pc' := 70) d_M_sure_67 rfl rfl ?_ ?_
        · refine sm_aload_n (i := 0) (j := 0) (pc' := 79) d_M_sure_78 rfl rfl rfl (sm_bipush (pc' := 81) d_M_sure_79 rfl ib_8 ?_)
          refine sm_callVi (ci := 11) (x := x0) (av := [.inl 8]) (st := []) (mc := 0) (ms := 0) (pc' := 84) d_M_sure_81 rfl (sd_M_refuse x0 8) m_lv rfl cv_M_refuse w_ml_M_331 rfl rfl (by decide) (Nat.le_of_ble_eq_true rfl) rfl rfl (fun v10 => ?_)
          refine sm_goto (tgt := 93) d_M_sure_84 rfl ?_
          exact sm_ireturn d_M_sure_93 rfl rfl
        · refine sm_aload_n (i := 0) (j := 0) (pc' := 71) d_M_sure_70 rfl rfl rfl (sm_iload_n (i := 1) (j := 1) (pc' := 72) d_M_sure_71 rfl rfl rfl ?_)
          refine sm_callVi (ci := 11) (x := x0) (av := [.inl x1]) (st := []) (mc := 0) (ms := 0) (pc' := 75) d_M_sure_72 rfl (sd_M_showsNow x0 x1) m_lv rfl cv_M_showsNow w_ml_M_313 rfl rfl (by decide) (Nat.le_of_ble_eq_true rfl) rfl rfl (fun v11 => ?_)
          refine sm_if_ne (tgt := 87) (pc' := 78) d_M_sure_75 rfl rfl ?_ ?_
          · refine sm_aload_n (i := 0) (j := 0) (pc' := 88) d_M_sure_87 rfl rfl rfl ?_
            refine sm_getR (pc' := 91) d_M_sure_88 rfl fl_M_47 rfl rfl (fun v12 => ?_)
            refine sm_iload_n (i := 1) (j := 1) (pc' := 92) d_M_sure_91 rfl rfl rfl ?_
            refine sm_iald (pc' := 93) d_M_sure_92 rfl (fun v13 => ?_)
            exact sm_ireturn d_M_sure_93 rfl rfl
          · refine sm_aload_n (i := 0) (j := 0) (pc' := 79) d_M_sure_78 rfl rfl rfl (sm_bipush (pc' := 81) d_M_sure_79 rfl ib_8 ?_)
            refine sm_callVi (ci := 11) (x := x0) (av := [.inl 8]) (st := []) (mc := 0) (ms := 0) (pc' := 84) d_M_sure_81 rfl (sd_M_refuse x0 8) m_lv rfl cv_M_refuse w_ml_M_331 rfl rfl (by decide) (Nat.le_of_ble_eq_true rfl) rfl rfl (fun v14 => ?_)
            refine sm_goto (tgt := 93) d_M_sure_84 rfl ?_
            exact sm_ireturn d_M_sure_93 rfl rfl
    · refine sm_iconst (pc' := 47) d_M_sure_46 rfl ic_m1 ?_
      exact sm_ireturn d_M_sure_47 rfl rfl
theorem d_M_unlike_0 : m_D k_M_unlike 0 (.iconst 0) 1 := (by decide +kernel : decode prog_14_method_125_code 0 = .ok (.iconst 0, 1))
theorem d_M_unlike_1 : m_D k_M_unlike 1 (.istore_n 2) 1 := (by decide +kernel : decode prog_14_method_125_code 1 = .ok (.istore_n 2, 1))
theorem d_M_unlike_2 : m_D k_M_unlike 2 (.iconst (-1)) 1 := (by decide +kernel : decode prog_14_method_125_code 2 = .ok (.iconst (-1), 1))
theorem d_M_unlike_3 : m_D k_M_unlike 3 (.istore_n 3) 1 := (by decide +kernel : decode prog_14_method_125_code 3 = .ok (.istore_n 3, 1))
theorem d_M_unlike_4 : m_D k_M_unlike 4 (.iconst 0) 1 := (by decide +kernel : decode prog_14_method_125_code 4 = .ok (.iconst 0, 1))
theorem d_M_unlike_5 : m_D k_M_unlike 5 (.istore 4) 2 := (by decide +kernel : decode prog_14_method_125_code 5 = .ok (.istore 4, 2))
theorem d_M_unlike_7 : m_D k_M_unlike 7 (.iload 4) 2 := (by decide +kernel : decode prog_14_method_125_code 7 = .ok (.iload 4, 2))
theorem d_M_unlike_9 : m_D k_M_unlike 9 (.bipush 19) 2 := (by decide +kernel : decode prog_14_method_125_code 9 = .ok (.bipush 19, 2))
theorem d_M_unlike_11 : m_D k_M_unlike 11 (.if_icmp .ge 44) 3 := (by decide +kernel : decode prog_14_method_125_code 11 = .ok (.if_icmp .ge 44, 3))
theorem d_M_unlike_14 : m_D k_M_unlike 14 (.aload_n 0) 1 := (by decide +kernel : decode prog_14_method_125_code 14 = .ok (.aload_n 0, 1))
theorem d_M_unlike_15 : m_D k_M_unlike 15 (.getfield 50) 3 := (by decide +kernel : decode prog_14_method_125_code 15 = .ok (.getfield 50, 3))
theorem d_M_unlike_18 : m_D k_M_unlike 18 (.iload 4) 2 := (by decide +kernel : decode prog_14_method_125_code 18 = .ok (.iload 4, 2))
theorem d_M_unlike_20 : m_D k_M_unlike 20 (.iaload) 1 := (by decide +kernel : decode prog_14_method_125_code 20 = .ok (.iaload, 1))
theorem d_M_unlike_21 : m_D k_M_unlike 21 (.ifCond .eq 28) 3 := (by decide +kernel : decode prog_14_method_125_code 21 = .ok (.ifCond .eq 28, 3))
theorem d_M_unlike_24 : m_D k_M_unlike 24 (.iload 4) 2 := (by decide +kernel : decode prog_14_method_125_code 24 = .ok (.iload 4, 2))
theorem d_M_unlike_26 : m_D k_M_unlike 26 (.iload_n 1) 1 := (by decide +kernel : decode prog_14_method_125_code 26 = .ok (.iload_n 1, 1))
theorem d_M_unlike_27 : m_D k_M_unlike 27 (.iconst 0) 1 := (by decide +kernel : decode prog_14_method_125_code 27 = .ok (.iconst 0, 1))
theorem d_M_unlike_28 : m_D k_M_unlike 28 (.invokestatic 325) 3 := (by decide +kernel : decode prog_14_method_125_code 28 = .ok (.invokestatic 325, 3))
theorem d_M_unlike_31 : m_D k_M_unlike 31 (.iload_n 3) 1 := (by decide +kernel : decode prog_14_method_125_code 31 = .ok (.iload_n 3, 1))
theorem d_M_unlike_32 : m_D k_M_unlike 32 (.if_icmp .ne 6) 3 := (by decide +kernel : decode prog_14_method_125_code 32 = .ok (.if_icmp .ne 6, 3))
theorem d_M_unlike_35 : m_D k_M_unlike 35 (.goto 14) 3 := (by decide +kernel : decode prog_14_method_125_code 35 = .ok (.goto 14, 3))
theorem d_M_unlike_38 : m_D k_M_unlike 38 (.iload 4) 2 := (by decide +kernel : decode prog_14_method_125_code 38 = .ok (.iload 4, 2))
theorem d_M_unlike_40 : m_D k_M_unlike 40 (.iload_n 1) 1 := (by decide +kernel : decode prog_14_method_125_code 40 = .ok (.iload_n 1, 1))
theorem d_M_unlike_41 : m_D k_M_unlike 41 (.iconst 0) 1 := (by decide +kernel : decode prog_14_method_125_code 41 = .ok (.iconst 0, 1))
theorem d_M_unlike_42 : m_D k_M_unlike 42 (.invokestatic 325) 3 := (by decide +kernel : decode prog_14_method_125_code 42 = .ok (.invokestatic 325, 3))
theorem d_M_unlike_45 : m_D k_M_unlike 45 (.istore_n 3) 1 := (by decide +kernel : decode prog_14_method_125_code 45 = .ok (.istore_n 3, 1))
theorem d_M_unlike_46 : m_D k_M_unlike 46 (.iinc 2 1) 3 := (by decide +kernel : decode prog_14_method_125_code 46 = .ok (.iinc 2 1, 3))
theorem d_M_unlike_49 : m_D k_M_unlike 49 (.iinc 4 1) 3 := (by decide +kernel : decode prog_14_method_125_code 49 = .ok (.iinc 4 1, 3))
theorem d_M_unlike_52 : m_D k_M_unlike 52 (.goto (-45)) 3 := (by decide +kernel : decode prog_14_method_125_code 52 = .ok (.goto (-45), 3))
theorem d_M_unlike_55 : m_D k_M_unlike 55 (.iload_n 2) 1 := (by decide +kernel : decode prog_14_method_125_code 55 = .ok (.iload_n 2, 1))
theorem d_M_unlike_56 : m_D k_M_unlike 56 (.ireturn) 1 := (by decide +kernel : decode prog_14_method_125_code 56 = .ok (.ireturn, 1))
def fn_M_unlike_l7 (x0 : Option mA) (x1 : Int32) (t1 : Int32 × Int32 × Int32) : mP ((Int32 × Int32 × Int32) ⊕ (Int32)) :=
  if 19 ≤ t1.2.2 then
    m_rt (.inr t1.1)
  else
    m_bd (m_gR 11 31 x0) fun v2 =>
    m_bd (m_aI 0 v2 t1.2.2) fun v3 =>
    m_bd (α := Int32 × Int32) (
      if v3 = 0 then
        m_rt (t1.1, t1.2.1)
      else
        m_bd (fn_M_bitten t1.2.2 x1 0) fun v4 =>
        if v4 = t1.2.1 then
          m_rt (t1.1, t1.2.1)
        else
          m_bd (fn_M_bitten t1.2.2 x1 0) fun v5 =>
          m_rt ((t1.1 + 1), v5)
      ) fun (t6 : Int32 × Int32) =>
    m_rt (.inl (t6.1, t6.2, (t1.2.2 + 1)))
def fn_M_unlike (x0 : Option mA) (x1 : Int32) : mP Int32 :=
  m_th 11 x0 <|
  m_bd (m_lp (fn_M_unlike_l7 x0 x1) m_F (0, (-1), 0)) fun (t7 : Int32) =>
  m_rt t7
set_option maxHeartbeats 4000000 in
set_option maxRecDepth 100000 in
theorem sd_M_unlike (x0 : Option mA) (x1 : Int32) : m_Sm k_M_unlike 2 0 0 [.inr (.inr x0), .inl x1] (fn_M_unlike x0 x1) (fun b => some (.inl b)) := by
  refine ⟨Nat.le_of_ble_eq_true rfl, ?_⟩
  refine sm_th ?_
  refine sm_iconst (pc' := 1) d_M_unlike_0 rfl ic_0 (sm_istore_n (i := 2) (L' := [(2, .inl 0), (0, .inr (.inr x0)), (1, .inl x1)]) (pc' := 2) d_M_unlike_1 rfl rfl (Nat.le_of_ble_eq_true rfl) rfl (sm_iconst (pc' := 3) d_M_unlike_2 rfl ic_m1 (sm_istore_n (i := 3) (L' := [(3, .inl (-1)), (2, .inl 0), (0, .inr (.inr x0)), (1, .inl x1)]) (pc' := 4) d_M_unlike_3 rfl rfl (Nat.le_of_ble_eq_true rfl) rfl (sm_iconst (pc' := 5) d_M_unlike_4 rfl ic_0 (sm_istore (L' := [(4, .inl 0), (3, .inl (-1)), (2, .inl 0), (0, .inr (.inr x0)), (1, .inl x1)]) (pc' := 7) d_M_unlike_5 rfl (Nat.le_of_ble_eq_true rfl) rfl ?_)))))
  refine sm_sub [2, 1, 0, 3, 4] rfl ?_
  refine sm_bd (mid := fun (t7 : Int32) => .inl (55, [(2, .inl t7)], [])) (sm_lp (hd := fun (t1 : Int32 × Int32 × Int32) => (.inl (7, [(2, .inl t1.1), (3, .inl t1.2.1), (4, .inl t1.2.2), (0, .inr (.inr x0)), (1, .inl x1)], []) : mC)) (fun t1 => ?_) m_F (0, (-1), 0)) (fun t7 => ?_)
  · refine sm_iload (j := 2) (pc' := 9) d_M_unlike_7 rfl rfl (sm_bipush (pc' := 11) d_M_unlike_9 rfl ib_19 ?_)
    refine sm_icmp_ge (tgt := 55) (pc' := 14) d_M_unlike_11 rfl rfl ?_ ?_
    · refine sm_sub [0] rfl ?_
      exact sm_rt rfl
    · refine sm_aload_n (i := 0) (j := 3) (pc' := 15) d_M_unlike_14 rfl rfl rfl ?_
      refine sm_getR (pc' := 18) d_M_unlike_15 rfl fl_M_50 rfl rfl (fun v2 => ?_)
      refine sm_iload (j := 2) (pc' := 20) d_M_unlike_18 rfl rfl ?_
      refine sm_iald (pc' := 21) d_M_unlike_20 rfl (fun v3 => ?_)
      refine sm_bd (mid := fun (t6 : Int32 × Int32) => .inl (49, [(0, .inr (.inr x0)), (1, .inl x1), (2, .inl t6.1), (3, .inl t6.2), (4, .inl t1.2.2)], [])) ?_ (fun t6 => ?_)
      · refine sm_if_eq (tgt := 49) (pc' := 24) d_M_unlike_21 rfl rfl ?_ ?_
        · refine sm_sub [3, 4, 0, 1, 2] rfl ?_
          exact sm_rt rfl
        · refine sm_iload (j := 2) (pc' := 26) d_M_unlike_24 rfl rfl (sm_iload_n (i := 1) (j := 4) (pc' := 27) d_M_unlike_26 rfl rfl rfl (sm_iconst (pc' := 28) d_M_unlike_27 rfl ic_0 ?_))
          refine sm_callSi (av := [.inl t1.2.2, .inl x1, .inl 0]) (st := []) (mc := 0) (ms := 0) (pc' := 31) d_M_unlike_28 rfl (sd_M_bitten t1.2.2 x1 0) cs_M_bitten w_ml_M_325 rfl rfl (by decide) (Nat.le_of_ble_eq_true rfl) rfl rfl (fun v4 => ?_)
          refine sm_iload_n (i := 3) (j := 1) (pc' := 32) d_M_unlike_31 rfl rfl rfl ?_
          refine sm_icmp_ne (tgt := 38) (pc' := 35) d_M_unlike_32 rfl rfl ?_ ?_
          · refine sm_iload (j := 2) (pc' := 40) d_M_unlike_38 rfl rfl (sm_iload_n (i := 1) (j := 4) (pc' := 41) d_M_unlike_40 rfl rfl rfl (sm_iconst (pc' := 42) d_M_unlike_41 rfl ic_0 ?_))
            refine sm_callSi (av := [.inl t1.2.2, .inl x1, .inl 0]) (st := []) (mc := 0) (ms := 0) (pc' := 45) d_M_unlike_42 rfl (sd_M_bitten t1.2.2 x1 0) cs_M_bitten w_ml_M_325 rfl rfl (by decide) (Nat.le_of_ble_eq_true rfl) rfl rfl (fun v5 => ?_)
            refine sm_istore_n (i := 3) (L' := [(3, .inl v5), (2, .inl t1.1), (4, .inl t1.2.2), (0, .inr (.inr x0)), (1, .inl x1)]) (pc' := 46) d_M_unlike_45 rfl rfl (Nat.le_of_ble_eq_true rfl) rfl (sm_iinc (j := 1) (L' := [(2, .inl (t1.1 + 1)), (3, .inl v5), (4, .inl t1.2.2), (0, .inr (.inr x0)), (1, .inl x1)]) (pc' := 49) d_M_unlike_46 rfl (v := (t1.1 + 1)) rfl (ix_1 _) (Nat.le_of_ble_eq_true rfl) rfl (sm_sub [3, 4, 0, 1, 2] rfl ?_))
            exact sm_rt rfl
          · refine sm_goto (tgt := 49) d_M_unlike_35 rfl (sm_sub [3, 4, 0, 1, 2] rfl ?_)
            exact sm_rt rfl
      · refine sm_iinc (j := 4) (L' := [(4, .inl (t1.2.2 + 1)), (0, .inr (.inr x0)), (1, .inl x1), (2, .inl t6.1), (3, .inl t6.2)]) (pc' := 52) d_M_unlike_49 rfl (v := (t1.2.2 + 1)) rfl (ix_1 _) (Nat.le_of_ble_eq_true rfl) rfl (sm_goto (tgt := 7) d_M_unlike_52 rfl (sm_sub [3, 4, 0, 1, 2] rfl ?_))
        exact sm_rt rfl
  · refine sm_iload_n (i := 2) (j := 0) (pc' := 56) d_M_unlike_55 rfl rfl rfl ?_
    exact sm_ireturn d_M_unlike_56 rfl rfl
theorem d_M_ask_0 : m_D k_M_ask 0 (.aload_n 0) 1 := (by decide +kernel : decode prog_14_method_126_code 0 = .ok (.aload_n 0, 1))
theorem d_M_ask_1 : m_D k_M_ask 1 (.iconst 0) 1 := (by decide +kernel : decode prog_14_method_126_code 1 = .ok (.iconst 0, 1))
theorem d_M_ask_2 : m_D k_M_ask 2 (.putfield 81) 3 := (by decide +kernel : decode prog_14_method_126_code 2 = .ok (.putfield 81, 3))
theorem d_M_ask_5 : m_D k_M_ask 5 (.aload_n 0) 1 := (by decide +kernel : decode prog_14_method_126_code 5 = .ok (.aload_n 0, 1))
theorem d_M_ask_6 : m_D k_M_ask 6 (.aload_n 0) 1 := (by decide +kernel : decode prog_14_method_126_code 6 = .ok (.aload_n 0, 1))
theorem d_M_ask_7 : m_D k_M_ask 7 (.iload_n 1) 1 := (by decide +kernel : decode prog_14_method_126_code 7 = .ok (.iload_n 1, 1))
theorem d_M_ask_8 : m_D k_M_ask 8 (.iload_n 2) 1 := (by decide +kernel : decode prog_14_method_126_code 8 = .ok (.iload_n 2, 1))
theorem d_M_ask_9 : m_D k_M_ask 9 (.invokevirtual 451) 3 := (by decide +kernel : decode prog_14_method_126_code 9 = .ok (.invokevirtual 451, 3))
theorem d_M_ask_12 : m_D k_M_ask 12 (.putfield 84) 3 := (by decide +kernel : decode prog_14_method_126_code 12 = .ok (.putfield 84, 3))
theorem d_M_ask_15 : m_D k_M_ask 15 (.aload_n 0) 1 := (by decide +kernel : decode prog_14_method_126_code 15 = .ok (.aload_n 0, 1))
theorem d_M_ask_16 : m_D k_M_ask 16 (.getfield 84) 3 := (by decide +kernel : decode prog_14_method_126_code 16 = .ok (.getfield 84, 3))
theorem d_M_ask_19 : m_D k_M_ask 19 (.ifCond .le 5) 3 := (by decide +kernel : decode prog_14_method_126_code 19 = .ok (.ifCond .le 5, 3))
theorem d_M_ask_22 : m_D k_M_ask 22 (.iconst (-1)) 1 := (by decide +kernel : decode prog_14_method_126_code 22 = .ok (.iconst (-1), 1))
theorem d_M_ask_23 : m_D k_M_ask 23 (.ireturn) 1 := (by decide +kernel : decode prog_14_method_126_code 23 = .ok (.ireturn, 1))
theorem d_M_ask_24 : m_D k_M_ask 24 (.aload_n 0) 1 := (by decide +kernel : decode prog_14_method_126_code 24 = .ok (.aload_n 0, 1))
theorem d_M_ask_25 : m_D k_M_ask 25 (.iload_n 1) 1 := (by decide +kernel : decode prog_14_method_126_code 25 = .ok (.iload_n 1, 1))
theorem d_M_ask_26 : m_D k_M_ask 26 (.iload_n 2) 1 := (by decide +kernel : decode prog_14_method_126_code 26 = .ok (.iload_n 2, 1))
theorem d_M_ask_27 : m_D k_M_ask 27 (.invokevirtual 454) 3 := (by decide +kernel : decode prog_14_method_126_code 27 = .ok (.invokevirtual 454, 3))
theorem d_M_ask_30 : m_D k_M_ask 30 (.aload_n 0) 1 := (by decide +kernel : decode prog_14_method_126_code 30 = .ok (.aload_n 0, 1))
theorem d_M_ask_31 : m_D k_M_ask 31 (.getfield 445) 3 := (by decide +kernel : decode prog_14_method_126_code 31 = .ok (.getfield 445, 3))
theorem d_M_ask_34 : m_D k_M_ask 34 (.iconst 2) 1 := (by decide +kernel : decode prog_14_method_126_code 34 = .ok (.iconst 2, 1))
theorem d_M_ask_35 : m_D k_M_ask 35 (.if_icmp .ge 10) 3 := (by decide +kernel : decode prog_14_method_126_code 35 = .ok (.if_icmp .ge 10, 3))
theorem d_M_ask_38 : m_D k_M_ask 38 (.aload_n 0) 1 := (by decide +kernel : decode prog_14_method_126_code 38 = .ok (.aload_n 0, 1))
theorem d_M_ask_39 : m_D k_M_ask 39 (.bipush 8) 2 := (by decide +kernel : decode prog_14_method_126_code 39 = .ok (.bipush 8, 2))
theorem d_M_ask_41 : m_D k_M_ask 41 (.invokevirtual 331) 3 := (by decide +kernel : decode prog_14_method_126_code 41 = .ok (.invokevirtual 331, 3))
theorem d_M_ask_44 : m_D k_M_ask 44 (.ireturn) 1 := (by decide +kernel : decode prog_14_method_126_code 44 = .ok (.ireturn, 1))
theorem d_M_ask_45 : m_D k_M_ask 45 (.iconst 1) 1 := (by decide +kernel : decode prog_14_method_126_code 45 = .ok (.iconst 1, 1))
theorem d_M_ask_46 : m_D k_M_ask 46 (.istore_n 3) 1 := (by decide +kernel : decode prog_14_method_126_code 46 = .ok (.istore_n 3, 1))
theorem d_M_ask_47 : m_D k_M_ask 47 (.iconst 2) 1 := (by decide +kernel : decode prog_14_method_126_code 47 = .ok (.iconst 2, 1))
theorem d_M_ask_48 : m_D k_M_ask 48 (.istore 4) 2 := (by decide +kernel : decode prog_14_method_126_code 48 = .ok (.istore 4, 2))
theorem d_M_ask_50 : m_D k_M_ask 50 (.iload 4) 2 := (by decide +kernel : decode prog_14_method_126_code 50 = .ok (.iload 4, 2))
theorem d_M_ask_52 : m_D k_M_ask 52 (.bipush 9) 2 := (by decide +kernel : decode prog_14_method_126_code 52 = .ok (.bipush 9, 2))
theorem d_M_ask_54 : m_D k_M_ask 54 (.if_icmp .gt 26) 3 := (by decide +kernel : decode prog_14_method_126_code 54 = .ok (.if_icmp .gt 26, 3))
theorem d_M_ask_57 : m_D k_M_ask 57 (.aload_n 0) 1 := (by decide +kernel : decode prog_14_method_126_code 57 = .ok (.aload_n 0, 1))
theorem d_M_ask_58 : m_D k_M_ask 58 (.iload 4) 2 := (by decide +kernel : decode prog_14_method_126_code 58 = .ok (.iload 4, 2))
theorem d_M_ask_60 : m_D k_M_ask 60 (.invokevirtual 457) 3 := (by decide +kernel : decode prog_14_method_126_code 60 = .ok (.invokevirtual 457, 3))
theorem d_M_ask_63 : m_D k_M_ask 63 (.aload_n 0) 1 := (by decide +kernel : decode prog_14_method_126_code 63 = .ok (.aload_n 0, 1))
theorem d_M_ask_64 : m_D k_M_ask 64 (.iload_n 3) 1 := (by decide +kernel : decode prog_14_method_126_code 64 = .ok (.iload_n 3, 1))
theorem d_M_ask_65 : m_D k_M_ask 65 (.invokevirtual 457) 3 := (by decide +kernel : decode prog_14_method_126_code 65 = .ok (.invokevirtual 457, 3))
theorem d_M_ask_68 : m_D k_M_ask 68 (.if_icmp .le 6) 3 := (by decide +kernel : decode prog_14_method_126_code 68 = .ok (.if_icmp .le 6, 3))
theorem d_M_ask_71 : m_D k_M_ask 71 (.iload 4) 2 := (by decide +kernel : decode prog_14_method_126_code 71 = .ok (.iload 4, 2))
theorem d_M_ask_73 : m_D k_M_ask 73 (.istore_n 3) 1 := (by decide +kernel : decode prog_14_method_126_code 73 = .ok (.istore_n 3, 1))
theorem d_M_ask_74 : m_D k_M_ask 74 (.iinc 4 1) 3 := (by decide +kernel : decode prog_14_method_126_code 74 = .ok (.iinc 4 1, 3))
theorem d_M_ask_77 : m_D k_M_ask 77 (.goto (-27)) 3 := (by decide +kernel : decode prog_14_method_126_code 77 = .ok (.goto (-27), 3))
theorem d_M_ask_80 : m_D k_M_ask 80 (.iload_n 3) 1 := (by decide +kernel : decode prog_14_method_126_code 80 = .ok (.iload_n 3, 1))
theorem d_M_ask_81 : m_D k_M_ask 81 (.ireturn) 1 := (by decide +kernel : decode prog_14_method_126_code 81 = .ok (.ireturn, 1))
def fn_M_ask_l50 (x0 : Option mA) (t4 : Int32 × Int32) : mP ((Int32 × Int32) ⊕ (Int32)) :=
  if 9 < t4.2 then
    m_rt (.inr t4.1)
  else
    m_bd (fn_M_unlike x0 t4.2) fun v5 =>
    m_bd (fn_M_unlike x0 t4.1) fun v6 =>
    m_bd (α := Int32) (
      if v5 ≤ v6 then
        m_rt t4.1
      else
        m_rt t4.2
      ) fun (t7 : Int32) =>
    m_rt (.inl (t7, (t4.2 + 1)))
def fn_M_ask (x0 : Option mA) (x1 : Int32) (x2 : Int32) : mP Int32 :=
  m_th 11 x0 <|
  m_bd (m_pI 11 1 x0 0) fun _ =>
  m_bd (fn_M_whyNotSeen x0 x1 x2) fun v1 =>
  m_bd (m_pI 11 0 x0 v1) fun _ =>
  m_bd (m_gI 11 0 x0) fun v2 =>
  if v2 ≤ 0 then
    m_bd (fn_M_laysSeen x0 x1 x2) fun _ =>
    m_bd (m_gI 11 29 x0) fun v3 =>
    if 2 ≤ v3 then
      m_bd (m_lp (fn_M_ask_l50 x0) m_F (1, 2)) fun (t8 : Int32) =>
      m_rt t8
    else
      m_bd (fn_M_refuse x0 8) fun v9 =>
      m_rt v9
  else
    m_rt (-1)
set_option maxHeartbeats 4000000 in
set_option maxRecDepth 100000 in
theorem sd_M_ask (x0 : Option mA) (x1 : Int32) (x2 : Int32) : m_Sm k_M_ask 4 0 0 [.inr (.inr x0), .inl x1, .inl x2] (fn_M_ask x0 x1 x2) (fun b => some (.inl b)) := by
  refine ⟨Nat.le_of_ble_eq_true rfl, ?_⟩
  refine sm_th ?_
  refine sm_aload_n (i := 0) (j := 0) (pc' := 1) d_M_ask_0 rfl rfl rfl (sm_iconst (pc' := 2) d_M_ask_1 rfl ic_0 (sm_putI (pc' := 5) d_M_ask_2 rfl fl_M_81 (Or.inl rfl) rfl (sm_aload_n (i := 0) (j := 0) (pc' := 6) d_M_ask_5 rfl rfl rfl (sm_aload_n (i := 0) (j := 0) (pc' := 7) d_M_ask_6 rfl rfl rfl (sm_iload_n (i := 1) (j := 1) (pc' := 8) d_M_ask_7 rfl rfl rfl (sm_iload_n (i := 2) (j := 2) (pc' := 9) d_M_ask_8 rfl rfl rfl ?_))))))
  refine sm_callVi (ci := 11) (x := x0) (av := [.inl x1, .inl x2]) (st := [.inr (.inr x0)]) (mc := 0) (ms := 0) (pc' := 12) d_M_ask_9 rfl (sd_M_whyNotSeen x0 x1 x2) m_lv rfl cv_M_whyNotSeen w_ml_M_451 rfl rfl (by decide) (Nat.le_of_ble_eq_true rfl) rfl rfl (fun v1 => ?_)
  refine sm_putI (pc' := 15) d_M_ask_12 rfl fl_M_84 (Or.inl rfl) rfl (sm_aload_n (i := 0) (j := 0) (pc' := 16) d_M_ask_15 rfl rfl rfl ?_)
  refine sm_getI (pc' := 19) d_M_ask_16 rfl fl_M_84 rfl ⟨by decide, by decide⟩ (fun v2 => ?_)
  refine sm_if_le (tgt := 24) (pc' := 22) d_M_ask_19 rfl rfl ?_ ?_
  · refine sm_aload_n (i := 0) (j := 0) (pc' := 25) d_M_ask_24 rfl rfl rfl (sm_iload_n (i := 1) (j := 1) (pc' := 26) d_M_ask_25 rfl rfl rfl (sm_iload_n (i := 2) (j := 2) (pc' := 27) d_M_ask_26 rfl rfl rfl ?_))
    refine sm_callVv (ci := 11) (x := x0) (av := [.inl x1, .inl x2]) (st := []) (mc := 0) (ms := 0) (pc' := 30) d_M_ask_27 rfl (sd_M_laysSeen x0 x1 x2) m_lv rfl cv_M_laysSeen w_ml_M_454 rfl rfl (by decide) (Nat.le_of_ble_eq_true rfl) rfl rfl ?_
    refine sm_aload_n (i := 0) (j := 0) (pc' := 31) d_M_ask_30 rfl rfl rfl ?_
    refine sm_getI (pc' := 34) d_M_ask_31 rfl fl_M_445 rfl ⟨by decide, by decide⟩ (fun v3 => ?_)
    refine sm_iconst (pc' := 35) d_M_ask_34 rfl ic_2 ?_
    refine sm_icmp_ge (tgt := 45) (pc' := 38) d_M_ask_35 rfl rfl ?_ ?_
    · refine sm_iconst (pc' := 46) d_M_ask_45 rfl ic_1 (sm_istore_n (i := 3) (L' := [(3, .inl 1), (0, .inr (.inr x0)), (1, .inl x1), (2, .inl x2)]) (pc' := 47) d_M_ask_46 rfl rfl (Nat.le_of_ble_eq_true rfl) rfl (sm_iconst (pc' := 48) d_M_ask_47 rfl ic_2 (sm_istore (L' := [(4, .inl 2), (3, .inl 1), (0, .inr (.inr x0)), (1, .inl x1), (2, .inl x2)]) (pc' := 50) d_M_ask_48 rfl (Nat.le_of_ble_eq_true rfl) rfl ?_)))
      refine sm_sub [1, 0, 2] rfl ?_
      refine sm_bd (mid := fun (t8 : Int32) => .inl (80, [(3, .inl t8)], [])) (sm_lp (hd := fun (t4 : Int32 × Int32) => (.inl (50, [(3, .inl t4.1), (4, .inl t4.2), (0, .inr (.inr x0))], []) : mC)) (fun t4 => ?_) m_F (1, 2)) (fun t8 => ?_)
      · refine sm_iload (j := 1) (pc' := 52) d_M_ask_50 rfl rfl (sm_bipush (pc' := 54) d_M_ask_52 rfl ib_9 ?_)
        refine sm_icmp_gt (tgt := 80) (pc' := 57) d_M_ask_54 rfl rfl ?_ ?_
        · refine sm_sub [0] rfl ?_
          exact sm_rt rfl
        · refine sm_aload_n (i := 0) (j := 2) (pc' := 58) d_M_ask_57 rfl rfl rfl (sm_iload (j := 1) (pc' := 60) d_M_ask_58 rfl rfl ?_)
          refine sm_callVi (ci := 11) (x := x0) (av := [.inl t4.2]) (st := []) (mc := 0) (ms := 0) (pc' := 63) d_M_ask_60 rfl (sd_M_unlike x0 t4.2) m_lv rfl cv_M_unlike w_ml_M_457 rfl rfl (by decide) (Nat.le_of_ble_eq_true rfl) rfl rfl (fun v5 => ?_)
          refine sm_aload_n (i := 0) (j := 2) (pc' := 64) d_M_ask_63 rfl rfl rfl (sm_iload_n (i := 3) (j := 0) (pc' := 65) d_M_ask_64 rfl rfl rfl ?_)
          refine sm_callVi (ci := 11) (x := x0) (av := [.inl t4.1]) (st := [.inl v5]) (mc := 0) (ms := 0) (pc' := 68) d_M_ask_65 rfl (sd_M_unlike x0 t4.1) m_lv rfl cv_M_unlike w_ml_M_457 rfl rfl (by decide) (Nat.le_of_ble_eq_true rfl) rfl rfl (fun v6 => ?_)
          refine sm_bd (mid := fun (t7 : Int32) => .inl (74, [(0, .inr (.inr x0)), (3, .inl t7), (4, .inl t4.2)], [])) ?_ (fun t7 => ?_)
          · refine sm_icmp_le (tgt := 74) (pc' := 71) d_M_ask_68 rfl rfl ?_ ?_
            · refine sm_sub [2, 0, 1] rfl ?_
              exact sm_rt rfl
            · refine sm_iload (j := 1) (pc' := 73) d_M_ask_71 rfl rfl (sm_istore_n (i := 3) (L' := [(3, .inl t4.2), (4, .inl t4.2), (0, .inr (.inr x0))]) (pc' := 74) d_M_ask_73 rfl rfl (Nat.le_of_ble_eq_true rfl) rfl (sm_sub [2, 0, 1] rfl ?_))
              exact sm_rt rfl
          · refine sm_iinc (j := 2) (L' := [(4, .inl (t4.2 + 1)), (0, .inr (.inr x0)), (3, .inl t7)]) (pc' := 77) d_M_ask_74 rfl (v := (t4.2 + 1)) rfl (ix_1 _) (Nat.le_of_ble_eq_true rfl) rfl (sm_goto (tgt := 50) d_M_ask_77 rfl (sm_sub [2, 0, 1] rfl ?_))
            exact sm_rt rfl
      · refine sm_iload_n (i := 3) (j := 0) (pc' := 81) d_M_ask_80 rfl rfl rfl ?_
        exact sm_ireturn d_M_ask_81 rfl rfl
    · refine sm_aload_n (i := 0) (j := 0) (pc' := 39) d_M_ask_38 rfl rfl rfl (sm_bipush (pc' := 41) d_M_ask_39 rfl ib_8 ?_)
      refine sm_callVi (ci := 11) (x := x0) (av := [.inl 8]) (st := []) (mc := 0) (ms := 0) (pc' := 44) d_M_ask_41 rfl (sd_M_refuse x0 8) m_lv rfl cv_M_refuse w_ml_M_331 rfl rfl (by decide) (Nat.le_of_ble_eq_true rfl) rfl rfl (fun v9 => ?_)
      exact sm_ireturn d_M_ask_44 rfl rfl
  · refine sm_iconst (pc' := 23) d_M_ask_22 rfl ic_m1 ?_
    exact sm_ireturn d_M_ask_23 rfl rfl
theorem d_M_arePeople_0 : m_D k_M_arePeople 0 (.iload_n 1) 1 := (by decide +kernel : decode prog_14_method_127_code 0 = .ok (.iload_n 1, 1))
theorem d_M_arePeople_1 : m_D k_M_arePeople 1 (.i2l) 1 := (by decide +kernel : decode prog_14_method_127_code 1 = .ok (.i2l, 1))
theorem d_M_arePeople_2 : m_D k_M_arePeople 2 (.lconst 0) 1 := (by decide +kernel : decode prog_14_method_127_code 2 = .ok (.lconst 0, 1))
theorem d_M_arePeople_3 : m_D k_M_arePeople 3 (.iconst 1) 1 := (by decide +kernel : decode prog_14_method_127_code 3 = .ok (.iconst 1, 1))
theorem d_M_arePeople_4 : m_D k_M_arePeople 4 (.aload_n 0) 1 := (by decide +kernel : decode prog_14_method_127_code 4 = .ok (.aload_n 0, 1))
theorem d_M_arePeople_5 : m_D k_M_arePeople 5 (.getfield 35) 3 := (by decide +kernel : decode prog_14_method_127_code 5 = .ok (.getfield 35, 3))
theorem d_M_arePeople_8 : m_D k_M_arePeople 8 (.iconst 0) 1 := (by decide +kernel : decode prog_14_method_127_code 8 = .ok (.iconst 0, 1))
theorem d_M_arePeople_9 : m_D k_M_arePeople 9 (.iaload) 1 := (by decide +kernel : decode prog_14_method_127_code 9 = .ok (.iaload, 1))
theorem d_M_arePeople_10 : m_D k_M_arePeople 10 (.ishl) 1 := (by decide +kernel : decode prog_14_method_127_code 10 = .ok (.ishl, 1))
theorem d_M_arePeople_11 : m_D k_M_arePeople 11 (.iconst 1) 1 := (by decide +kernel : decode prog_14_method_127_code 11 = .ok (.iconst 1, 1))
theorem d_M_arePeople_12 : m_D k_M_arePeople 12 (.isub) 1 := (by decide +kernel : decode prog_14_method_127_code 12 = .ok (.isub, 1))
theorem d_M_arePeople_13 : m_D k_M_arePeople 13 (.i2l) 1 := (by decide +kernel : decode prog_14_method_127_code 13 = .ok (.i2l, 1))
theorem d_M_arePeople_14 : m_D k_M_arePeople 14 (.invokestatic 116) 3 := (by decide +kernel : decode prog_14_method_127_code 14 = .ok (.invokestatic 116, 3))
theorem d_M_arePeople_17 : m_D k_M_arePeople 17 (.ireturn) 1 := (by decide +kernel : decode prog_14_method_127_code 17 = .ok (.ireturn, 1))
def fn_M_arePeople (x0 : Option mA) (x1 : Int32) : mP Int32 :=
  m_th 11 x0 <|
  m_bd (m_gR 11 20 x0) fun v1 =>
  m_bd (m_aI 0 v1 0) fun v2 =>
  m_bd (fn_M_isIn (x1).toInt64 0 (((1 <<< (v2 &&& 31)) - 1)).toInt64) fun v3 =>
  m_bd (m_cz v3) fun _ => m_rt v3
set_option maxHeartbeats 4000000 in
set_option maxRecDepth 100000 in
theorem sd_M_arePeople (x0 : Option mA) (x1 : Int32) : m_Sm k_M_arePeople 2 0 0 [.inr (.inr x0), .inl x1] (fn_M_arePeople x0 x1) (fun b => some (.inl b)) := by
  refine ⟨Nat.le_of_ble_eq_true rfl, ?_⟩
  refine sm_th ?_
  refine sm_iload_n (i := 1) (j := 1) (pc' := 1) d_M_arePeople_0 rfl rfl rfl (sm_i2l (pc' := 2) d_M_arePeople_1 rfl (sm_lconst (pc' := 3) (v := 0) d_M_arePeople_2 rfl rfl (sm_iconst (pc' := 4) d_M_arePeople_3 rfl ic_1 (sm_aload_n (i := 0) (j := 0) (pc' := 5) d_M_arePeople_4 rfl rfl rfl ?_))))
  refine sm_getR (pc' := 8) d_M_arePeople_5 rfl fl_M_35 rfl rfl (fun v1 => ?_)
  refine sm_iconst (pc' := 9) d_M_arePeople_8 rfl ic_0 ?_
  refine sm_iald (pc' := 10) d_M_arePeople_9 rfl (fun v2 => ?_)
  refine sm_ishl (pc' := 11) d_M_arePeople_10 rfl (sm_iconst (pc' := 12) d_M_arePeople_11 rfl ic_1 (sm_isub (pc' := 13) d_M_arePeople_12 rfl (sm_i2l (pc' := 14) d_M_arePeople_13 rfl ?_)))
  refine sm_callSi (av := [.inr (.inl (x1).toInt64), .inr (.inl 0), .inr (.inl (((1 <<< (v2 &&& 31)) - 1)).toInt64)]) (st := []) (mc := 0) (ms := 0) (pc' := 17) d_M_arePeople_14 rfl (sd_M_isIn (x1).toInt64 0 (((1 <<< (v2 &&& 31)) - 1)).toInt64) cs_M_isIn w_ml_M_116 rfl rfl (by decide) (Nat.le_of_ble_eq_true rfl) rfl rfl (fun v3 => ?_)
  exact sm_zretC d_M_arePeople_17 rfl rfl
theorem d_M_keepings_0 : m_D k_M_keepings 0 (.iload_n 2) 1 := (by decide +kernel : decode prog_14_method_129_code 0 = .ok (.iload_n 2, 1))
theorem d_M_keepings_1 : m_D k_M_keepings 1 (.aload_n 0) 1 := (by decide +kernel : decode prog_14_method_129_code 1 = .ok (.aload_n 0, 1))
theorem d_M_keepings_2 : m_D k_M_keepings 2 (.getfield 35) 3 := (by decide +kernel : decode prog_14_method_129_code 2 = .ok (.getfield 35, 3))
theorem d_M_keepings_5 : m_D k_M_keepings 5 (.iconst 0) 1 := (by decide +kernel : decode prog_14_method_129_code 5 = .ok (.iconst 0, 1))
theorem d_M_keepings_6 : m_D k_M_keepings 6 (.iaload) 1 := (by decide +kernel : decode prog_14_method_129_code 6 = .ok (.iaload, 1))
theorem d_M_keepings_7 : m_D k_M_keepings 7 (.if_icmp .ne 57) 3 := (by decide +kernel : decode prog_14_method_129_code 7 = .ok (.if_icmp .ne 57, 3))
theorem d_M_keepings_10 : m_D k_M_keepings 10 (.aload_n 0) 1 := (by decide +kernel : decode prog_14_method_129_code 10 = .ok (.aload_n 0, 1))
theorem d_M_keepings_11 : m_D k_M_keepings 11 (.getfield 460) 3 := (by decide +kernel : decode prog_14_method_129_code 11 = .ok (.getfield 460, 3))
theorem d_M_keepings_14 : m_D k_M_keepings 14 (.ifCond .lt 13) 3 := (by decide +kernel : decode prog_14_method_129_code 14 = .ok (.ifCond .lt 13, 3))
theorem d_M_keepings_17 : m_D k_M_keepings 17 (.iload 4) 2 := (by decide +kernel : decode prog_14_method_129_code 17 = .ok (.iload 4, 2))
theorem d_M_keepings_19 : m_D k_M_keepings 19 (.aload_n 0) 1 := (by decide +kernel : decode prog_14_method_129_code 19 = .ok (.aload_n 0, 1))
theorem d_M_keepings_20 : m_D k_M_keepings 20 (.getfield 460) 3 := (by decide +kernel : decode prog_14_method_129_code 20 = .ok (.getfield 460, 3))
theorem d_M_keepings_23 : m_D k_M_keepings 23 (.if_icmp .lt 4) 3 := (by decide +kernel : decode prog_14_method_129_code 23 = .ok (.if_icmp .lt 4, 3))
theorem d_M_keepings_26 : m_D k_M_keepings 26 (.return_) 1 := (by decide +kernel : decode prog_14_method_129_code 26 = .ok (.return_, 1))
theorem d_M_keepings_27 : m_D k_M_keepings 27 (.aload_n 0) 1 := (by decide +kernel : decode prog_14_method_129_code 27 = .ok (.aload_n 0, 1))
theorem d_M_keepings_28 : m_D k_M_keepings 28 (.iload 4) 2 := (by decide +kernel : decode prog_14_method_129_code 28 = .ok (.iload 4, 2))
theorem d_M_keepings_30 : m_D k_M_keepings 30 (.putfield 460) 3 := (by decide +kernel : decode prog_14_method_129_code 30 = .ok (.putfield 460, 3))
theorem d_M_keepings_33 : m_D k_M_keepings 33 (.iconst 0) 1 := (by decide +kernel : decode prog_14_method_129_code 33 = .ok (.iconst 0, 1))
theorem d_M_keepings_34 : m_D k_M_keepings 34 (.istore 5) 2 := (by decide +kernel : decode prog_14_method_129_code 34 = .ok (.istore 5, 2))
theorem d_M_keepings_36 : m_D k_M_keepings 36 (.iload 5) 2 := (by decide +kernel : decode prog_14_method_129_code 36 = .ok (.iload 5, 2))
theorem d_M_keepings_38 : m_D k_M_keepings 38 (.bipush 6) 2 := (by decide +kernel : decode prog_14_method_129_code 38 = .ok (.bipush 6, 2))
theorem d_M_keepings_40 : m_D k_M_keepings 40 (.if_icmp .ge 23) 3 := (by decide +kernel : decode prog_14_method_129_code 40 = .ok (.if_icmp .ge 23, 3))
theorem d_M_keepings_43 : m_D k_M_keepings 43 (.aload_n 0) 1 := (by decide +kernel : decode prog_14_method_129_code 43 = .ok (.aload_n 0, 1))
theorem d_M_keepings_44 : m_D k_M_keepings 44 (.getfield 56) 3 := (by decide +kernel : decode prog_14_method_129_code 44 = .ok (.getfield 56, 3))
theorem d_M_keepings_47 : m_D k_M_keepings 47 (.iload 5) 2 := (by decide +kernel : decode prog_14_method_129_code 47 = .ok (.iload 5, 2))
theorem d_M_keepings_49 : m_D k_M_keepings 49 (.aload_n 0) 1 := (by decide +kernel : decode prog_14_method_129_code 49 = .ok (.aload_n 0, 1))
theorem d_M_keepings_50 : m_D k_M_keepings 50 (.getfield 53) 3 := (by decide +kernel : decode prog_14_method_129_code 50 = .ok (.getfield 53, 3))
theorem d_M_keepings_53 : m_D k_M_keepings 53 (.iload 5) 2 := (by decide +kernel : decode prog_14_method_129_code 53 = .ok (.iload 5, 2))
theorem d_M_keepings_55 : m_D k_M_keepings 55 (.iaload) 1 := (by decide +kernel : decode prog_14_method_129_code 55 = .ok (.iaload, 1))
theorem d_M_keepings_56 : m_D k_M_keepings 56 (.iastore) 1 := (by decide +kernel : decode prog_14_method_129_code 56 = .ok (.iastore, 1))
theorem d_M_keepings_57 : m_D k_M_keepings 57 (.iinc 5 1) 3 := (by decide +kernel : decode prog_14_method_129_code 57 = .ok (.iinc 5 1, 3))
theorem d_M_keepings_60 : m_D k_M_keepings 60 (.goto (-24)) 3 := (by decide +kernel : decode prog_14_method_129_code 60 = .ok (.goto (-24), 3))
theorem d_M_keepings_63 : m_D k_M_keepings 63 (.return_) 1 := (by decide +kernel : decode prog_14_method_129_code 63 = .ok (.return_, 1))
theorem d_M_keepings_64 : m_D k_M_keepings 64 (.aload_n 0) 1 := (by decide +kernel : decode prog_14_method_129_code 64 = .ok (.aload_n 0, 1))
theorem d_M_keepings_65 : m_D k_M_keepings 65 (.getfield 53) 3 := (by decide +kernel : decode prog_14_method_129_code 65 = .ok (.getfield 53, 3))
theorem d_M_keepings_68 : m_D k_M_keepings 68 (.iload_n 2) 1 := (by decide +kernel : decode prog_14_method_129_code 68 = .ok (.iload_n 2, 1))
theorem d_M_keepings_69 : m_D k_M_keepings 69 (.iconst (-1)) 1 := (by decide +kernel : decode prog_14_method_129_code 69 = .ok (.iconst (-1), 1))
theorem d_M_keepings_70 : m_D k_M_keepings 70 (.iastore) 1 := (by decide +kernel : decode prog_14_method_129_code 70 = .ok (.iastore, 1))
theorem d_M_keepings_71 : m_D k_M_keepings 71 (.iload_n 1) 1 := (by decide +kernel : decode prog_14_method_129_code 71 = .ok (.iload_n 1, 1))
theorem d_M_keepings_72 : m_D k_M_keepings 72 (.iload_n 2) 1 := (by decide +kernel : decode prog_14_method_129_code 72 = .ok (.iload_n 2, 1))
theorem d_M_keepings_73 : m_D k_M_keepings 73 (.invokestatic 120) 3 := (by decide +kernel : decode prog_14_method_129_code 73 = .ok (.invokestatic 120, 3))
theorem d_M_keepings_76 : m_D k_M_keepings 76 (.ifCond .ne 15) 3 := (by decide +kernel : decode prog_14_method_129_code 76 = .ok (.ifCond .ne 15, 3))
theorem d_M_keepings_79 : m_D k_M_keepings 79 (.aload_n 0) 1 := (by decide +kernel : decode prog_14_method_129_code 79 = .ok (.aload_n 0, 1))
theorem d_M_keepings_80 : m_D k_M_keepings 80 (.iload_n 1) 1 := (by decide +kernel : decode prog_14_method_129_code 80 = .ok (.iload_n 1, 1))
theorem d_M_keepings_81 : m_D k_M_keepings 81 (.iload_n 2) 1 := (by decide +kernel : decode prog_14_method_129_code 81 = .ok (.iload_n 2, 1))
theorem d_M_keepings_82 : m_D k_M_keepings 82 (.iconst 1) 1 := (by decide +kernel : decode prog_14_method_129_code 82 = .ok (.iconst 1, 1))
theorem d_M_keepings_83 : m_D k_M_keepings 83 (.iadd) 1 := (by decide +kernel : decode prog_14_method_129_code 83 = .ok (.iadd, 1))
theorem d_M_keepings_84 : m_D k_M_keepings 84 (.iload_n 3) 1 := (by decide +kernel : decode prog_14_method_129_code 84 = .ok (.iload_n 3, 1))
theorem d_M_keepings_85 : m_D k_M_keepings 85 (.iload 4) 2 := (by decide +kernel : decode prog_14_method_129_code 85 = .ok (.iload 4, 2))
theorem d_M_keepings_87 : m_D k_M_keepings 87 (.invokevirtual 463) 3 := (by decide +kernel : decode prog_14_method_129_code 87 = .ok (.invokevirtual 463, 3))
theorem d_M_keepings_90 : m_D k_M_keepings 90 (.return_) 1 := (by decide +kernel : decode prog_14_method_129_code 90 = .ok (.return_, 1))
theorem d_M_keepings_91 : m_D k_M_keepings 91 (.iconst 0) 1 := (by decide +kernel : decode prog_14_method_129_code 91 = .ok (.iconst 0, 1))
theorem d_M_keepings_92 : m_D k_M_keepings 92 (.istore 5) 2 := (by decide +kernel : decode prog_14_method_129_code 92 = .ok (.istore 5, 2))
theorem d_M_keepings_94 : m_D k_M_keepings 94 (.iload 5) 2 := (by decide +kernel : decode prog_14_method_129_code 94 = .ok (.iload 5, 2))
theorem d_M_keepings_96 : m_D k_M_keepings 96 (.aload_n 0) 1 := (by decide +kernel : decode prog_14_method_129_code 96 = .ok (.aload_n 0, 1))
theorem d_M_keepings_97 : m_D k_M_keepings 97 (.getfield 35) 3 := (by decide +kernel : decode prog_14_method_129_code 97 = .ok (.getfield 35, 3))
theorem d_M_keepings_100 : m_D k_M_keepings 100 (.iconst 1) 1 := (by decide +kernel : decode prog_14_method_129_code 100 = .ok (.iconst 1, 1))
theorem d_M_keepings_101 : m_D k_M_keepings 101 (.iaload) 1 := (by decide +kernel : decode prog_14_method_129_code 101 = .ok (.iaload, 1))
theorem d_M_keepings_102 : m_D k_M_keepings 102 (.if_icmp .ge 53) 3 := (by decide +kernel : decode prog_14_method_129_code 102 = .ok (.if_icmp .ge 53, 3))
theorem d_M_keepings_105 : m_D k_M_keepings 105 (.iload_n 3) 1 := (by decide +kernel : decode prog_14_method_129_code 105 = .ok (.iload_n 3, 1))
theorem d_M_keepings_106 : m_D k_M_keepings 106 (.iload 5) 2 := (by decide +kernel : decode prog_14_method_129_code 106 = .ok (.iload 5, 2))
theorem d_M_keepings_108 : m_D k_M_keepings 108 (.invokestatic 120) 3 := (by decide +kernel : decode prog_14_method_129_code 108 = .ok (.invokestatic 120, 3))
theorem d_M_keepings_111 : m_D k_M_keepings 111 (.ifCond .eq 6) 3 := (by decide +kernel : decode prog_14_method_129_code 111 = .ok (.ifCond .eq 6, 3))
theorem d_M_keepings_114 : m_D k_M_keepings 114 (.goto 35) 3 := (by decide +kernel : decode prog_14_method_129_code 114 = .ok (.goto 35, 3))
theorem d_M_keepings_117 : m_D k_M_keepings 117 (.aload_n 0) 1 := (by decide +kernel : decode prog_14_method_129_code 117 = .ok (.aload_n 0, 1))
theorem d_M_keepings_118 : m_D k_M_keepings 118 (.getfield 53) 3 := (by decide +kernel : decode prog_14_method_129_code 118 = .ok (.getfield 53, 3))
theorem d_M_keepings_121 : m_D k_M_keepings 121 (.iload_n 2) 1 := (by decide +kernel : decode prog_14_method_129_code 121 = .ok (.iload_n 2, 1))
theorem d_M_keepings_122 : m_D k_M_keepings 122 (.iload 5) 2 := (by decide +kernel : decode prog_14_method_129_code 122 = .ok (.iload 5, 2))
theorem d_M_keepings_124 : m_D k_M_keepings 124 (.iastore) 1 := (by decide +kernel : decode prog_14_method_129_code 124 = .ok (.iastore, 1))
theorem d_M_keepings_125 : m_D k_M_keepings 125 (.aload_n 0) 1 := (by decide +kernel : decode prog_14_method_129_code 125 = .ok (.aload_n 0, 1))
theorem d_M_keepings_126 : m_D k_M_keepings 126 (.iload_n 1) 1 := (by decide +kernel : decode prog_14_method_129_code 126 = .ok (.iload_n 1, 1))
theorem d_M_keepings_127 : m_D k_M_keepings 127 (.iload_n 2) 1 := (by decide +kernel : decode prog_14_method_129_code 127 = .ok (.iload_n 2, 1))
theorem d_M_keepings_128 : m_D k_M_keepings 128 (.iconst 1) 1 := (by decide +kernel : decode prog_14_method_129_code 128 = .ok (.iconst 1, 1))
theorem d_M_keepings_129 : m_D k_M_keepings 129 (.iadd) 1 := (by decide +kernel : decode prog_14_method_129_code 129 = .ok (.iadd, 1))
theorem d_M_keepings_130 : m_D k_M_keepings 130 (.iload_n 3) 1 := (by decide +kernel : decode prog_14_method_129_code 130 = .ok (.iload_n 3, 1))
theorem d_M_keepings_131 : m_D k_M_keepings 131 (.iconst 1) 1 := (by decide +kernel : decode prog_14_method_129_code 131 = .ok (.iconst 1, 1))
theorem d_M_keepings_132 : m_D k_M_keepings 132 (.iload 5) 2 := (by decide +kernel : decode prog_14_method_129_code 132 = .ok (.iload 5, 2))
theorem d_M_keepings_134 : m_D k_M_keepings 134 (.ishl) 1 := (by decide +kernel : decode prog_14_method_129_code 134 = .ok (.ishl, 1))
theorem d_M_keepings_135 : m_D k_M_keepings 135 (.ior) 1 := (by decide +kernel : decode prog_14_method_129_code 135 = .ok (.ior, 1))
theorem d_M_keepings_136 : m_D k_M_keepings 136 (.iload 4) 2 := (by decide +kernel : decode prog_14_method_129_code 136 = .ok (.iload 4, 2))
theorem d_M_keepings_138 : m_D k_M_keepings 138 (.aload_n 0) 1 := (by decide +kernel : decode prog_14_method_129_code 138 = .ok (.aload_n 0, 1))
theorem d_M_keepings_139 : m_D k_M_keepings 139 (.iload_n 2) 1 := (by decide +kernel : decode prog_14_method_129_code 139 = .ok (.iload_n 2, 1))
theorem d_M_keepings_140 : m_D k_M_keepings 140 (.iload 5) 2 := (by decide +kernel : decode prog_14_method_129_code 140 = .ok (.iload 5, 2))
theorem d_M_keepings_142 : m_D k_M_keepings 142 (.invokevirtual 316) 3 := (by decide +kernel : decode prog_14_method_129_code 142 = .ok (.invokevirtual 316, 3))
theorem d_M_keepings_145 : m_D k_M_keepings 145 (.iadd) 1 := (by decide +kernel : decode prog_14_method_129_code 145 = .ok (.iadd, 1))
theorem d_M_keepings_146 : m_D k_M_keepings 146 (.invokevirtual 463) 3 := (by decide +kernel : decode prog_14_method_129_code 146 = .ok (.invokevirtual 463, 3))
theorem d_M_keepings_149 : m_D k_M_keepings 149 (.iinc 5 1) 3 := (by decide +kernel : decode prog_14_method_129_code 149 = .ok (.iinc 5 1, 3))
theorem d_M_keepings_152 : m_D k_M_keepings 152 (.goto (-58)) 3 := (by decide +kernel : decode prog_14_method_129_code 152 = .ok (.goto (-58), 3))
theorem d_M_keepings_155 : m_D k_M_keepings 155 (.return_) 1 := (by decide +kernel : decode prog_14_method_129_code 155 = .ok (.return_, 1))
def fn_M_keepings_l94 (r : Option mA → Int32 → Int32 → Int32 → Int32 → mP Unit) (x0 : Option mA) (x1 : Int32) (x2 : Int32) (x3 : Int32) (x4 : Int32) (t5 : Int32) : mP ((Int32) ⊕ (Unit)) :=
  m_bd (m_gR 11 20 x0) fun v6 =>
  m_bd (m_aI 0 v6 1) fun v7 =>
  if v7 ≤ t5 then
    m_rt (.inr ())
  else
    m_bd (fn_M_has x3 t5) fun v8 =>
    m_bd (α := Unit) (
      if v8 = 0 then
        m_bd (m_gR 11 32 x0) fun v9 =>
        m_bd (m_tI 0 v9 x2 t5) fun _ =>
        m_bd (fn_M_loveOf x0 x2 t5) fun v10 =>
        m_bd (r x0 x1 (x2 + 1) (x3 ||| (1 <<< (t5 &&& 31))) (x4 + v10)) fun _ =>
        m_rt ()
      else
        m_rt ()
      ) fun (t11 : Unit) =>
    m_rt (.inl (t5 + 1))
def fn_M_keepings_l36 (x0 : Option mA) (t14 : Int32) : mP ((Int32) ⊕ (Unit)) :=
  if 6 ≤ t14 then
    m_rt (.inr ())
  else
    m_bd (m_gR 11 33 x0) fun v15 =>
    m_bd (m_gR 11 32 x0) fun v16 =>
    m_bd (m_aI 0 v16 t14) fun v17 =>
    m_bd (m_tI 0 v15 t14 v17) fun _ =>
    m_rt (.inl (t14 + 1))
def fn_M_keepings_r (r : Option mA → Int32 → Int32 → Int32 → Int32 → mP Unit) (x0 : Option mA) (x1 : Int32) (x2 : Int32) (x3 : Int32) (x4 : Int32) : mP Unit :=
  m_th 11 x0 <|
  m_bd (m_gR 11 20 x0) fun v1 =>
  m_bd (m_aI 0 v1 0) fun v2 =>
  if x2 = v2 then
    m_bd (m_gI 11 34 x0) fun v13 =>
    if v13 < 0 then
      m_bd (m_pI 11 34 x0 x4) fun _ =>
      m_bd (m_lp (fn_M_keepings_l36 x0) m_F 0) fun (t18 : Unit) =>
      m_rt ()
    else
      m_bd (m_gI 11 34 x0) fun v19 =>
      if x4 < v19 then
        m_bd (m_pI 11 34 x0 x4) fun _ =>
        m_bd (m_lp (fn_M_keepings_l36 x0) m_F 0) fun (t24 : Unit) =>
        m_rt ()
      else
        m_rt ()
  else
    m_bd (m_gR 11 32 x0) fun v3 =>
    m_bd (m_tI 0 v3 x2 (-1)) fun _ =>
    m_bd (fn_M_has x1 x2) fun v4 =>
    if v4 = 0 then
      m_bd (r x0 x1 (x2 + 1) x3 x4) fun _ =>
      m_rt ()
    else
      m_bd (m_lp (fn_M_keepings_l94 r x0 x1 x2 x3 x4) m_F 0) fun (t12 : Unit) =>
      m_rt ()
set_option maxHeartbeats 4000000 in
set_option maxRecDepth 100000 in
theorem sd_M_keepings_r (r : Option mA → Int32 → Int32 → Int32 → Int32 → mP Unit) (dr : Nat) (hr : ∀ (y0 : Option mA) (y1 : Int32) (y2 : Int32) (y3 : Int32) (y4 : Int32), m_Sm k_M_keepings dr 0 0 [.inr (.inr y0), .inl y1, .inl y2, .inl y3, .inl y4] (r y0 y1 y2 y3 y4) (fun _ => none)) (hv : ∀ (y0 : Option mA) (y1 : Int32) (y2 : Int32) (y3 : Int32) (y4 : Int32), m_Lv 11 y0 (r y0 y1 y2 y3 y4)) (x0 : Option mA) (x1 : Int32) (x2 : Int32) (x3 : Int32) (x4 : Int32) : m_Sm k_M_keepings ((max 2 (dr + 1))) 0 0 [.inr (.inr x0), .inl x1, .inl x2, .inl x3, .inl x4] (fn_M_keepings_r r x0 x1 x2 x3 x4) (fun _ => none) := by
  refine ⟨Nat.le_of_ble_eq_true rfl, ?_⟩
  refine sm_th ?_
  refine sm_iload_n (i := 2) (j := 2) (pc' := 1) d_M_keepings_0 rfl rfl rfl (sm_aload_n (i := 0) (j := 0) (pc' := 2) d_M_keepings_1 rfl rfl rfl ?_)
  refine sm_getR (pc' := 5) d_M_keepings_2 rfl fl_M_35 rfl rfl (fun v1 => ?_)
  refine sm_iconst (pc' := 6) d_M_keepings_5 rfl ic_0 ?_
  refine sm_iald (pc' := 7) d_M_keepings_6 rfl (fun v2 => ?_)
  refine sm_icmp_ne (tgt := 64) (pc' := 10) d_M_keepings_7 rfl rfl ?_ ?_
  · refine sm_aload_n (i := 0) (j := 0) (pc' := 65) d_M_keepings_64 rfl rfl rfl ?_
    refine sm_getR (pc' := 68) d_M_keepings_65 rfl fl_M_53 rfl rfl (fun v3 => ?_)
    refine sm_iload_n (i := 2) (j := 2) (pc' := 69) d_M_keepings_68 rfl rfl rfl (sm_iconst (pc' := 70) d_M_keepings_69 rfl ic_m1 (sm_iast (pc' := 71) d_M_keepings_70 rfl (sm_iload_n (i := 1) (j := 1) (pc' := 72) d_M_keepings_71 rfl rfl rfl (sm_iload_n (i := 2) (j := 2) (pc' := 73) d_M_keepings_72 rfl rfl rfl ?_))))
    refine sm_callSi (av := [.inl x1, .inl x2]) (st := []) (mc := 0) (ms := 0) (pc' := 76) d_M_keepings_73 rfl (sd_M_has x1 x2) cs_M_has w_ml_M_120 rfl rfl (by omega) (Nat.le_of_ble_eq_true rfl) rfl rfl (fun v4 => ?_)
    refine sm_if_ne (tgt := 91) (pc' := 79) d_M_keepings_76 rfl rfl ?_ ?_
    · refine sm_iconst (pc' := 92) d_M_keepings_91 rfl ic_0 (sm_istore (L' := [(5, .inl 0), (0, .inr (.inr x0)), (1, .inl x1), (2, .inl x2), (3, .inl x3), (4, .inl x4)]) (pc' := 94) d_M_keepings_92 rfl (Nat.le_of_ble_eq_true rfl) rfl ?_)
      refine sm_sub [0, 1, 2, 3, 4, 5] rfl ?_
      refine sm_bd (mid := fun (t12 : Unit) => .inl (155, [], [])) (sm_lp (hd := fun (t5 : Int32) => (.inl (94, [(5, .inl t5), (0, .inr (.inr x0)), (1, .inl x1), (2, .inl x2), (3, .inl x3), (4, .inl x4)], []) : mC)) (fun t5 => ?_) m_F 0) (fun t12 => ?_)
      · refine sm_iload (j := 0) (pc' := 96) d_M_keepings_94 rfl rfl (sm_aload_n (i := 0) (j := 1) (pc' := 97) d_M_keepings_96 rfl rfl rfl ?_)
        refine sm_getR (pc' := 100) d_M_keepings_97 rfl fl_M_35 rfl rfl (fun v6 => ?_)
        refine sm_iconst (pc' := 101) d_M_keepings_100 rfl ic_1 ?_
        refine sm_iald (pc' := 102) d_M_keepings_101 rfl (fun v7 => ?_)
        refine sm_icmp_ge (tgt := 155) (pc' := 105) d_M_keepings_102 rfl rfl ?_ ?_
        · refine sm_sub [] rfl ?_
          exact sm_rt rfl
        · refine sm_iload_n (i := 3) (j := 4) (pc' := 106) d_M_keepings_105 rfl rfl rfl (sm_iload (j := 0) (pc' := 108) d_M_keepings_106 rfl rfl ?_)
          refine sm_callSi (av := [.inl x3, .inl t5]) (st := []) (mc := 0) (ms := 0) (pc' := 111) d_M_keepings_108 rfl (sd_M_has x3 t5) cs_M_has w_ml_M_120 rfl rfl (by omega) (Nat.le_of_ble_eq_true rfl) rfl rfl (fun v8 => ?_)
          refine sm_bd (mid := fun (t11 : Unit) => .inl (149, [(0, .inr (.inr x0)), (1, .inl x1), (2, .inl x2), (3, .inl x3), (4, .inl x4), (5, .inl t5)], [])) ?_ (fun t11 => ?_)
          · refine sm_if_eq (tgt := 117) (pc' := 114) d_M_keepings_111 rfl rfl ?_ ?_
            · refine sm_aload_n (i := 0) (j := 1) (pc' := 118) d_M_keepings_117 rfl rfl rfl ?_
              refine sm_getR (pc' := 121) d_M_keepings_118 rfl fl_M_53 rfl rfl (fun v9 => ?_)
              refine sm_iload_n (i := 2) (j := 3) (pc' := 122) d_M_keepings_121 rfl rfl rfl (sm_iload (j := 0) (pc' := 124) d_M_keepings_122 rfl rfl (sm_iast (pc' := 125) d_M_keepings_124 rfl (sm_aload_n (i := 0) (j := 1) (pc' := 126) d_M_keepings_125 rfl rfl rfl (sm_iload_n (i := 1) (j := 2) (pc' := 127) d_M_keepings_126 rfl rfl rfl (sm_iload_n (i := 2) (j := 3) (pc' := 128) d_M_keepings_127 rfl rfl rfl (sm_iconst (pc' := 129) d_M_keepings_128 rfl ic_1 (sm_iadd (pc' := 130) d_M_keepings_129 rfl (sm_iload_n (i := 3) (j := 4) (pc' := 131) d_M_keepings_130 rfl rfl rfl (sm_iconst (pc' := 132) d_M_keepings_131 rfl ic_1 ?_)))))))))
              refine sm_iload (j := 0) (pc' := 134) d_M_keepings_132 rfl rfl (sm_ishl (pc' := 135) d_M_keepings_134 rfl (sm_ior (pc' := 136) d_M_keepings_135 rfl (sm_iload (j := 5) (pc' := 138) d_M_keepings_136 rfl rfl (sm_aload_n (i := 0) (j := 1) (pc' := 139) d_M_keepings_138 rfl rfl rfl (sm_iload_n (i := 2) (j := 3) (pc' := 140) d_M_keepings_139 rfl rfl rfl (sm_iload (j := 0) (pc' := 142) d_M_keepings_140 rfl rfl ?_))))))
              refine sm_callVi (ci := 11) (x := x0) (av := [.inl x2, .inl t5]) (st := [.inl x4, .inl (x3 ||| (1 <<< (t5 &&& 31))), .inl (x2 + 1), .inl x1, .inr (.inr x0)]) (mc := 0) (ms := 0) (pc' := 145) d_M_keepings_142 rfl (sd_M_loveOf x0 x2 t5) m_lv rfl cv_M_loveOf w_ml_M_316 rfl rfl (by omega) (Nat.le_of_ble_eq_true rfl) rfl rfl (fun v10 => ?_)
              refine sm_iadd (pc' := 146) d_M_keepings_145 rfl ?_
              refine sm_callVv (ci := 11) (x := x0) (av := [.inl x1, .inl (x2 + 1), .inl (x3 ||| (1 <<< (t5 &&& 31))), .inl (x4 + v10)]) (st := []) (mc := 0) (ms := 0) (pc' := 149) d_M_keepings_146 rfl (hr x0 x1 (x2 + 1) (x3 ||| (1 <<< (t5 &&& 31))) (x4 + v10)) (hv x0 x1 (x2 + 1) (x3 ||| (1 <<< (t5 &&& 31))) (x4 + v10)) rfl cv_M_keepings w_ml_M_463 rfl rfl (by omega) (Nat.le_of_ble_eq_true rfl) rfl rfl ?_
              refine sm_sub [1, 2, 3, 4, 5, 0] rfl ?_
              exact sm_rt rfl
            · refine sm_goto (tgt := 149) d_M_keepings_114 rfl (sm_sub [1, 2, 3, 4, 5, 0] rfl ?_)
              exact sm_rt rfl
          · refine sm_iinc (j := 5) (L' := [(5, .inl (t5 + 1)), (0, .inr (.inr x0)), (1, .inl x1), (2, .inl x2), (3, .inl x3), (4, .inl x4)]) (pc' := 152) d_M_keepings_149 rfl (v := (t5 + 1)) rfl (ix_1 _) (Nat.le_of_ble_eq_true rfl) rfl (sm_goto (tgt := 94) d_M_keepings_152 rfl (sm_sub [0, 1, 2, 3, 4, 5] rfl ?_))
            exact sm_rt rfl
      · exact sm_return d_M_keepings_155 rfl rfl
    · refine sm_aload_n (i := 0) (j := 0) (pc' := 80) d_M_keepings_79 rfl rfl rfl (sm_iload_n (i := 1) (j := 1) (pc' := 81) d_M_keepings_80 rfl rfl rfl (sm_iload_n (i := 2) (j := 2) (pc' := 82) d_M_keepings_81 rfl rfl rfl (sm_iconst (pc' := 83) d_M_keepings_82 rfl ic_1 (sm_iadd (pc' := 84) d_M_keepings_83 rfl (sm_iload_n (i := 3) (j := 3) (pc' := 85) d_M_keepings_84 rfl rfl rfl (sm_iload (j := 4) (pc' := 87) d_M_keepings_85 rfl rfl ?_))))))
      refine sm_callVv (ci := 11) (x := x0) (av := [.inl x1, .inl (x2 + 1), .inl x3, .inl x4]) (st := []) (mc := 0) (ms := 0) (pc' := 90) d_M_keepings_87 rfl (hr x0 x1 (x2 + 1) x3 x4) (hv x0 x1 (x2 + 1) x3 x4) rfl cv_M_keepings w_ml_M_463 rfl rfl (by omega) (Nat.le_of_ble_eq_true rfl) rfl rfl ?_
      exact sm_return d_M_keepings_90 rfl rfl
  · refine sm_aload_n (i := 0) (j := 0) (pc' := 11) d_M_keepings_10 rfl rfl rfl ?_
    refine sm_getI (pc' := 14) d_M_keepings_11 rfl fl_M_460 rfl ⟨by decide, by decide⟩ (fun v13 => ?_)
    refine sm_if_lt (tgt := 27) (pc' := 17) d_M_keepings_14 rfl rfl ?_ ?_
    · refine sm_aload_n (i := 0) (j := 0) (pc' := 28) d_M_keepings_27 rfl rfl rfl (sm_iload (j := 4) (pc' := 30) d_M_keepings_28 rfl rfl (sm_putI (pc' := 33) d_M_keepings_30 rfl fl_M_460 (Or.inl rfl) rfl (sm_iconst (pc' := 34) d_M_keepings_33 rfl ic_0 (sm_istore (L' := [(5, .inl 0), (0, .inr (.inr x0)), (1, .inl x1), (2, .inl x2), (3, .inl x3), (4, .inl x4)]) (pc' := 36) d_M_keepings_34 rfl (Nat.le_of_ble_eq_true rfl) rfl ?_))))
      refine sm_sub [0, 1] rfl ?_
      refine sm_bd (mid := fun (t18 : Unit) => .inl (63, [], [])) (sm_lp (hd := fun (t14 : Int32) => (.inl (36, [(5, .inl t14), (0, .inr (.inr x0))], []) : mC)) (fun t14 => ?_) m_F 0) (fun t18 => ?_)
      · refine sm_iload (j := 0) (pc' := 38) d_M_keepings_36 rfl rfl (sm_bipush (pc' := 40) d_M_keepings_38 rfl ib_6 ?_)
        refine sm_icmp_ge (tgt := 63) (pc' := 43) d_M_keepings_40 rfl rfl ?_ ?_
        · refine sm_sub [] rfl ?_
          exact sm_rt rfl
        · refine sm_aload_n (i := 0) (j := 1) (pc' := 44) d_M_keepings_43 rfl rfl rfl ?_
          refine sm_getR (pc' := 47) d_M_keepings_44 rfl fl_M_56 rfl rfl (fun v15 => ?_)
          refine sm_iload (j := 0) (pc' := 49) d_M_keepings_47 rfl rfl (sm_aload_n (i := 0) (j := 1) (pc' := 50) d_M_keepings_49 rfl rfl rfl ?_)
          refine sm_getR (pc' := 53) d_M_keepings_50 rfl fl_M_53 rfl rfl (fun v16 => ?_)
          refine sm_iload (j := 0) (pc' := 55) d_M_keepings_53 rfl rfl ?_
          refine sm_iald (pc' := 56) d_M_keepings_55 rfl (fun v17 => ?_)
          refine sm_iast (pc' := 57) d_M_keepings_56 rfl (sm_iinc (j := 0) (L' := [(5, .inl (t14 + 1)), (0, .inr (.inr x0))]) (pc' := 60) d_M_keepings_57 rfl (v := (t14 + 1)) rfl (ix_1 _) (Nat.le_of_ble_eq_true rfl) rfl (sm_goto (tgt := 36) d_M_keepings_60 rfl (sm_sub [0, 1] rfl ?_)))
          exact sm_rt rfl
      · exact sm_return d_M_keepings_63 rfl rfl
    · refine sm_iload (j := 4) (pc' := 19) d_M_keepings_17 rfl rfl (sm_aload_n (i := 0) (j := 0) (pc' := 20) d_M_keepings_19 rfl rfl rfl ?_)
      refine sm_getI (pc' := 23) d_M_keepings_20 rfl fl_M_460 rfl ⟨by decide, by decide⟩ (fun v19 => ?_)
      refine sm_icmp_lt (tgt := 27) (pc' := 26) d_M_keepings_23 rfl rfl ?_ ?_
      · refine sm_aload_n (i := 0) (j := 0) (pc' := 28) d_M_keepings_27 rfl rfl rfl (sm_iload (j := 4) (pc' := 30) d_M_keepings_28 rfl rfl (sm_putI (pc' := 33) d_M_keepings_30 rfl fl_M_460 (Or.inl rfl) rfl (sm_iconst (pc' := 34) d_M_keepings_33 rfl ic_0 (sm_istore (L' := [(5, .inl 0), (0, .inr (.inr x0)), (1, .inl x1), (2, .inl x2), (3, .inl x3), (4, .inl x4)]) (pc' := 36) d_M_keepings_34 rfl (Nat.le_of_ble_eq_true rfl) rfl ?_))))
        refine sm_sub [0, 1] rfl ?_
        refine sm_bd (mid := fun (t24 : Unit) => .inl (63, [], [])) (sm_lp (hd := fun (t20 : Int32) => (.inl (36, [(5, .inl t20), (0, .inr (.inr x0))], []) : mC)) (fun t20 => ?_) m_F 0) (fun t24 => ?_)
        · refine sm_iload (j := 0) (pc' := 38) d_M_keepings_36 rfl rfl (sm_bipush (pc' := 40) d_M_keepings_38 rfl ib_6 ?_)
          refine sm_icmp_ge (tgt := 63) (pc' := 43) d_M_keepings_40 rfl rfl ?_ ?_
          · refine sm_sub [] rfl ?_
            exact sm_rt rfl
          · refine sm_aload_n (i := 0) (j := 1) (pc' := 44) d_M_keepings_43 rfl rfl rfl ?_
            refine sm_getR (pc' := 47) d_M_keepings_44 rfl fl_M_56 rfl rfl (fun v21 => ?_)
            refine sm_iload (j := 0) (pc' := 49) d_M_keepings_47 rfl rfl (sm_aload_n (i := 0) (j := 1) (pc' := 50) d_M_keepings_49 rfl rfl rfl ?_)
            refine sm_getR (pc' := 53) d_M_keepings_50 rfl fl_M_53 rfl rfl (fun v22 => ?_)
            refine sm_iload (j := 0) (pc' := 55) d_M_keepings_53 rfl rfl ?_
            refine sm_iald (pc' := 56) d_M_keepings_55 rfl (fun v23 => ?_)
            refine sm_iast (pc' := 57) d_M_keepings_56 rfl (sm_iinc (j := 0) (L' := [(5, .inl (t20 + 1)), (0, .inr (.inr x0))]) (pc' := 60) d_M_keepings_57 rfl (v := (t20 + 1)) rfl (ix_1 _) (Nat.le_of_ble_eq_true rfl) rfl (sm_goto (tgt := 36) d_M_keepings_60 rfl (sm_sub [0, 1] rfl ?_)))
            exact sm_rt rfl
        · exact sm_return d_M_keepings_63 rfl rfl
      · exact sm_return d_M_keepings_26 rfl rfl
def fn_M_keepings : Nat → Option mA → Int32 → Int32 → Int32 → Int32 → mP Unit
  | 0, _, _, _, _, _ => m_fl
  | n + 1, x0, x1, x2, x3, x4 => fn_M_keepings_r (fn_M_keepings n) x0 x1 x2 x3 x4
theorem lv_M_keepings : ∀ (n : Nat) (x0 : Option mA) (x1 : Int32) (x2 : Int32) (x3 : Int32) (x4 : Int32), m_Lv 11 x0 (fn_M_keepings n x0 x1 x2 x3 x4)
  | 0, _, _, _, _, _ => m_lv0
  | n + 1, _, _, _, _, _ => m_lv
theorem sd_M_keepings : ∀ (n : Nat) (x0 : Option mA) (x1 : Int32) (x2 : Int32) (x3 : Int32) (x4 : Int32), m_Sm k_M_keepings (2 + n * 1) 0 0 [.inr (.inr x0), .inl x1, .inl x2, .inl x3, .inl x4] (fn_M_keepings n x0 x1 x2 x3 x4) (fun _ => none)
  | 0, x0, x1, x2, x3, x4 => ⟨Nat.le_of_ble_eq_true rfl, sm_fl⟩
  | n + 1, x0, x1, x2, x3, x4 => m_Sm_mono (by omega) (sd_M_keepings_r (fn_M_keepings n) (2 + n * 1) (sd_M_keepings n) (lv_M_keepings n) x0 x1 x2 x3 x4)
