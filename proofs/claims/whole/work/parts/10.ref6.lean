/-! 10.ref6, laid by wip/whole/gen.py -/
theorem d_M_canKeep_0 : m_D k_M_canKeep 0 (.aload_n 0) 1 := (by decide +kernel : decode prog_14_method_128_code 0 = .ok (.aload_n 0, 1))
theorem d_M_canKeep_1 : m_D k_M_canKeep 1 (.iconst (-1)) 1 := (by decide +kernel : decode prog_14_method_128_code 1 = .ok (.iconst (-1), 1))
theorem d_M_canKeep_2 : m_D k_M_canKeep 2 (.putfield 460) 3 := (by decide +kernel : decode prog_14_method_128_code 2 = .ok (.putfield 460, 3))
theorem d_M_canKeep_5 : m_D k_M_canKeep 5 (.aload_n 0) 1 := (by decide +kernel : decode prog_14_method_128_code 5 = .ok (.aload_n 0, 1))
theorem d_M_canKeep_6 : m_D k_M_canKeep 6 (.iload_n 1) 1 := (by decide +kernel : decode prog_14_method_128_code 6 = .ok (.iload_n 1, 1))
theorem d_M_canKeep_7 : m_D k_M_canKeep 7 (.iconst 0) 1 := (by decide +kernel : decode prog_14_method_128_code 7 = .ok (.iconst 0, 1))
theorem d_M_canKeep_8 : m_D k_M_canKeep 8 (.aload_n 0) 1 := (by decide +kernel : decode prog_14_method_128_code 8 = .ok (.aload_n 0, 1))
theorem d_M_canKeep_9 : m_D k_M_canKeep 9 (.invokevirtual 340) 3 := (by decide +kernel : decode prog_14_method_128_code 9 = .ok (.invokevirtual 340, 3))
theorem d_M_canKeep_12 : m_D k_M_canKeep 12 (.iconst 0) 1 := (by decide +kernel : decode prog_14_method_128_code 12 = .ok (.iconst 0, 1))
theorem d_M_canKeep_13 : m_D k_M_canKeep 13 (.invokevirtual 463) 3 := (by decide +kernel : decode prog_14_method_128_code 13 = .ok (.invokevirtual 463, 3))
theorem d_M_canKeep_16 : m_D k_M_canKeep 16 (.aload_n 0) 1 := (by decide +kernel : decode prog_14_method_128_code 16 = .ok (.aload_n 0, 1))
theorem d_M_canKeep_17 : m_D k_M_canKeep 17 (.getfield 460) 3 := (by decide +kernel : decode prog_14_method_128_code 17 = .ok (.getfield 460, 3))
theorem d_M_canKeep_20 : m_D k_M_canKeep 20 (.ifCond .lt 7) 3 := (by decide +kernel : decode prog_14_method_128_code 20 = .ok (.ifCond .lt 7, 3))
theorem d_M_canKeep_23 : m_D k_M_canKeep 23 (.iconst 1) 1 := (by decide +kernel : decode prog_14_method_128_code 23 = .ok (.iconst 1, 1))
theorem d_M_canKeep_24 : m_D k_M_canKeep 24 (.goto 4) 3 := (by decide +kernel : decode prog_14_method_128_code 24 = .ok (.goto 4, 3))
theorem d_M_canKeep_27 : m_D k_M_canKeep 27 (.iconst 0) 1 := (by decide +kernel : decode prog_14_method_128_code 27 = .ok (.iconst 0, 1))
theorem d_M_canKeep_28 : m_D k_M_canKeep 28 (.ireturn) 1 := (by decide +kernel : decode prog_14_method_128_code 28 = .ok (.ireturn, 1))
def fn_M_canKeep (x0 : Option mA) (x1 : Int32) : mP Int32 :=
  m_th 11 x0 <|
  m_bd (m_pI 11 34 x0 (-1)) fun _ =>
  m_bd (fn_M_throughs x0) fun v1 =>
  m_bd (fn_M_keepings 8 x0 x1 0 v1 0) fun _ =>
  m_bd (m_gI 11 34 x0) fun v2 =>
  if v2 < 0 then
    m_rt 0
  else
    m_rt 1
set_option maxHeartbeats 4000000 in
set_option maxRecDepth 100000 in
theorem sd_M_canKeep (x0 : Option mA) (x1 : Int32) : m_Sm k_M_canKeep 11 0 0 [.inr (.inr x0), .inl x1] (fn_M_canKeep x0 x1) (fun b => some (.inl b)) := by
  refine ⟨Nat.le_of_ble_eq_true rfl, ?_⟩
  refine sm_th ?_
  refine sm_aload_n (i := 0) (j := 0) (pc' := 1) d_M_canKeep_0 rfl rfl rfl (sm_iconst (pc' := 2) d_M_canKeep_1 rfl ic_m1 (sm_putI (pc' := 5) d_M_canKeep_2 rfl fl_M_460 (Or.inl rfl) rfl (sm_aload_n (i := 0) (j := 0) (pc' := 6) d_M_canKeep_5 rfl rfl rfl (sm_iload_n (i := 1) (j := 1) (pc' := 7) d_M_canKeep_6 rfl rfl rfl (sm_iconst (pc' := 8) d_M_canKeep_7 rfl ic_0 (sm_aload_n (i := 0) (j := 0) (pc' := 9) d_M_canKeep_8 rfl rfl rfl ?_))))))
  refine sm_callVi (ci := 11) (x := x0) (av := []) (st := [.inl 0, .inl x1, .inr (.inr x0)]) (mc := 0) (ms := 0) (pc' := 12) d_M_canKeep_9 rfl (sd_M_throughs x0) m_lv rfl cv_M_throughs w_ml_M_340 rfl rfl (by decide) (Nat.le_of_ble_eq_true rfl) rfl rfl (fun v1 => ?_)
  refine sm_iconst (pc' := 13) d_M_canKeep_12 rfl ic_0 ?_
  refine sm_callVv (ci := 11) (x := x0) (av := [.inl x1, .inl 0, .inl v1, .inl 0]) (st := []) (mc := 0) (ms := 0) (pc' := 16) d_M_canKeep_13 rfl (sd_M_keepings 8 x0 x1 0 v1 0) (lv_M_keepings 8 x0 x1 0 v1 0) rfl cv_M_keepings w_ml_M_463 rfl rfl (by decide) (Nat.le_of_ble_eq_true rfl) rfl rfl ?_
  refine sm_aload_n (i := 0) (j := 0) (pc' := 17) d_M_canKeep_16 rfl rfl rfl ?_
  refine sm_getI (pc' := 20) d_M_canKeep_17 rfl fl_M_460 rfl ⟨by decide, by decide⟩ (fun v2 => ?_)
  refine sm_if_lt (tgt := 27) (pc' := 23) d_M_canKeep_20 rfl rfl ?_ ?_
  · refine sm_iconst (pc' := 28) d_M_canKeep_27 rfl ic_0 ?_
    exact sm_zreturn d_M_canKeep_28 rfl (by decide) rfl
  · refine sm_iconst (pc' := 24) d_M_canKeep_23 rfl ic_1 (sm_goto (tgt := 28) d_M_canKeep_24 rfl ?_)
    exact sm_zreturn d_M_canKeep_28 rfl (by decide) rfl
theorem d_M_keeping_0 : m_D k_M_keeping 0 (.aload_n 0) 1 := (by decide +kernel : decode prog_14_method_130_code 0 = .ok (.aload_n 0, 1))
theorem d_M_keeping_1 : m_D k_M_keeping 1 (.iconst 0) 1 := (by decide +kernel : decode prog_14_method_130_code 1 = .ok (.iconst 0, 1))
theorem d_M_keeping_2 : m_D k_M_keeping 2 (.putfield 81) 3 := (by decide +kernel : decode prog_14_method_130_code 2 = .ok (.putfield 81, 3))
theorem d_M_keeping_5 : m_D k_M_keeping 5 (.aload_n 0) 1 := (by decide +kernel : decode prog_14_method_130_code 5 = .ok (.aload_n 0, 1))
theorem d_M_keeping_6 : m_D k_M_keeping 6 (.iconst 0) 1 := (by decide +kernel : decode prog_14_method_130_code 6 = .ok (.iconst 0, 1))
theorem d_M_keeping_7 : m_D k_M_keeping 7 (.putfield 84) 3 := (by decide +kernel : decode prog_14_method_130_code 7 = .ok (.putfield 84, 3))
theorem d_M_keeping_10 : m_D k_M_keeping 10 (.aload_n 0) 1 := (by decide +kernel : decode prog_14_method_130_code 10 = .ok (.aload_n 0, 1))
theorem d_M_keeping_11 : m_D k_M_keeping 11 (.iload_n 1) 1 := (by decide +kernel : decode prog_14_method_130_code 11 = .ok (.iload_n 1, 1))
theorem d_M_keeping_12 : m_D k_M_keeping 12 (.invokevirtual 467) 3 := (by decide +kernel : decode prog_14_method_130_code 12 = .ok (.invokevirtual 467, 3))
theorem d_M_keeping_15 : m_D k_M_keeping 15 (.ifCond .ne 9) 3 := (by decide +kernel : decode prog_14_method_130_code 15 = .ok (.ifCond .ne 9, 3))
theorem d_M_keeping_18 : m_D k_M_keeping 18 (.aload_n 0) 1 := (by decide +kernel : decode prog_14_method_130_code 18 = .ok (.aload_n 0, 1))
theorem d_M_keeping_19 : m_D k_M_keeping 19 (.iconst 5) 1 := (by decide +kernel : decode prog_14_method_130_code 19 = .ok (.iconst 5, 1))
theorem d_M_keeping_20 : m_D k_M_keeping 20 (.invokevirtual 331) 3 := (by decide +kernel : decode prog_14_method_130_code 20 = .ok (.invokevirtual 331, 3))
theorem d_M_keeping_23 : m_D k_M_keeping 23 (.ireturn) 1 := (by decide +kernel : decode prog_14_method_130_code 23 = .ok (.ireturn, 1))
theorem d_M_keeping_24 : m_D k_M_keeping 24 (.aload_n 0) 1 := (by decide +kernel : decode prog_14_method_130_code 24 = .ok (.aload_n 0, 1))
theorem d_M_keeping_25 : m_D k_M_keeping 25 (.iload_n 1) 1 := (by decide +kernel : decode prog_14_method_130_code 25 = .ok (.iload_n 1, 1))
theorem d_M_keeping_26 : m_D k_M_keeping 26 (.invokevirtual 470) 3 := (by decide +kernel : decode prog_14_method_130_code 26 = .ok (.invokevirtual 470, 3))
theorem d_M_keeping_29 : m_D k_M_keeping 29 (.ifCond .eq 10) 3 := (by decide +kernel : decode prog_14_method_130_code 29 = .ok (.ifCond .eq 10, 3))
theorem d_M_keeping_32 : m_D k_M_keeping 32 (.aload_n 0) 1 := (by decide +kernel : decode prog_14_method_130_code 32 = .ok (.aload_n 0, 1))
theorem d_M_keeping_33 : m_D k_M_keeping 33 (.getfield 460) 3 := (by decide +kernel : decode prog_14_method_130_code 33 = .ok (.getfield 460, 3))
theorem d_M_keeping_36 : m_D k_M_keeping 36 (.goto 9) 3 := (by decide +kernel : decode prog_14_method_130_code 36 = .ok (.goto 9, 3))
theorem d_M_keeping_39 : m_D k_M_keeping 39 (.aload_n 0) 1 := (by decide +kernel : decode prog_14_method_130_code 39 = .ok (.aload_n 0, 1))
theorem d_M_keeping_40 : m_D k_M_keeping 40 (.bipush 8) 2 := (by decide +kernel : decode prog_14_method_130_code 40 = .ok (.bipush 8, 2))
theorem d_M_keeping_42 : m_D k_M_keeping 42 (.invokevirtual 331) 3 := (by decide +kernel : decode prog_14_method_130_code 42 = .ok (.invokevirtual 331, 3))
theorem d_M_keeping_45 : m_D k_M_keeping 45 (.ireturn) 1 := (by decide +kernel : decode prog_14_method_130_code 45 = .ok (.ireturn, 1))
def fn_M_keeping (x0 : Option mA) (x1 : Int32) : mP Int32 :=
  m_th 11 x0 <|
  m_bd (m_pI 11 1 x0 0) fun _ =>
  m_bd (m_pI 11 0 x0 0) fun _ =>
  m_bd (fn_M_arePeople x0 x1) fun v1 =>
  if v1 = 0 then
    m_bd (fn_M_refuse x0 5) fun v5 =>
    m_rt v5
  else
    m_bd (fn_M_canKeep x0 x1) fun v2 =>
    if v2 = 0 then
      m_bd (fn_M_refuse x0 8) fun v3 =>
      m_rt v3
    else
      m_bd (m_gI 11 34 x0) fun v4 =>
      m_rt v4
set_option maxHeartbeats 4000000 in
set_option maxRecDepth 100000 in
theorem sd_M_keeping (x0 : Option mA) (x1 : Int32) : m_Sm k_M_keeping 12 0 0 [.inr (.inr x0), .inl x1] (fn_M_keeping x0 x1) (fun b => some (.inl b)) := by
  refine ⟨Nat.le_of_ble_eq_true rfl, ?_⟩
  refine sm_th ?_
  refine sm_aload_n (i := 0) (j := 0) (pc' := 1) d_M_keeping_0 rfl rfl rfl (sm_iconst (pc' := 2) d_M_keeping_1 rfl ic_0 (sm_putI (pc' := 5) d_M_keeping_2 rfl fl_M_81 (Or.inl rfl) rfl (sm_aload_n (i := 0) (j := 0) (pc' := 6) d_M_keeping_5 rfl rfl rfl (sm_iconst (pc' := 7) d_M_keeping_6 rfl ic_0 (sm_putI (pc' := 10) d_M_keeping_7 rfl fl_M_84 (Or.inl rfl) rfl (sm_aload_n (i := 0) (j := 0) (pc' := 11) d_M_keeping_10 rfl rfl rfl (sm_iload_n (i := 1) (j := 1) (pc' := 12) d_M_keeping_11 rfl rfl rfl ?_)))))))
  refine sm_callVi (ci := 11) (x := x0) (av := [.inl x1]) (st := []) (mc := 0) (ms := 0) (pc' := 15) d_M_keeping_12 rfl (sd_M_arePeople x0 x1) m_lv rfl cv_M_arePeople w_ml_M_467 rfl rfl (by decide) (Nat.le_of_ble_eq_true rfl) rfl rfl (fun v1 => ?_)
  refine sm_if_ne (tgt := 24) (pc' := 18) d_M_keeping_15 rfl rfl ?_ ?_
  · refine sm_aload_n (i := 0) (j := 0) (pc' := 25) d_M_keeping_24 rfl rfl rfl (sm_iload_n (i := 1) (j := 1) (pc' := 26) d_M_keeping_25 rfl rfl rfl ?_)
    refine sm_callVi (ci := 11) (x := x0) (av := [.inl x1]) (st := []) (mc := 0) (ms := 0) (pc' := 29) d_M_keeping_26 rfl (sd_M_canKeep x0 x1) m_lv rfl cv_M_canKeep w_ml_M_470 rfl rfl (by decide) (Nat.le_of_ble_eq_true rfl) rfl rfl (fun v2 => ?_)
    refine sm_if_eq (tgt := 39) (pc' := 32) d_M_keeping_29 rfl rfl ?_ ?_
    · refine sm_aload_n (i := 0) (j := 0) (pc' := 40) d_M_keeping_39 rfl rfl rfl (sm_bipush (pc' := 42) d_M_keeping_40 rfl ib_8 ?_)
      refine sm_callVi (ci := 11) (x := x0) (av := [.inl 8]) (st := []) (mc := 0) (ms := 0) (pc' := 45) d_M_keeping_42 rfl (sd_M_refuse x0 8) m_lv rfl cv_M_refuse w_ml_M_331 rfl rfl (by decide) (Nat.le_of_ble_eq_true rfl) rfl rfl (fun v3 => ?_)
      exact sm_ireturn d_M_keeping_45 rfl rfl
    · refine sm_aload_n (i := 0) (j := 0) (pc' := 33) d_M_keeping_32 rfl rfl rfl ?_
      refine sm_getI (pc' := 36) d_M_keeping_33 rfl fl_M_460 rfl ⟨by decide, by decide⟩ (fun v4 => ?_)
      refine sm_goto (tgt := 45) d_M_keeping_36 rfl ?_
      exact sm_ireturn d_M_keeping_45 rfl rfl
  · refine sm_aload_n (i := 0) (j := 0) (pc' := 19) d_M_keeping_18 rfl rfl rfl (sm_iconst (pc' := 20) d_M_keeping_19 rfl ic_5 ?_)
    refine sm_callVi (ci := 11) (x := x0) (av := [.inl 5]) (st := []) (mc := 0) (ms := 0) (pc' := 23) d_M_keeping_20 rfl (sd_M_refuse x0 5) m_lv rfl cv_M_refuse w_ml_M_331 rfl rfl (by decide) (Nat.le_of_ble_eq_true rfl) rfl rfl (fun v5 => ?_)
    exact sm_ireturn d_M_keeping_23 rfl rfl
theorem d_M_keeps_0 : m_D k_M_keeps 0 (.aload_n 0) 1 := (by decide +kernel : decode prog_14_method_131_code 0 = .ok (.aload_n 0, 1))
theorem d_M_keeps_1 : m_D k_M_keeps 1 (.iconst 0) 1 := (by decide +kernel : decode prog_14_method_131_code 1 = .ok (.iconst 0, 1))
theorem d_M_keeps_2 : m_D k_M_keeps 2 (.putfield 81) 3 := (by decide +kernel : decode prog_14_method_131_code 2 = .ok (.putfield 81, 3))
theorem d_M_keeps_5 : m_D k_M_keeps 5 (.aload_n 0) 1 := (by decide +kernel : decode prog_14_method_131_code 5 = .ok (.aload_n 0, 1))
theorem d_M_keeps_6 : m_D k_M_keeps 6 (.iconst 0) 1 := (by decide +kernel : decode prog_14_method_131_code 6 = .ok (.iconst 0, 1))
theorem d_M_keeps_7 : m_D k_M_keeps 7 (.putfield 84) 3 := (by decide +kernel : decode prog_14_method_131_code 7 = .ok (.putfield 84, 3))
theorem d_M_keeps_10 : m_D k_M_keeps 10 (.aload_n 0) 1 := (by decide +kernel : decode prog_14_method_131_code 10 = .ok (.aload_n 0, 1))
theorem d_M_keeps_11 : m_D k_M_keeps 11 (.iload_n 2) 1 := (by decide +kernel : decode prog_14_method_131_code 11 = .ok (.iload_n 2, 1))
theorem d_M_keeps_12 : m_D k_M_keeps 12 (.invokevirtual 349) 3 := (by decide +kernel : decode prog_14_method_131_code 12 = .ok (.invokevirtual 349, 3))
theorem d_M_keeps_15 : m_D k_M_keeps 15 (.ifCond .ne 9) 3 := (by decide +kernel : decode prog_14_method_131_code 15 = .ok (.ifCond .ne 9, 3))
theorem d_M_keeps_18 : m_D k_M_keeps 18 (.aload_n 0) 1 := (by decide +kernel : decode prog_14_method_131_code 18 = .ok (.aload_n 0, 1))
theorem d_M_keeps_19 : m_D k_M_keeps 19 (.iconst 2) 1 := (by decide +kernel : decode prog_14_method_131_code 19 = .ok (.iconst 2, 1))
theorem d_M_keeps_20 : m_D k_M_keeps 20 (.invokevirtual 331) 3 := (by decide +kernel : decode prog_14_method_131_code 20 = .ok (.invokevirtual 331, 3))
theorem d_M_keeps_23 : m_D k_M_keeps 23 (.ireturn) 1 := (by decide +kernel : decode prog_14_method_131_code 23 = .ok (.ireturn, 1))
theorem d_M_keeps_24 : m_D k_M_keeps 24 (.aload_n 0) 1 := (by decide +kernel : decode prog_14_method_131_code 24 = .ok (.aload_n 0, 1))
theorem d_M_keeps_25 : m_D k_M_keeps 25 (.iload_n 1) 1 := (by decide +kernel : decode prog_14_method_131_code 25 = .ok (.iload_n 1, 1))
theorem d_M_keeps_26 : m_D k_M_keeps 26 (.invokevirtual 467) 3 := (by decide +kernel : decode prog_14_method_131_code 26 = .ok (.invokevirtual 467, 3))
theorem d_M_keeps_29 : m_D k_M_keeps 29 (.ifCond .eq 11) 3 := (by decide +kernel : decode prog_14_method_131_code 29 = .ok (.ifCond .eq 11, 3))
theorem d_M_keeps_32 : m_D k_M_keeps 32 (.iload_n 1) 1 := (by decide +kernel : decode prog_14_method_131_code 32 = .ok (.iload_n 1, 1))
theorem d_M_keeps_33 : m_D k_M_keeps 33 (.iload_n 2) 1 := (by decide +kernel : decode prog_14_method_131_code 33 = .ok (.iload_n 2, 1))
theorem d_M_keeps_34 : m_D k_M_keeps 34 (.invokestatic 120) 3 := (by decide +kernel : decode prog_14_method_131_code 34 = .ok (.invokestatic 120, 3))
theorem d_M_keeps_37 : m_D k_M_keeps 37 (.ifCond .ne 9) 3 := (by decide +kernel : decode prog_14_method_131_code 37 = .ok (.ifCond .ne 9, 3))
theorem d_M_keeps_40 : m_D k_M_keeps 40 (.aload_n 0) 1 := (by decide +kernel : decode prog_14_method_131_code 40 = .ok (.aload_n 0, 1))
theorem d_M_keeps_41 : m_D k_M_keeps 41 (.iconst 5) 1 := (by decide +kernel : decode prog_14_method_131_code 41 = .ok (.iconst 5, 1))
theorem d_M_keeps_42 : m_D k_M_keeps 42 (.invokevirtual 331) 3 := (by decide +kernel : decode prog_14_method_131_code 42 = .ok (.invokevirtual 331, 3))
theorem d_M_keeps_45 : m_D k_M_keeps 45 (.ireturn) 1 := (by decide +kernel : decode prog_14_method_131_code 45 = .ok (.ireturn, 1))
theorem d_M_keeps_46 : m_D k_M_keeps 46 (.aload_n 0) 1 := (by decide +kernel : decode prog_14_method_131_code 46 = .ok (.aload_n 0, 1))
theorem d_M_keeps_47 : m_D k_M_keeps 47 (.iload_n 1) 1 := (by decide +kernel : decode prog_14_method_131_code 47 = .ok (.iload_n 1, 1))
theorem d_M_keeps_48 : m_D k_M_keeps 48 (.invokevirtual 470) 3 := (by decide +kernel : decode prog_14_method_131_code 48 = .ok (.invokevirtual 470, 3))
theorem d_M_keeps_51 : m_D k_M_keeps 51 (.ifCond .eq 12) 3 := (by decide +kernel : decode prog_14_method_131_code 51 = .ok (.ifCond .eq 12, 3))
theorem d_M_keeps_54 : m_D k_M_keeps 54 (.aload_n 0) 1 := (by decide +kernel : decode prog_14_method_131_code 54 = .ok (.aload_n 0, 1))
theorem d_M_keeps_55 : m_D k_M_keeps 55 (.getfield 56) 3 := (by decide +kernel : decode prog_14_method_131_code 55 = .ok (.getfield 56, 3))
theorem d_M_keeps_58 : m_D k_M_keeps 58 (.iload_n 2) 1 := (by decide +kernel : decode prog_14_method_131_code 58 = .ok (.iload_n 2, 1))
theorem d_M_keeps_59 : m_D k_M_keeps 59 (.iaload) 1 := (by decide +kernel : decode prog_14_method_131_code 59 = .ok (.iaload, 1))
theorem d_M_keeps_60 : m_D k_M_keeps 60 (.goto 9) 3 := (by decide +kernel : decode prog_14_method_131_code 60 = .ok (.goto 9, 3))
theorem d_M_keeps_63 : m_D k_M_keeps 63 (.aload_n 0) 1 := (by decide +kernel : decode prog_14_method_131_code 63 = .ok (.aload_n 0, 1))
theorem d_M_keeps_64 : m_D k_M_keeps 64 (.bipush 8) 2 := (by decide +kernel : decode prog_14_method_131_code 64 = .ok (.bipush 8, 2))
theorem d_M_keeps_66 : m_D k_M_keeps 66 (.invokevirtual 331) 3 := (by decide +kernel : decode prog_14_method_131_code 66 = .ok (.invokevirtual 331, 3))
theorem d_M_keeps_69 : m_D k_M_keeps 69 (.ireturn) 1 := (by decide +kernel : decode prog_14_method_131_code 69 = .ok (.ireturn, 1))
def fn_M_keeps (x0 : Option mA) (x1 : Int32) (x2 : Int32) : mP Int32 :=
  m_th 11 x0 <|
  m_bd (m_pI 11 1 x0 0) fun _ =>
  m_bd (m_pI 11 0 x0 0) fun _ =>
  m_bd (fn_M_isPersonAt x0 x2) fun v1 =>
  if v1 = 0 then
    m_bd (fn_M_refuse x0 2) fun v10 =>
    m_rt v10
  else
    m_bd (fn_M_arePeople x0 x1) fun v2 =>
    if v2 = 0 then
      m_bd (fn_M_refuse x0 5) fun v3 =>
      m_rt v3
    else
      m_bd (fn_M_has x1 x2) fun v4 =>
      if v4 = 0 then
        m_bd (fn_M_refuse x0 5) fun v9 =>
        m_rt v9
      else
        m_bd (fn_M_canKeep x0 x1) fun v5 =>
        if v5 = 0 then
          m_bd (fn_M_refuse x0 8) fun v6 =>
          m_rt v6
        else
          m_bd (m_gR 11 33 x0) fun v7 =>
          m_bd (m_aI 0 v7 x2) fun v8 =>
          m_rt v8
set_option maxHeartbeats 4000000 in
set_option maxRecDepth 100000 in
theorem sd_M_keeps (x0 : Option mA) (x1 : Int32) (x2 : Int32) : m_Sm k_M_keeps 12 0 0 [.inr (.inr x0), .inl x1, .inl x2] (fn_M_keeps x0 x1 x2) (fun b => some (.inl b)) := by
  refine ⟨Nat.le_of_ble_eq_true rfl, ?_⟩
  refine sm_th ?_
  refine sm_aload_n (i := 0) (j := 0) (pc' := 1) d_M_keeps_0 rfl rfl rfl (sm_iconst (pc' := 2) d_M_keeps_1 rfl ic_0 (sm_putI (pc' := 5) d_M_keeps_2 rfl fl_M_81 (Or.inl rfl) rfl (sm_aload_n (i := 0) (j := 0) (pc' := 6) d_M_keeps_5 rfl rfl rfl (sm_iconst (pc' := 7) d_M_keeps_6 rfl ic_0 (sm_putI (pc' := 10) d_M_keeps_7 rfl fl_M_84 (Or.inl rfl) rfl (sm_aload_n (i := 0) (j := 0) (pc' := 11) d_M_keeps_10 rfl rfl rfl (sm_iload_n (i := 2) (j := 2) (pc' := 12) d_M_keeps_11 rfl rfl rfl ?_)))))))
  refine sm_callVi (ci := 11) (x := x0) (av := [.inl x2]) (st := []) (mc := 0) (ms := 0) (pc' := 15) d_M_keeps_12 rfl (sd_M_isPersonAt x0 x2) m_lv rfl cv_M_isPersonAt w_ml_M_349 rfl rfl (by decide) (Nat.le_of_ble_eq_true rfl) rfl rfl (fun v1 => ?_)
  refine sm_if_ne (tgt := 24) (pc' := 18) d_M_keeps_15 rfl rfl ?_ ?_
  · refine sm_aload_n (i := 0) (j := 0) (pc' := 25) d_M_keeps_24 rfl rfl rfl (sm_iload_n (i := 1) (j := 1) (pc' := 26) d_M_keeps_25 rfl rfl rfl ?_)
    refine sm_callVi (ci := 11) (x := x0) (av := [.inl x1]) (st := []) (mc := 0) (ms := 0) (pc' := 29) d_M_keeps_26 rfl (sd_M_arePeople x0 x1) m_lv rfl cv_M_arePeople w_ml_M_467 rfl rfl (by decide) (Nat.le_of_ble_eq_true rfl) rfl rfl (fun v2 => ?_)
    refine sm_if_eq (tgt := 40) (pc' := 32) d_M_keeps_29 rfl rfl ?_ ?_
    · refine sm_aload_n (i := 0) (j := 0) (pc' := 41) d_M_keeps_40 rfl rfl rfl (sm_iconst (pc' := 42) d_M_keeps_41 rfl ic_5 ?_)
      refine sm_callVi (ci := 11) (x := x0) (av := [.inl 5]) (st := []) (mc := 0) (ms := 0) (pc' := 45) d_M_keeps_42 rfl (sd_M_refuse x0 5) m_lv rfl cv_M_refuse w_ml_M_331 rfl rfl (by decide) (Nat.le_of_ble_eq_true rfl) rfl rfl (fun v3 => ?_)
      exact sm_ireturn d_M_keeps_45 rfl rfl
    · refine sm_iload_n (i := 1) (j := 1) (pc' := 33) d_M_keeps_32 rfl rfl rfl (sm_iload_n (i := 2) (j := 2) (pc' := 34) d_M_keeps_33 rfl rfl rfl ?_)
      refine sm_callSi (av := [.inl x1, .inl x2]) (st := []) (mc := 0) (ms := 0) (pc' := 37) d_M_keeps_34 rfl (sd_M_has x1 x2) cs_M_has w_ml_M_120 rfl rfl (by decide) (Nat.le_of_ble_eq_true rfl) rfl rfl (fun v4 => ?_)
      refine sm_if_ne (tgt := 46) (pc' := 40) d_M_keeps_37 rfl rfl ?_ ?_
      · refine sm_aload_n (i := 0) (j := 0) (pc' := 47) d_M_keeps_46 rfl rfl rfl (sm_iload_n (i := 1) (j := 1) (pc' := 48) d_M_keeps_47 rfl rfl rfl ?_)
        refine sm_callVi (ci := 11) (x := x0) (av := [.inl x1]) (st := []) (mc := 0) (ms := 0) (pc' := 51) d_M_keeps_48 rfl (sd_M_canKeep x0 x1) m_lv rfl cv_M_canKeep w_ml_M_470 rfl rfl (by decide) (Nat.le_of_ble_eq_true rfl) rfl rfl (fun v5 => ?_)
        refine sm_if_eq (tgt := 63) (pc' := 54) d_M_keeps_51 rfl rfl ?_ ?_
        · refine sm_aload_n (i := 0) (j := 0) (pc' := 64) d_M_keeps_63 rfl rfl rfl (sm_bipush (pc' := 66) d_M_keeps_64 rfl ib_8 ?_)
          refine sm_callVi (ci := 11) (x := x0) (av := [.inl 8]) (st := []) (mc := 0) (ms := 0) (pc' := 69) d_M_keeps_66 rfl (sd_M_refuse x0 8) m_lv rfl cv_M_refuse w_ml_M_331 rfl rfl (by decide) (Nat.le_of_ble_eq_true rfl) rfl rfl (fun v6 => ?_)
          exact sm_ireturn d_M_keeps_69 rfl rfl
        · refine sm_aload_n (i := 0) (j := 0) (pc' := 55) d_M_keeps_54 rfl rfl rfl ?_
          refine sm_getR (pc' := 58) d_M_keeps_55 rfl fl_M_56 rfl rfl (fun v7 => ?_)
          refine sm_iload_n (i := 2) (j := 2) (pc' := 59) d_M_keeps_58 rfl rfl rfl ?_
          refine sm_iald (pc' := 60) d_M_keeps_59 rfl (fun v8 => ?_)
          refine sm_goto (tgt := 69) d_M_keeps_60 rfl ?_
          exact sm_ireturn d_M_keeps_69 rfl rfl
      · refine sm_aload_n (i := 0) (j := 0) (pc' := 41) d_M_keeps_40 rfl rfl rfl (sm_iconst (pc' := 42) d_M_keeps_41 rfl ic_5 ?_)
        refine sm_callVi (ci := 11) (x := x0) (av := [.inl 5]) (st := []) (mc := 0) (ms := 0) (pc' := 45) d_M_keeps_42 rfl (sd_M_refuse x0 5) m_lv rfl cv_M_refuse w_ml_M_331 rfl rfl (by decide) (Nat.le_of_ble_eq_true rfl) rfl rfl (fun v9 => ?_)
        exact sm_ireturn d_M_keeps_45 rfl rfl
  · refine sm_aload_n (i := 0) (j := 0) (pc' := 19) d_M_keeps_18 rfl rfl rfl (sm_iconst (pc' := 20) d_M_keeps_19 rfl ic_2 ?_)
    refine sm_callVi (ci := 11) (x := x0) (av := [.inl 2]) (st := []) (mc := 0) (ms := 0) (pc' := 23) d_M_keeps_20 rfl (sd_M_refuse x0 2) m_lv rfl cv_M_refuse w_ml_M_331 rfl rfl (by decide) (Nat.le_of_ble_eq_true rfl) rfl rfl (fun v10 => ?_)
    exact sm_ireturn d_M_keeps_23 rfl rfl
theorem d_M_nextAsked_0 : m_D k_M_nextAsked 0 (.iconst (-1)) 1 := (by decide +kernel : decode prog_14_method_132_code 0 = .ok (.iconst (-1), 1))
theorem d_M_nextAsked_1 : m_D k_M_nextAsked 1 (.istore_n 2) 1 := (by decide +kernel : decode prog_14_method_132_code 1 = .ok (.istore_n 2, 1))
theorem d_M_nextAsked_2 : m_D k_M_nextAsked 2 (.iconst 0) 1 := (by decide +kernel : decode prog_14_method_132_code 2 = .ok (.iconst 0, 1))
theorem d_M_nextAsked_3 : m_D k_M_nextAsked 3 (.istore_n 3) 1 := (by decide +kernel : decode prog_14_method_132_code 3 = .ok (.istore_n 3, 1))
theorem d_M_nextAsked_4 : m_D k_M_nextAsked 4 (.iload_n 3) 1 := (by decide +kernel : decode prog_14_method_132_code 4 = .ok (.iload_n 3, 1))
theorem d_M_nextAsked_5 : m_D k_M_nextAsked 5 (.aload_n 0) 1 := (by decide +kernel : decode prog_14_method_132_code 5 = .ok (.aload_n 0, 1))
theorem d_M_nextAsked_6 : m_D k_M_nextAsked 6 (.getfield 35) 3 := (by decide +kernel : decode prog_14_method_132_code 6 = .ok (.getfield 35, 3))
theorem d_M_nextAsked_9 : m_D k_M_nextAsked 9 (.iconst 1) 1 := (by decide +kernel : decode prog_14_method_132_code 9 = .ok (.iconst 1, 1))
theorem d_M_nextAsked_10 : m_D k_M_nextAsked 10 (.iaload) 1 := (by decide +kernel : decode prog_14_method_132_code 10 = .ok (.iaload, 1))
theorem d_M_nextAsked_11 : m_D k_M_nextAsked 11 (.if_icmp .ge 60) 3 := (by decide +kernel : decode prog_14_method_132_code 11 = .ok (.if_icmp .ge 60, 3))
theorem d_M_nextAsked_14 : m_D k_M_nextAsked 14 (.aload_n 0) 1 := (by decide +kernel : decode prog_14_method_132_code 14 = .ok (.aload_n 0, 1))
theorem d_M_nextAsked_15 : m_D k_M_nextAsked 15 (.iload_n 3) 1 := (by decide +kernel : decode prog_14_method_132_code 15 = .ok (.iload_n 3, 1))
theorem d_M_nextAsked_16 : m_D k_M_nextAsked 16 (.invokevirtual 319) 3 := (by decide +kernel : decode prog_14_method_132_code 16 = .ok (.invokevirtual 319, 3))
theorem d_M_nextAsked_19 : m_D k_M_nextAsked 19 (.ifCond .ne 46) 3 := (by decide +kernel : decode prog_14_method_132_code 19 = .ok (.ifCond .ne 46, 3))
theorem d_M_nextAsked_22 : m_D k_M_nextAsked 22 (.aload_n 0) 1 := (by decide +kernel : decode prog_14_method_132_code 22 = .ok (.aload_n 0, 1))
theorem d_M_nextAsked_23 : m_D k_M_nextAsked 23 (.getfield 62) 3 := (by decide +kernel : decode prog_14_method_132_code 23 = .ok (.getfield 62, 3))
theorem d_M_nextAsked_26 : m_D k_M_nextAsked 26 (.iload_n 1) 1 := (by decide +kernel : decode prog_14_method_132_code 26 = .ok (.iload_n 1, 1))
theorem d_M_nextAsked_27 : m_D k_M_nextAsked 27 (.iaload) 1 := (by decide +kernel : decode prog_14_method_132_code 27 = .ok (.iaload, 1))
theorem d_M_nextAsked_28 : m_D k_M_nextAsked 28 (.iload_n 3) 1 := (by decide +kernel : decode prog_14_method_132_code 28 = .ok (.iload_n 3, 1))
theorem d_M_nextAsked_29 : m_D k_M_nextAsked 29 (.invokestatic 120) 3 := (by decide +kernel : decode prog_14_method_132_code 29 = .ok (.invokestatic 120, 3))
theorem d_M_nextAsked_32 : m_D k_M_nextAsked 32 (.ifCond .ne 33) 3 := (by decide +kernel : decode prog_14_method_132_code 32 = .ok (.ifCond .ne 33, 3))
theorem d_M_nextAsked_35 : m_D k_M_nextAsked 35 (.aload_n 0) 1 := (by decide +kernel : decode prog_14_method_132_code 35 = .ok (.aload_n 0, 1))
theorem d_M_nextAsked_36 : m_D k_M_nextAsked 36 (.iload_n 1) 1 := (by decide +kernel : decode prog_14_method_132_code 36 = .ok (.iload_n 1, 1))
theorem d_M_nextAsked_37 : m_D k_M_nextAsked 37 (.iload_n 3) 1 := (by decide +kernel : decode prog_14_method_132_code 37 = .ok (.iload_n 3, 1))
theorem d_M_nextAsked_38 : m_D k_M_nextAsked 38 (.invokevirtual 316) 3 := (by decide +kernel : decode prog_14_method_132_code 38 = .ok (.invokevirtual 316, 3))
theorem d_M_nextAsked_41 : m_D k_M_nextAsked 41 (.ifCond .le 24) 3 := (by decide +kernel : decode prog_14_method_132_code 41 = .ok (.ifCond .le 24, 3))
theorem d_M_nextAsked_44 : m_D k_M_nextAsked 44 (.iload_n 2) 1 := (by decide +kernel : decode prog_14_method_132_code 44 = .ok (.iload_n 2, 1))
theorem d_M_nextAsked_45 : m_D k_M_nextAsked 45 (.ifCond .lt 18) 3 := (by decide +kernel : decode prog_14_method_132_code 45 = .ok (.ifCond .lt 18, 3))
theorem d_M_nextAsked_48 : m_D k_M_nextAsked 48 (.aload_n 0) 1 := (by decide +kernel : decode prog_14_method_132_code 48 = .ok (.aload_n 0, 1))
theorem d_M_nextAsked_49 : m_D k_M_nextAsked 49 (.iload_n 1) 1 := (by decide +kernel : decode prog_14_method_132_code 49 = .ok (.iload_n 1, 1))
theorem d_M_nextAsked_50 : m_D k_M_nextAsked 50 (.iload_n 3) 1 := (by decide +kernel : decode prog_14_method_132_code 50 = .ok (.iload_n 3, 1))
theorem d_M_nextAsked_51 : m_D k_M_nextAsked 51 (.invokevirtual 316) 3 := (by decide +kernel : decode prog_14_method_132_code 51 = .ok (.invokevirtual 316, 3))
theorem d_M_nextAsked_54 : m_D k_M_nextAsked 54 (.aload_n 0) 1 := (by decide +kernel : decode prog_14_method_132_code 54 = .ok (.aload_n 0, 1))
theorem d_M_nextAsked_55 : m_D k_M_nextAsked 55 (.iload_n 1) 1 := (by decide +kernel : decode prog_14_method_132_code 55 = .ok (.iload_n 1, 1))
theorem d_M_nextAsked_56 : m_D k_M_nextAsked 56 (.iload_n 2) 1 := (by decide +kernel : decode prog_14_method_132_code 56 = .ok (.iload_n 2, 1))
theorem d_M_nextAsked_57 : m_D k_M_nextAsked 57 (.invokevirtual 316) 3 := (by decide +kernel : decode prog_14_method_132_code 57 = .ok (.invokevirtual 316, 3))
theorem d_M_nextAsked_60 : m_D k_M_nextAsked 60 (.if_icmp .le 5) 3 := (by decide +kernel : decode prog_14_method_132_code 60 = .ok (.if_icmp .le 5, 3))
theorem d_M_nextAsked_63 : m_D k_M_nextAsked 63 (.iload_n 3) 1 := (by decide +kernel : decode prog_14_method_132_code 63 = .ok (.iload_n 3, 1))
theorem d_M_nextAsked_64 : m_D k_M_nextAsked 64 (.istore_n 2) 1 := (by decide +kernel : decode prog_14_method_132_code 64 = .ok (.istore_n 2, 1))
theorem d_M_nextAsked_65 : m_D k_M_nextAsked 65 (.iinc 3 1) 3 := (by decide +kernel : decode prog_14_method_132_code 65 = .ok (.iinc 3 1, 3))
theorem d_M_nextAsked_68 : m_D k_M_nextAsked 68 (.goto (-64)) 3 := (by decide +kernel : decode prog_14_method_132_code 68 = .ok (.goto (-64), 3))
theorem d_M_nextAsked_71 : m_D k_M_nextAsked 71 (.iload_n 2) 1 := (by decide +kernel : decode prog_14_method_132_code 71 = .ok (.iload_n 2, 1))
theorem d_M_nextAsked_72 : m_D k_M_nextAsked 72 (.ireturn) 1 := (by decide +kernel : decode prog_14_method_132_code 72 = .ok (.ireturn, 1))
def fn_M_nextAsked_l4 (x0 : Option mA) (x1 : Int32) (t1 : Int32 × Int32) : mP ((Int32 × Int32) ⊕ (Int32)) :=
  m_bd (m_gR 11 20 x0) fun v2 =>
  m_bd (m_aI 0 v2 1) fun v3 =>
  if v3 ≤ t1.2 then
    m_rt (.inr t1.1)
  else
    m_bd (fn_M_isThrough x0 t1.2) fun v4 =>
    m_bd (α := Int32) (
      if v4 = 0 then
        m_bd (m_gR 11 36 x0) fun v5 =>
        m_bd (m_aI 0 v5 x1) fun v6 =>
        m_bd (fn_M_has v6 t1.2) fun v7 =>
        if v7 = 0 then
          m_bd (fn_M_loveOf x0 x1 t1.2) fun v8 =>
          if v8 ≤ 0 then
            m_rt t1.1
          else
            if t1.1 < 0 then
              m_rt t1.2
            else
              m_bd (fn_M_loveOf x0 x1 t1.2) fun v9 =>
              m_bd (fn_M_loveOf x0 x1 t1.1) fun v10 =>
              if v9 ≤ v10 then
                m_rt t1.1
              else
                m_rt t1.2
        else
          m_rt t1.1
      else
        m_rt t1.1
      ) fun (t11 : Int32) =>
    m_rt (.inl (t11, (t1.2 + 1)))
def fn_M_nextAsked (x0 : Option mA) (x1 : Int32) : mP Int32 :=
  m_th 11 x0 <|
  m_bd (m_lp (fn_M_nextAsked_l4 x0 x1) m_F ((-1), 0)) fun (t12 : Int32) =>
  m_rt t12
set_option maxHeartbeats 4000000 in
set_option maxRecDepth 100000 in
theorem sd_M_nextAsked (x0 : Option mA) (x1 : Int32) : m_Sm k_M_nextAsked 2 0 0 [.inr (.inr x0), .inl x1] (fn_M_nextAsked x0 x1) (fun b => some (.inl b)) := by
  refine ⟨Nat.le_of_ble_eq_true rfl, ?_⟩
  refine sm_th ?_
  refine sm_iconst (pc' := 1) d_M_nextAsked_0 rfl ic_m1 (sm_istore_n (i := 2) (L' := [(2, .inl (-1)), (0, .inr (.inr x0)), (1, .inl x1)]) (pc' := 2) d_M_nextAsked_1 rfl rfl (Nat.le_of_ble_eq_true rfl) rfl (sm_iconst (pc' := 3) d_M_nextAsked_2 rfl ic_0 (sm_istore_n (i := 3) (L' := [(3, .inl 0), (2, .inl (-1)), (0, .inr (.inr x0)), (1, .inl x1)]) (pc' := 4) d_M_nextAsked_3 rfl rfl (Nat.le_of_ble_eq_true rfl) rfl ?_)))
  refine sm_sub [1, 0, 2, 3] rfl ?_
  refine sm_bd (mid := fun (t12 : Int32) => .inl (71, [(2, .inl t12)], [])) (sm_lp (hd := fun (t1 : Int32 × Int32) => (.inl (4, [(2, .inl t1.1), (3, .inl t1.2), (0, .inr (.inr x0)), (1, .inl x1)], []) : mC)) (fun t1 => ?_) m_F ((-1), 0)) (fun t12 => ?_)
  · refine sm_iload_n (i := 3) (j := 1) (pc' := 5) d_M_nextAsked_4 rfl rfl rfl (sm_aload_n (i := 0) (j := 2) (pc' := 6) d_M_nextAsked_5 rfl rfl rfl ?_)
    refine sm_getR (pc' := 9) d_M_nextAsked_6 rfl fl_M_35 rfl rfl (fun v2 => ?_)
    refine sm_iconst (pc' := 10) d_M_nextAsked_9 rfl ic_1 ?_
    refine sm_iald (pc' := 11) d_M_nextAsked_10 rfl (fun v3 => ?_)
    refine sm_icmp_ge (tgt := 71) (pc' := 14) d_M_nextAsked_11 rfl rfl ?_ ?_
    · refine sm_sub [0] rfl ?_
      exact sm_rt rfl
    · refine sm_aload_n (i := 0) (j := 2) (pc' := 15) d_M_nextAsked_14 rfl rfl rfl (sm_iload_n (i := 3) (j := 1) (pc' := 16) d_M_nextAsked_15 rfl rfl rfl ?_)
      refine sm_callVi (ci := 11) (x := x0) (av := [.inl t1.2]) (st := []) (mc := 0) (ms := 0) (pc' := 19) d_M_nextAsked_16 rfl (sd_M_isThrough x0 t1.2) m_lv rfl cv_M_isThrough w_ml_M_319 rfl rfl (by decide) (Nat.le_of_ble_eq_true rfl) rfl rfl (fun v4 => ?_)
      refine sm_bd (mid := fun (t11 : Int32) => .inl (65, [(0, .inr (.inr x0)), (1, .inl x1), (2, .inl t11), (3, .inl t1.2)], [])) ?_ (fun t11 => ?_)
      · refine sm_if_ne (tgt := 65) (pc' := 22) d_M_nextAsked_19 rfl rfl ?_ ?_
        · refine sm_sub [2, 3, 0, 1] rfl ?_
          exact sm_rt rfl
        · refine sm_aload_n (i := 0) (j := 2) (pc' := 23) d_M_nextAsked_22 rfl rfl rfl ?_
          refine sm_getR (pc' := 26) d_M_nextAsked_23 rfl fl_M_62 rfl rfl (fun v5 => ?_)
          refine sm_iload_n (i := 1) (j := 3) (pc' := 27) d_M_nextAsked_26 rfl rfl rfl ?_
          refine sm_iald (pc' := 28) d_M_nextAsked_27 rfl (fun v6 => ?_)
          refine sm_iload_n (i := 3) (j := 1) (pc' := 29) d_M_nextAsked_28 rfl rfl rfl ?_
          refine sm_callSi (av := [.inl v6, .inl t1.2]) (st := []) (mc := 0) (ms := 0) (pc' := 32) d_M_nextAsked_29 rfl (sd_M_has v6 t1.2) cs_M_has w_ml_M_120 rfl rfl (by decide) (Nat.le_of_ble_eq_true rfl) rfl rfl (fun v7 => ?_)
          refine sm_if_ne (tgt := 65) (pc' := 35) d_M_nextAsked_32 rfl rfl ?_ ?_
          · refine sm_sub [2, 3, 0, 1] rfl ?_
            exact sm_rt rfl
          · refine sm_aload_n (i := 0) (j := 2) (pc' := 36) d_M_nextAsked_35 rfl rfl rfl (sm_iload_n (i := 1) (j := 3) (pc' := 37) d_M_nextAsked_36 rfl rfl rfl (sm_iload_n (i := 3) (j := 1) (pc' := 38) d_M_nextAsked_37 rfl rfl rfl ?_))
            refine sm_callVi (ci := 11) (x := x0) (av := [.inl x1, .inl t1.2]) (st := []) (mc := 0) (ms := 0) (pc' := 41) d_M_nextAsked_38 rfl (sd_M_loveOf x0 x1 t1.2) m_lv rfl cv_M_loveOf w_ml_M_316 rfl rfl (by decide) (Nat.le_of_ble_eq_true rfl) rfl rfl (fun v8 => ?_)
            refine sm_if_le (tgt := 65) (pc' := 44) d_M_nextAsked_41 rfl rfl ?_ ?_
            · refine sm_sub [2, 3, 0, 1] rfl ?_
              exact sm_rt rfl
            · refine sm_iload_n (i := 2) (j := 0) (pc' := 45) d_M_nextAsked_44 rfl rfl rfl ?_
              refine sm_if_lt (tgt := 63) (pc' := 48) d_M_nextAsked_45 rfl rfl ?_ ?_
              · refine sm_iload_n (i := 3) (j := 1) (pc' := 64) d_M_nextAsked_63 rfl rfl rfl (sm_istore_n (i := 2) (L' := [(2, .inl t1.2), (3, .inl t1.2), (0, .inr (.inr x0)), (1, .inl x1)]) (pc' := 65) d_M_nextAsked_64 rfl rfl (Nat.le_of_ble_eq_true rfl) rfl (sm_sub [2, 3, 0, 1] rfl ?_))
                exact sm_rt rfl
              · refine sm_aload_n (i := 0) (j := 2) (pc' := 49) d_M_nextAsked_48 rfl rfl rfl (sm_iload_n (i := 1) (j := 3) (pc' := 50) d_M_nextAsked_49 rfl rfl rfl (sm_iload_n (i := 3) (j := 1) (pc' := 51) d_M_nextAsked_50 rfl rfl rfl ?_))
                refine sm_callVi (ci := 11) (x := x0) (av := [.inl x1, .inl t1.2]) (st := []) (mc := 0) (ms := 0) (pc' := 54) d_M_nextAsked_51 rfl (sd_M_loveOf x0 x1 t1.2) m_lv rfl cv_M_loveOf w_ml_M_316 rfl rfl (by decide) (Nat.le_of_ble_eq_true rfl) rfl rfl (fun v9 => ?_)
                refine sm_aload_n (i := 0) (j := 2) (pc' := 55) d_M_nextAsked_54 rfl rfl rfl (sm_iload_n (i := 1) (j := 3) (pc' := 56) d_M_nextAsked_55 rfl rfl rfl (sm_iload_n (i := 2) (j := 0) (pc' := 57) d_M_nextAsked_56 rfl rfl rfl ?_))
                refine sm_callVi (ci := 11) (x := x0) (av := [.inl x1, .inl t1.1]) (st := [.inl v9]) (mc := 0) (ms := 0) (pc' := 60) d_M_nextAsked_57 rfl (sd_M_loveOf x0 x1 t1.1) m_lv rfl cv_M_loveOf w_ml_M_316 rfl rfl (by decide) (Nat.le_of_ble_eq_true rfl) rfl rfl (fun v10 => ?_)
                refine sm_icmp_le (tgt := 65) (pc' := 63) d_M_nextAsked_60 rfl rfl ?_ ?_
                · refine sm_sub [2, 3, 0, 1] rfl ?_
                  exact sm_rt rfl
                · refine sm_iload_n (i := 3) (j := 1) (pc' := 64) d_M_nextAsked_63 rfl rfl rfl (sm_istore_n (i := 2) (L' := [(2, .inl t1.2), (3, .inl t1.2), (0, .inr (.inr x0)), (1, .inl x1)]) (pc' := 65) d_M_nextAsked_64 rfl rfl (Nat.le_of_ble_eq_true rfl) rfl (sm_sub [2, 3, 0, 1] rfl ?_))
                  exact sm_rt rfl
      · refine sm_iinc (j := 3) (L' := [(3, .inl (t1.2 + 1)), (0, .inr (.inr x0)), (1, .inl x1), (2, .inl t11)]) (pc' := 68) d_M_nextAsked_65 rfl (v := (t1.2 + 1)) rfl (ix_1 _) (Nat.le_of_ble_eq_true rfl) rfl (sm_goto (tgt := 4) d_M_nextAsked_68 rfl (sm_sub [3, 0, 1, 2] rfl ?_))
        exact sm_rt rfl
  · refine sm_iload_n (i := 2) (j := 0) (pc' := 72) d_M_nextAsked_71 rfl rfl rfl ?_
    exact sm_ireturn d_M_nextAsked_72 rfl rfl
theorem d_M_asker_0 : m_D k_M_asker 0 (.iconst 0) 1 := (by decide +kernel : decode prog_14_method_133_code 0 = .ok (.iconst 0, 1))
theorem d_M_asker_1 : m_D k_M_asker 1 (.istore_n 2) 1 := (by decide +kernel : decode prog_14_method_133_code 1 = .ok (.istore_n 2, 1))
theorem d_M_asker_2 : m_D k_M_asker 2 (.iload_n 2) 1 := (by decide +kernel : decode prog_14_method_133_code 2 = .ok (.iload_n 2, 1))
theorem d_M_asker_3 : m_D k_M_asker 3 (.aload_n 0) 1 := (by decide +kernel : decode prog_14_method_133_code 3 = .ok (.aload_n 0, 1))
theorem d_M_asker_4 : m_D k_M_asker 4 (.getfield 35) 3 := (by decide +kernel : decode prog_14_method_133_code 4 = .ok (.getfield 35, 3))
theorem d_M_asker_7 : m_D k_M_asker 7 (.iconst 0) 1 := (by decide +kernel : decode prog_14_method_133_code 7 = .ok (.iconst 0, 1))
theorem d_M_asker_8 : m_D k_M_asker 8 (.iaload) 1 := (by decide +kernel : decode prog_14_method_133_code 8 = .ok (.iaload, 1))
theorem d_M_asker_9 : m_D k_M_asker 9 (.if_icmp .ge 36) 3 := (by decide +kernel : decode prog_14_method_133_code 9 = .ok (.if_icmp .ge 36, 3))
theorem d_M_asker_12 : m_D k_M_asker 12 (.iload_n 1) 1 := (by decide +kernel : decode prog_14_method_133_code 12 = .ok (.iload_n 1, 1))
theorem d_M_asker_13 : m_D k_M_asker 13 (.iload_n 2) 1 := (by decide +kernel : decode prog_14_method_133_code 13 = .ok (.iload_n 2, 1))
theorem d_M_asker_14 : m_D k_M_asker 14 (.invokestatic 120) 3 := (by decide +kernel : decode prog_14_method_133_code 14 = .ok (.invokestatic 120, 3))
theorem d_M_asker_17 : m_D k_M_asker 17 (.ifCond .eq 22) 3 := (by decide +kernel : decode prog_14_method_133_code 17 = .ok (.ifCond .eq 22, 3))
theorem d_M_asker_20 : m_D k_M_asker 20 (.aload_n 0) 1 := (by decide +kernel : decode prog_14_method_133_code 20 = .ok (.aload_n 0, 1))
theorem d_M_asker_21 : m_D k_M_asker 21 (.getfield 56) 3 := (by decide +kernel : decode prog_14_method_133_code 21 = .ok (.getfield 56, 3))
theorem d_M_asker_24 : m_D k_M_asker 24 (.iload_n 2) 1 := (by decide +kernel : decode prog_14_method_133_code 24 = .ok (.iload_n 2, 1))
theorem d_M_asker_25 : m_D k_M_asker 25 (.iaload) 1 := (by decide +kernel : decode prog_14_method_133_code 25 = .ok (.iaload, 1))
theorem d_M_asker_26 : m_D k_M_asker 26 (.ifCond .ge 13) 3 := (by decide +kernel : decode prog_14_method_133_code 26 = .ok (.ifCond .ge 13, 3))
theorem d_M_asker_29 : m_D k_M_asker 29 (.aload_n 0) 1 := (by decide +kernel : decode prog_14_method_133_code 29 = .ok (.aload_n 0, 1))
theorem d_M_asker_30 : m_D k_M_asker 30 (.iload_n 2) 1 := (by decide +kernel : decode prog_14_method_133_code 30 = .ok (.iload_n 2, 1))
theorem d_M_asker_31 : m_D k_M_asker 31 (.invokevirtual 473) 3 := (by decide +kernel : decode prog_14_method_133_code 31 = .ok (.invokevirtual 473, 3))
theorem d_M_asker_34 : m_D k_M_asker 34 (.ifCond .lt 5) 3 := (by decide +kernel : decode prog_14_method_133_code 34 = .ok (.ifCond .lt 5, 3))
theorem d_M_asker_37 : m_D k_M_asker 37 (.iload_n 2) 1 := (by decide +kernel : decode prog_14_method_133_code 37 = .ok (.iload_n 2, 1))
theorem d_M_asker_38 : m_D k_M_asker 38 (.ireturn) 1 := (by decide +kernel : decode prog_14_method_133_code 38 = .ok (.ireturn, 1))
theorem d_M_asker_39 : m_D k_M_asker 39 (.iinc 2 1) 3 := (by decide +kernel : decode prog_14_method_133_code 39 = .ok (.iinc 2 1, 3))
theorem d_M_asker_42 : m_D k_M_asker 42 (.goto (-40)) 3 := (by decide +kernel : decode prog_14_method_133_code 42 = .ok (.goto (-40), 3))
theorem d_M_asker_45 : m_D k_M_asker 45 (.iconst (-1)) 1 := (by decide +kernel : decode prog_14_method_133_code 45 = .ok (.iconst (-1), 1))
theorem d_M_asker_46 : m_D k_M_asker 46 (.ireturn) 1 := (by decide +kernel : decode prog_14_method_133_code 46 = .ok (.ireturn, 1))
def fn_M_asker_l2 (x0 : Option mA) (x1 : Int32) (t1 : Int32) : mP ((Int32) ⊕ (Int32)) :=
  m_bd (m_gR 11 20 x0) fun v2 =>
  m_bd (m_aI 0 v2 0) fun v3 =>
  if v3 ≤ t1 then
    m_rt (.inr (-1))
  else
    m_bd (fn_M_has x1 t1) fun v4 =>
    if v4 = 0 then
      m_rt (.inl (t1 + 1))
    else
      m_bd (m_gR 11 33 x0) fun v5 =>
      m_bd (m_aI 0 v5 t1) fun v6 =>
      if 0 ≤ v6 then
        m_rt (.inl (t1 + 1))
      else
        m_bd (fn_M_nextAsked x0 t1) fun v7 =>
        if v7 < 0 then
          m_rt (.inl (t1 + 1))
        else
          m_rt (.inr t1)
def fn_M_asker (x0 : Option mA) (x1 : Int32) : mP Int32 :=
  m_th 11 x0 <|
  m_lp (fn_M_asker_l2 x0 x1) m_F 0
set_option maxHeartbeats 4000000 in
set_option maxRecDepth 100000 in
theorem sd_M_asker (x0 : Option mA) (x1 : Int32) : m_Sm k_M_asker 3 0 0 [.inr (.inr x0), .inl x1] (fn_M_asker x0 x1) (fun b => some (.inl b)) := by
  refine ⟨Nat.le_of_ble_eq_true rfl, ?_⟩
  refine sm_th ?_
  refine sm_iconst (pc' := 1) d_M_asker_0 rfl ic_0 (sm_istore_n (i := 2) (L' := [(2, .inl 0), (0, .inr (.inr x0)), (1, .inl x1)]) (pc' := 2) d_M_asker_1 rfl rfl (Nat.le_of_ble_eq_true rfl) rfl ?_)
  refine sm_sub [0, 1, 2] rfl ?_
  refine sm_lp (hd := fun (t1 : Int32) => (.inl (2, [(2, .inl t1), (0, .inr (.inr x0)), (1, .inl x1)], []) : mC)) (fun t1 => ?_) m_F 0
  refine sm_iload_n (i := 2) (j := 0) (pc' := 3) d_M_asker_2 rfl rfl rfl (sm_aload_n (i := 0) (j := 1) (pc' := 4) d_M_asker_3 rfl rfl rfl ?_)
  refine sm_getR (pc' := 7) d_M_asker_4 rfl fl_M_35 rfl rfl (fun v2 => ?_)
  refine sm_iconst (pc' := 8) d_M_asker_7 rfl ic_0 ?_
  refine sm_iald (pc' := 9) d_M_asker_8 rfl (fun v3 => ?_)
  refine sm_icmp_ge (tgt := 45) (pc' := 12) d_M_asker_9 rfl rfl ?_ ?_
  · refine sm_iconst (pc' := 46) d_M_asker_45 rfl ic_m1 ?_
    exact sm_ireturn d_M_asker_46 rfl rfl
  · refine sm_iload_n (i := 1) (j := 2) (pc' := 13) d_M_asker_12 rfl rfl rfl (sm_iload_n (i := 2) (j := 0) (pc' := 14) d_M_asker_13 rfl rfl rfl ?_)
    refine sm_callSi (av := [.inl x1, .inl t1]) (st := []) (mc := 0) (ms := 0) (pc' := 17) d_M_asker_14 rfl (sd_M_has x1 t1) cs_M_has w_ml_M_120 rfl rfl (by decide) (Nat.le_of_ble_eq_true rfl) rfl rfl (fun v4 => ?_)
    refine sm_if_eq (tgt := 39) (pc' := 20) d_M_asker_17 rfl rfl ?_ ?_
    · refine sm_iinc (j := 0) (L' := [(2, .inl (t1 + 1)), (0, .inr (.inr x0)), (1, .inl x1)]) (pc' := 42) d_M_asker_39 rfl (v := (t1 + 1)) rfl (ix_1 _) (Nat.le_of_ble_eq_true rfl) rfl (sm_goto (tgt := 2) d_M_asker_42 rfl (sm_sub [0, 1, 2] rfl ?_))
      exact sm_rt rfl
    · refine sm_aload_n (i := 0) (j := 1) (pc' := 21) d_M_asker_20 rfl rfl rfl ?_
      refine sm_getR (pc' := 24) d_M_asker_21 rfl fl_M_56 rfl rfl (fun v5 => ?_)
      refine sm_iload_n (i := 2) (j := 0) (pc' := 25) d_M_asker_24 rfl rfl rfl ?_
      refine sm_iald (pc' := 26) d_M_asker_25 rfl (fun v6 => ?_)
      refine sm_if_ge (tgt := 39) (pc' := 29) d_M_asker_26 rfl rfl ?_ ?_
      · refine sm_iinc (j := 0) (L' := [(2, .inl (t1 + 1)), (0, .inr (.inr x0)), (1, .inl x1)]) (pc' := 42) d_M_asker_39 rfl (v := (t1 + 1)) rfl (ix_1 _) (Nat.le_of_ble_eq_true rfl) rfl (sm_goto (tgt := 2) d_M_asker_42 rfl (sm_sub [0, 1, 2] rfl ?_))
        exact sm_rt rfl
      · refine sm_aload_n (i := 0) (j := 1) (pc' := 30) d_M_asker_29 rfl rfl rfl (sm_iload_n (i := 2) (j := 0) (pc' := 31) d_M_asker_30 rfl rfl rfl ?_)
        refine sm_callVi (ci := 11) (x := x0) (av := [.inl t1]) (st := []) (mc := 0) (ms := 0) (pc' := 34) d_M_asker_31 rfl (sd_M_nextAsked x0 t1) m_lv rfl cv_M_nextAsked w_ml_M_473 rfl rfl (by decide) (Nat.le_of_ble_eq_true rfl) rfl rfl (fun v7 => ?_)
        refine sm_if_lt (tgt := 39) (pc' := 37) d_M_asker_34 rfl rfl ?_ ?_
        · refine sm_iinc (j := 0) (L' := [(2, .inl (t1 + 1)), (0, .inr (.inr x0)), (1, .inl x1)]) (pc' := 42) d_M_asker_39 rfl (v := (t1 + 1)) rfl (ix_1 _) (Nat.le_of_ble_eq_true rfl) rfl (sm_goto (tgt := 2) d_M_asker_42 rfl (sm_sub [0, 1, 2] rfl ?_))
          exact sm_rt rfl
        · refine sm_iload_n (i := 2) (j := 0) (pc' := 38) d_M_asker_37 rfl rfl rfl ?_
          exact sm_ireturn d_M_asker_38 rfl rfl
theorem d_M_laysStable_0 : m_D k_M_laysStable 0 (.iconst 0) 1 := (by decide +kernel : decode prog_14_method_134_code 0 = .ok (.iconst 0, 1))
theorem d_M_laysStable_1 : m_D k_M_laysStable 1 (.istore_n 2) 1 := (by decide +kernel : decode prog_14_method_134_code 1 = .ok (.istore_n 2, 1))
theorem d_M_laysStable_2 : m_D k_M_laysStable 2 (.iload_n 2) 1 := (by decide +kernel : decode prog_14_method_134_code 2 = .ok (.iload_n 2, 1))
theorem d_M_laysStable_3 : m_D k_M_laysStable 3 (.bipush 6) 2 := (by decide +kernel : decode prog_14_method_134_code 3 = .ok (.bipush 6, 2))
theorem d_M_laysStable_5 : m_D k_M_laysStable 5 (.if_icmp .ge 23) 3 := (by decide +kernel : decode prog_14_method_134_code 5 = .ok (.if_icmp .ge 23, 3))
theorem d_M_laysStable_8 : m_D k_M_laysStable 8 (.aload_n 0) 1 := (by decide +kernel : decode prog_14_method_134_code 8 = .ok (.aload_n 0, 1))
theorem d_M_laysStable_9 : m_D k_M_laysStable 9 (.getfield 56) 3 := (by decide +kernel : decode prog_14_method_134_code 9 = .ok (.getfield 56, 3))
theorem d_M_laysStable_12 : m_D k_M_laysStable 12 (.iload_n 2) 1 := (by decide +kernel : decode prog_14_method_134_code 12 = .ok (.iload_n 2, 1))
theorem d_M_laysStable_13 : m_D k_M_laysStable 13 (.iconst (-1)) 1 := (by decide +kernel : decode prog_14_method_134_code 13 = .ok (.iconst (-1), 1))
theorem d_M_laysStable_14 : m_D k_M_laysStable 14 (.iastore) 1 := (by decide +kernel : decode prog_14_method_134_code 14 = .ok (.iastore, 1))
theorem d_M_laysStable_15 : m_D k_M_laysStable 15 (.aload_n 0) 1 := (by decide +kernel : decode prog_14_method_134_code 15 = .ok (.aload_n 0, 1))
theorem d_M_laysStable_16 : m_D k_M_laysStable 16 (.getfield 62) 3 := (by decide +kernel : decode prog_14_method_134_code 16 = .ok (.getfield 62, 3))
theorem d_M_laysStable_19 : m_D k_M_laysStable 19 (.iload_n 2) 1 := (by decide +kernel : decode prog_14_method_134_code 19 = .ok (.iload_n 2, 1))
theorem d_M_laysStable_20 : m_D k_M_laysStable 20 (.iconst 0) 1 := (by decide +kernel : decode prog_14_method_134_code 20 = .ok (.iconst 0, 1))
theorem d_M_laysStable_21 : m_D k_M_laysStable 21 (.iastore) 1 := (by decide +kernel : decode prog_14_method_134_code 21 = .ok (.iastore, 1))
theorem d_M_laysStable_22 : m_D k_M_laysStable 22 (.iinc 2 1) 3 := (by decide +kernel : decode prog_14_method_134_code 22 = .ok (.iinc 2 1, 3))
theorem d_M_laysStable_25 : m_D k_M_laysStable 25 (.goto (-23)) 3 := (by decide +kernel : decode prog_14_method_134_code 25 = .ok (.goto (-23), 3))
theorem d_M_laysStable_28 : m_D k_M_laysStable 28 (.iconst 0) 1 := (by decide +kernel : decode prog_14_method_134_code 28 = .ok (.iconst 0, 1))
theorem d_M_laysStable_29 : m_D k_M_laysStable 29 (.istore_n 2) 1 := (by decide +kernel : decode prog_14_method_134_code 29 = .ok (.istore_n 2, 1))
theorem d_M_laysStable_30 : m_D k_M_laysStable 30 (.iload_n 2) 1 := (by decide +kernel : decode prog_14_method_134_code 30 = .ok (.iload_n 2, 1))
theorem d_M_laysStable_31 : m_D k_M_laysStable 31 (.bipush 8) 2 := (by decide +kernel : decode prog_14_method_134_code 31 = .ok (.bipush 8, 2))
theorem d_M_laysStable_33 : m_D k_M_laysStable 33 (.if_icmp .ge 16) 3 := (by decide +kernel : decode prog_14_method_134_code 33 = .ok (.if_icmp .ge 16, 3))
theorem d_M_laysStable_36 : m_D k_M_laysStable 36 (.aload_n 0) 1 := (by decide +kernel : decode prog_14_method_134_code 36 = .ok (.aload_n 0, 1))
theorem d_M_laysStable_37 : m_D k_M_laysStable 37 (.getfield 59) 3 := (by decide +kernel : decode prog_14_method_134_code 37 = .ok (.getfield 59, 3))
theorem d_M_laysStable_40 : m_D k_M_laysStable 40 (.iload_n 2) 1 := (by decide +kernel : decode prog_14_method_134_code 40 = .ok (.iload_n 2, 1))
theorem d_M_laysStable_41 : m_D k_M_laysStable 41 (.iconst (-1)) 1 := (by decide +kernel : decode prog_14_method_134_code 41 = .ok (.iconst (-1), 1))
theorem d_M_laysStable_42 : m_D k_M_laysStable 42 (.iastore) 1 := (by decide +kernel : decode prog_14_method_134_code 42 = .ok (.iastore, 1))
theorem d_M_laysStable_43 : m_D k_M_laysStable 43 (.iinc 2 1) 3 := (by decide +kernel : decode prog_14_method_134_code 43 = .ok (.iinc 2 1, 3))
theorem d_M_laysStable_46 : m_D k_M_laysStable 46 (.goto (-16)) 3 := (by decide +kernel : decode prog_14_method_134_code 46 = .ok (.goto (-16), 3))
theorem d_M_laysStable_49 : m_D k_M_laysStable 49 (.aload_n 0) 1 := (by decide +kernel : decode prog_14_method_134_code 49 = .ok (.aload_n 0, 1))
theorem d_M_laysStable_50 : m_D k_M_laysStable 50 (.iload_n 1) 1 := (by decide +kernel : decode prog_14_method_134_code 50 = .ok (.iload_n 1, 1))
theorem d_M_laysStable_51 : m_D k_M_laysStable 51 (.invokevirtual 476) 3 := (by decide +kernel : decode prog_14_method_134_code 51 = .ok (.invokevirtual 476, 3))
theorem d_M_laysStable_54 : m_D k_M_laysStable 54 (.istore_n 2) 1 := (by decide +kernel : decode prog_14_method_134_code 54 = .ok (.istore_n 2, 1))
theorem d_M_laysStable_55 : m_D k_M_laysStable 55 (.iload_n 2) 1 := (by decide +kernel : decode prog_14_method_134_code 55 = .ok (.iload_n 2, 1))
theorem d_M_laysStable_56 : m_D k_M_laysStable 56 (.ifCond .lt 86) 3 := (by decide +kernel : decode prog_14_method_134_code 56 = .ok (.ifCond .lt 86, 3))
theorem d_M_laysStable_59 : m_D k_M_laysStable 59 (.aload_n 0) 1 := (by decide +kernel : decode prog_14_method_134_code 59 = .ok (.aload_n 0, 1))
theorem d_M_laysStable_60 : m_D k_M_laysStable 60 (.iload_n 2) 1 := (by decide +kernel : decode prog_14_method_134_code 60 = .ok (.iload_n 2, 1))
theorem d_M_laysStable_61 : m_D k_M_laysStable 61 (.invokevirtual 473) 3 := (by decide +kernel : decode prog_14_method_134_code 61 = .ok (.invokevirtual 473, 3))
theorem d_M_laysStable_64 : m_D k_M_laysStable 64 (.istore_n 3) 1 := (by decide +kernel : decode prog_14_method_134_code 64 = .ok (.istore_n 3, 1))
theorem d_M_laysStable_65 : m_D k_M_laysStable 65 (.aload_n 0) 1 := (by decide +kernel : decode prog_14_method_134_code 65 = .ok (.aload_n 0, 1))
theorem d_M_laysStable_66 : m_D k_M_laysStable 66 (.getfield 62) 3 := (by decide +kernel : decode prog_14_method_134_code 66 = .ok (.getfield 62, 3))
theorem d_M_laysStable_69 : m_D k_M_laysStable 69 (.iload_n 2) 1 := (by decide +kernel : decode prog_14_method_134_code 69 = .ok (.iload_n 2, 1))
theorem d_M_laysStable_70 : m_D k_M_laysStable 70 (.dup2) 1 := (by decide +kernel : decode prog_14_method_134_code 70 = .ok (.dup2, 1))
theorem d_M_laysStable_71 : m_D k_M_laysStable 71 (.iaload) 1 := (by decide +kernel : decode prog_14_method_134_code 71 = .ok (.iaload, 1))
theorem d_M_laysStable_72 : m_D k_M_laysStable 72 (.iconst 1) 1 := (by decide +kernel : decode prog_14_method_134_code 72 = .ok (.iconst 1, 1))
theorem d_M_laysStable_73 : m_D k_M_laysStable 73 (.iload_n 3) 1 := (by decide +kernel : decode prog_14_method_134_code 73 = .ok (.iload_n 3, 1))
theorem d_M_laysStable_74 : m_D k_M_laysStable 74 (.ishl) 1 := (by decide +kernel : decode prog_14_method_134_code 74 = .ok (.ishl, 1))
theorem d_M_laysStable_75 : m_D k_M_laysStable 75 (.ior) 1 := (by decide +kernel : decode prog_14_method_134_code 75 = .ok (.ior, 1))
theorem d_M_laysStable_76 : m_D k_M_laysStable 76 (.iastore) 1 := (by decide +kernel : decode prog_14_method_134_code 76 = .ok (.iastore, 1))
theorem d_M_laysStable_77 : m_D k_M_laysStable 77 (.aload_n 0) 1 := (by decide +kernel : decode prog_14_method_134_code 77 = .ok (.aload_n 0, 1))
theorem d_M_laysStable_78 : m_D k_M_laysStable 78 (.getfield 59) 3 := (by decide +kernel : decode prog_14_method_134_code 78 = .ok (.getfield 59, 3))
theorem d_M_laysStable_81 : m_D k_M_laysStable 81 (.iload_n 3) 1 := (by decide +kernel : decode prog_14_method_134_code 81 = .ok (.iload_n 3, 1))
theorem d_M_laysStable_82 : m_D k_M_laysStable 82 (.iaload) 1 := (by decide +kernel : decode prog_14_method_134_code 82 = .ok (.iaload, 1))
theorem d_M_laysStable_83 : m_D k_M_laysStable 83 (.istore 4) 2 := (by decide +kernel : decode prog_14_method_134_code 83 = .ok (.istore 4, 2))
theorem d_M_laysStable_85 : m_D k_M_laysStable 85 (.iload 4) 2 := (by decide +kernel : decode prog_14_method_134_code 85 = .ok (.iload 4, 2))
theorem d_M_laysStable_87 : m_D k_M_laysStable 87 (.ifCond .lt 19) 3 := (by decide +kernel : decode prog_14_method_134_code 87 = .ok (.ifCond .lt 19, 3))
theorem d_M_laysStable_90 : m_D k_M_laysStable 90 (.aload_n 0) 1 := (by decide +kernel : decode prog_14_method_134_code 90 = .ok (.aload_n 0, 1))
theorem d_M_laysStable_91 : m_D k_M_laysStable 91 (.iload 4) 2 := (by decide +kernel : decode prog_14_method_134_code 91 = .ok (.iload 4, 2))
theorem d_M_laysStable_93 : m_D k_M_laysStable 93 (.iload_n 3) 1 := (by decide +kernel : decode prog_14_method_134_code 93 = .ok (.iload_n 3, 1))
theorem d_M_laysStable_94 : m_D k_M_laysStable 94 (.invokevirtual 316) 3 := (by decide +kernel : decode prog_14_method_134_code 94 = .ok (.invokevirtual 316, 3))
theorem d_M_laysStable_97 : m_D k_M_laysStable 97 (.aload_n 0) 1 := (by decide +kernel : decode prog_14_method_134_code 97 = .ok (.aload_n 0, 1))
theorem d_M_laysStable_98 : m_D k_M_laysStable 98 (.iload_n 2) 1 := (by decide +kernel : decode prog_14_method_134_code 98 = .ok (.iload_n 2, 1))
theorem d_M_laysStable_99 : m_D k_M_laysStable 99 (.iload_n 3) 1 := (by decide +kernel : decode prog_14_method_134_code 99 = .ok (.iload_n 3, 1))
theorem d_M_laysStable_100 : m_D k_M_laysStable 100 (.invokevirtual 316) 3 := (by decide +kernel : decode prog_14_method_134_code 100 = .ok (.invokevirtual 316, 3))
theorem d_M_laysStable_103 : m_D k_M_laysStable 103 (.if_icmp .le 30) 3 := (by decide +kernel : decode prog_14_method_134_code 103 = .ok (.if_icmp .le 30, 3))
theorem d_M_laysStable_106 : m_D k_M_laysStable 106 (.iload 4) 2 := (by decide +kernel : decode prog_14_method_134_code 106 = .ok (.iload 4, 2))
theorem d_M_laysStable_108 : m_D k_M_laysStable 108 (.ifCond .lt 11) 3 := (by decide +kernel : decode prog_14_method_134_code 108 = .ok (.ifCond .lt 11, 3))
theorem d_M_laysStable_111 : m_D k_M_laysStable 111 (.aload_n 0) 1 := (by decide +kernel : decode prog_14_method_134_code 111 = .ok (.aload_n 0, 1))
theorem d_M_laysStable_112 : m_D k_M_laysStable 112 (.getfield 56) 3 := (by decide +kernel : decode prog_14_method_134_code 112 = .ok (.getfield 56, 3))
theorem d_M_laysStable_115 : m_D k_M_laysStable 115 (.iload 4) 2 := (by decide +kernel : decode prog_14_method_134_code 115 = .ok (.iload 4, 2))
theorem d_M_laysStable_117 : m_D k_M_laysStable 117 (.iconst (-1)) 1 := (by decide +kernel : decode prog_14_method_134_code 117 = .ok (.iconst (-1), 1))
theorem d_M_laysStable_118 : m_D k_M_laysStable 118 (.iastore) 1 := (by decide +kernel : decode prog_14_method_134_code 118 = .ok (.iastore, 1))
theorem d_M_laysStable_119 : m_D k_M_laysStable 119 (.aload_n 0) 1 := (by decide +kernel : decode prog_14_method_134_code 119 = .ok (.aload_n 0, 1))
theorem d_M_laysStable_120 : m_D k_M_laysStable 120 (.getfield 59) 3 := (by decide +kernel : decode prog_14_method_134_code 120 = .ok (.getfield 59, 3))
theorem d_M_laysStable_123 : m_D k_M_laysStable 123 (.iload_n 3) 1 := (by decide +kernel : decode prog_14_method_134_code 123 = .ok (.iload_n 3, 1))
theorem d_M_laysStable_124 : m_D k_M_laysStable 124 (.iload_n 2) 1 := (by decide +kernel : decode prog_14_method_134_code 124 = .ok (.iload_n 2, 1))
theorem d_M_laysStable_125 : m_D k_M_laysStable 125 (.iastore) 1 := (by decide +kernel : decode prog_14_method_134_code 125 = .ok (.iastore, 1))
theorem d_M_laysStable_126 : m_D k_M_laysStable 126 (.aload_n 0) 1 := (by decide +kernel : decode prog_14_method_134_code 126 = .ok (.aload_n 0, 1))
theorem d_M_laysStable_127 : m_D k_M_laysStable 127 (.getfield 56) 3 := (by decide +kernel : decode prog_14_method_134_code 127 = .ok (.getfield 56, 3))
theorem d_M_laysStable_130 : m_D k_M_laysStable 130 (.iload_n 2) 1 := (by decide +kernel : decode prog_14_method_134_code 130 = .ok (.iload_n 2, 1))
theorem d_M_laysStable_131 : m_D k_M_laysStable 131 (.iload_n 3) 1 := (by decide +kernel : decode prog_14_method_134_code 131 = .ok (.iload_n 3, 1))
theorem d_M_laysStable_132 : m_D k_M_laysStable 132 (.iastore) 1 := (by decide +kernel : decode prog_14_method_134_code 132 = .ok (.iastore, 1))
theorem d_M_laysStable_133 : m_D k_M_laysStable 133 (.aload_n 0) 1 := (by decide +kernel : decode prog_14_method_134_code 133 = .ok (.aload_n 0, 1))
theorem d_M_laysStable_134 : m_D k_M_laysStable 134 (.iload_n 1) 1 := (by decide +kernel : decode prog_14_method_134_code 134 = .ok (.iload_n 1, 1))
theorem d_M_laysStable_135 : m_D k_M_laysStable 135 (.invokevirtual 476) 3 := (by decide +kernel : decode prog_14_method_134_code 135 = .ok (.invokevirtual 476, 3))
theorem d_M_laysStable_138 : m_D k_M_laysStable 138 (.istore_n 2) 1 := (by decide +kernel : decode prog_14_method_134_code 138 = .ok (.istore_n 2, 1))
theorem d_M_laysStable_139 : m_D k_M_laysStable 139 (.goto (-84)) 3 := (by decide +kernel : decode prog_14_method_134_code 139 = .ok (.goto (-84), 3))
theorem d_M_laysStable_142 : m_D k_M_laysStable 142 (.return_) 1 := (by decide +kernel : decode prog_14_method_134_code 142 = .ok (.return_, 1))
def fn_M_laysStable_l2 (x0 : Option mA) (t1 : Int32) : mP ((Int32) ⊕ (Unit)) :=
  if 6 ≤ t1 then
    m_rt (.inr ())
  else
    m_bd (m_gR 11 33 x0) fun v2 =>
    m_bd (m_tI 0 v2 t1 (-1)) fun _ =>
    m_bd (m_gR 11 36 x0) fun v3 =>
    m_bd (m_tI 0 v3 t1 0) fun _ =>
    m_rt (.inl (t1 + 1))
def fn_M_laysStable_l30 (x0 : Option mA) (t5 : Int32) : mP ((Int32) ⊕ (Unit)) :=
  if 8 ≤ t5 then
    m_rt (.inr ())
  else
    m_bd (m_gR 11 35 x0) fun v6 =>
    m_bd (m_tI 0 v6 t5 (-1)) fun _ =>
    m_rt (.inl (t5 + 1))
def fn_M_laysStable_l55 (x0 : Option mA) (x1 : Int32) (t9 : Int32) : mP ((Int32) ⊕ (Unit)) :=
  if t9 < 0 then
    m_rt (.inr ())
  else
    m_bd (fn_M_nextAsked x0 t9) fun v10 =>
    m_bd (m_gR 11 36 x0) fun v11 =>
    m_bd (m_aI 0 v11 t9) fun v12 =>
    m_bd (m_tI 0 v11 t9 (v12 ||| (1 <<< (v10 &&& 31)))) fun _ =>
    m_bd (m_gR 11 35 x0) fun v13 =>
    m_bd (m_aI 0 v13 v10) fun v14 =>
    m_bd (α := Unit) (
      if v14 < 0 then
        m_bd (α := Unit) (
          if v14 < 0 then
            m_rt ()
          else
            m_bd (m_gR 11 33 x0) fun v15 =>
            m_bd (m_tI 0 v15 v14 (-1)) fun _ =>
            m_rt ()
          ) fun (t16 : Unit) =>
        m_bd (m_gR 11 35 x0) fun v17 =>
        m_bd (m_tI 0 v17 v10 t9) fun _ =>
        m_bd (m_gR 11 33 x0) fun v18 =>
        m_bd (m_tI 0 v18 t9 v10) fun _ =>
        m_rt ()
      else
        m_bd (fn_M_loveOf x0 v14 v10) fun v19 =>
        m_bd (fn_M_loveOf x0 t9 v10) fun v20 =>
        if v19 ≤ v20 then
          m_rt ()
        else
          m_bd (α := Unit) (
            if v14 < 0 then
              m_rt ()
            else
              m_bd (m_gR 11 33 x0) fun v21 =>
              m_bd (m_tI 0 v21 v14 (-1)) fun _ =>
              m_rt ()
            ) fun (t22 : Unit) =>
          m_bd (m_gR 11 35 x0) fun v23 =>
          m_bd (m_tI 0 v23 v10 t9) fun _ =>
          m_bd (m_gR 11 33 x0) fun v24 =>
          m_bd (m_tI 0 v24 t9 v10) fun _ =>
          m_rt ()
      ) fun (t25 : Unit) =>
    m_bd (fn_M_asker x0 x1) fun v26 =>
    m_rt (.inl v26)
def fn_M_laysStable (x0 : Option mA) (x1 : Int32) : mP Unit :=
  m_th 11 x0 <|
  m_bd (m_lp (fn_M_laysStable_l2 x0) m_F 0) fun (t4 : Unit) =>
  m_bd (m_lp (fn_M_laysStable_l30 x0) m_F 0) fun (t7 : Unit) =>
  m_bd (fn_M_asker x0 x1) fun v8 =>
  m_bd (m_lp (fn_M_laysStable_l55 x0 x1) m_F v8) fun (t27 : Unit) =>
  m_rt ()
set_option maxHeartbeats 4000000 in
set_option maxRecDepth 100000 in
theorem sd_M_laysStable (x0 : Option mA) (x1 : Int32) : m_Sm k_M_laysStable 4 0 0 [.inr (.inr x0), .inl x1] (fn_M_laysStable x0 x1) (fun _ => none) := by
  refine ⟨Nat.le_of_ble_eq_true rfl, ?_⟩
  refine sm_th ?_
  refine sm_iconst (pc' := 1) d_M_laysStable_0 rfl ic_0 (sm_istore_n (i := 2) (L' := [(2, .inl 0), (0, .inr (.inr x0)), (1, .inl x1)]) (pc' := 2) d_M_laysStable_1 rfl rfl (Nat.le_of_ble_eq_true rfl) rfl ?_)
  refine sm_sub [0, 1, 2] rfl ?_
  refine sm_bd (mid := fun (t4 : Unit) => .inl (28, [(0, .inr (.inr x0)), (1, .inl x1)], [])) (sm_lp (hd := fun (t1 : Int32) => (.inl (2, [(2, .inl t1), (0, .inr (.inr x0)), (1, .inl x1)], []) : mC)) (fun t1 => ?_) m_F 0) (fun t4 => ?_)
  · refine sm_iload_n (i := 2) (j := 0) (pc' := 3) d_M_laysStable_2 rfl rfl rfl (sm_bipush (pc' := 5) d_M_laysStable_3 rfl ib_6 ?_)
    refine sm_icmp_ge (tgt := 28) (pc' := 8) d_M_laysStable_5 rfl rfl ?_ ?_
    · refine sm_sub [1, 2] rfl ?_
      exact sm_rt rfl
    · refine sm_aload_n (i := 0) (j := 1) (pc' := 9) d_M_laysStable_8 rfl rfl rfl ?_
      refine sm_getR (pc' := 12) d_M_laysStable_9 rfl fl_M_56 rfl rfl (fun v2 => ?_)
      refine sm_iload_n (i := 2) (j := 0) (pc' := 13) d_M_laysStable_12 rfl rfl rfl (sm_iconst (pc' := 14) d_M_laysStable_13 rfl ic_m1 (sm_iast (pc' := 15) d_M_laysStable_14 rfl (sm_aload_n (i := 0) (j := 1) (pc' := 16) d_M_laysStable_15 rfl rfl rfl ?_)))
      refine sm_getR (pc' := 19) d_M_laysStable_16 rfl fl_M_62 rfl rfl (fun v3 => ?_)
      refine sm_iload_n (i := 2) (j := 0) (pc' := 20) d_M_laysStable_19 rfl rfl rfl (sm_iconst (pc' := 21) d_M_laysStable_20 rfl ic_0 (sm_iast (pc' := 22) d_M_laysStable_21 rfl (sm_iinc (j := 0) (L' := [(2, .inl (t1 + 1)), (0, .inr (.inr x0)), (1, .inl x1)]) (pc' := 25) d_M_laysStable_22 rfl (v := (t1 + 1)) rfl (ix_1 _) (Nat.le_of_ble_eq_true rfl) rfl (sm_goto (tgt := 2) d_M_laysStable_25 rfl (sm_sub [0, 1, 2] rfl ?_)))))
      exact sm_rt rfl
  · refine sm_iconst (pc' := 29) d_M_laysStable_28 rfl ic_0 (sm_istore_n (i := 2) (L' := [(2, .inl 0), (0, .inr (.inr x0)), (1, .inl x1)]) (pc' := 30) d_M_laysStable_29 rfl rfl (Nat.le_of_ble_eq_true rfl) rfl ?_)
    refine sm_sub [0, 1, 2] rfl ?_
    refine sm_bd (mid := fun (t7 : Unit) => .inl (49, [(0, .inr (.inr x0)), (1, .inl x1)], [])) (sm_lp (hd := fun (t5 : Int32) => (.inl (30, [(2, .inl t5), (0, .inr (.inr x0)), (1, .inl x1)], []) : mC)) (fun t5 => ?_) m_F 0) (fun t7 => ?_)
    · refine sm_iload_n (i := 2) (j := 0) (pc' := 31) d_M_laysStable_30 rfl rfl rfl (sm_bipush (pc' := 33) d_M_laysStable_31 rfl ib_8 ?_)
      refine sm_icmp_ge (tgt := 49) (pc' := 36) d_M_laysStable_33 rfl rfl ?_ ?_
      · refine sm_sub [1, 2] rfl ?_
        exact sm_rt rfl
      · refine sm_aload_n (i := 0) (j := 1) (pc' := 37) d_M_laysStable_36 rfl rfl rfl ?_
        refine sm_getR (pc' := 40) d_M_laysStable_37 rfl fl_M_59 rfl rfl (fun v6 => ?_)
        refine sm_iload_n (i := 2) (j := 0) (pc' := 41) d_M_laysStable_40 rfl rfl rfl (sm_iconst (pc' := 42) d_M_laysStable_41 rfl ic_m1 (sm_iast (pc' := 43) d_M_laysStable_42 rfl (sm_iinc (j := 0) (L' := [(2, .inl (t5 + 1)), (0, .inr (.inr x0)), (1, .inl x1)]) (pc' := 46) d_M_laysStable_43 rfl (v := (t5 + 1)) rfl (ix_1 _) (Nat.le_of_ble_eq_true rfl) rfl (sm_goto (tgt := 30) d_M_laysStable_46 rfl (sm_sub [0, 1, 2] rfl ?_)))))
        exact sm_rt rfl
    · refine sm_aload_n (i := 0) (j := 0) (pc' := 50) d_M_laysStable_49 rfl rfl rfl (sm_iload_n (i := 1) (j := 1) (pc' := 51) d_M_laysStable_50 rfl rfl rfl ?_)
      refine sm_callVi (ci := 11) (x := x0) (av := [.inl x1]) (st := []) (mc := 0) (ms := 0) (pc' := 54) d_M_laysStable_51 rfl (sd_M_asker x0 x1) m_lv rfl cv_M_asker w_ml_M_476 rfl rfl (by decide) (Nat.le_of_ble_eq_true rfl) rfl rfl (fun v8 => ?_)
      refine sm_istore_n (i := 2) (L' := [(2, .inl v8), (0, .inr (.inr x0)), (1, .inl x1)]) (pc' := 55) d_M_laysStable_54 rfl rfl (Nat.le_of_ble_eq_true rfl) rfl ?_
      refine sm_sub [0, 1, 2] rfl ?_
      refine sm_bd (mid := fun (t27 : Unit) => .inl (142, [], [])) (sm_lp (hd := fun (t9 : Int32) => (.inl (55, [(2, .inl t9), (0, .inr (.inr x0)), (1, .inl x1)], []) : mC)) (fun t9 => ?_) m_F v8) (fun t27 => ?_)
      · refine sm_iload_n (i := 2) (j := 0) (pc' := 56) d_M_laysStable_55 rfl rfl rfl ?_
        refine sm_if_lt (tgt := 142) (pc' := 59) d_M_laysStable_56 rfl rfl ?_ ?_
        · refine sm_sub [] rfl ?_
          exact sm_rt rfl
        · refine sm_aload_n (i := 0) (j := 1) (pc' := 60) d_M_laysStable_59 rfl rfl rfl (sm_iload_n (i := 2) (j := 0) (pc' := 61) d_M_laysStable_60 rfl rfl rfl ?_)
          refine sm_callVi (ci := 11) (x := x0) (av := [.inl t9]) (st := []) (mc := 0) (ms := 0) (pc' := 64) d_M_laysStable_61 rfl (sd_M_nextAsked x0 t9) m_lv rfl cv_M_nextAsked w_ml_M_473 rfl rfl (by decide) (Nat.le_of_ble_eq_true rfl) rfl rfl (fun v10 => ?_)
          refine sm_istore_n (i := 3) (L' := [(3, .inl v10), (2, .inl t9), (0, .inr (.inr x0)), (1, .inl x1)]) (pc' := 65) d_M_laysStable_64 rfl rfl (Nat.le_of_ble_eq_true rfl) rfl (sm_aload_n (i := 0) (j := 2) (pc' := 66) d_M_laysStable_65 rfl rfl rfl ?_)
          refine sm_getR (pc' := 69) d_M_laysStable_66 rfl fl_M_62 rfl rfl (fun v11 => ?_)
          refine sm_iload_n (i := 2) (j := 1) (pc' := 70) d_M_laysStable_69 rfl rfl rfl (sm_dup2 (pc' := 71) d_M_laysStable_70 rfl rfl rfl ?_)
          refine sm_iald (pc' := 72) d_M_laysStable_71 rfl (fun v12 => ?_)
          refine sm_iconst (pc' := 73) d_M_laysStable_72 rfl ic_1 (sm_iload_n (i := 3) (j := 0) (pc' := 74) d_M_laysStable_73 rfl rfl rfl (sm_ishl (pc' := 75) d_M_laysStable_74 rfl (sm_ior (pc' := 76) d_M_laysStable_75 rfl (sm_iast (pc' := 77) d_M_laysStable_76 rfl (sm_aload_n (i := 0) (j := 2) (pc' := 78) d_M_laysStable_77 rfl rfl rfl ?_)))))
          refine sm_getR (pc' := 81) d_M_laysStable_78 rfl fl_M_59 rfl rfl (fun v13 => ?_)
          refine sm_iload_n (i := 3) (j := 0) (pc' := 82) d_M_laysStable_81 rfl rfl rfl ?_
          refine sm_iald (pc' := 83) d_M_laysStable_82 rfl (fun v14 => ?_)
          refine sm_istore (L' := [(4, .inl v14), (3, .inl v10), (2, .inl t9), (0, .inr (.inr x0)), (1, .inl x1)]) (pc' := 85) d_M_laysStable_83 rfl (Nat.le_of_ble_eq_true rfl) rfl (sm_iload (j := 0) (pc' := 87) d_M_laysStable_85 rfl rfl ?_)
          refine sm_bd (mid := fun (t25 : Unit) => .inl (133, [(0, .inr (.inr x0)), (1, .inl x1)], [])) ?_ (fun t25 => ?_)
          · refine sm_if_lt (tgt := 106) (pc' := 90) d_M_laysStable_87 rfl rfl ?_ ?_
            · refine sm_iload (j := 0) (pc' := 108) d_M_laysStable_106 rfl rfl ?_
              refine sm_bd (mid := fun (t16 : Unit) => .inl (119, [(0, .inr (.inr x0)), (1, .inl x1), (2, .inl t9), (3, .inl v10)], [])) ?_ (fun t16 => ?_)
              · refine sm_if_lt (tgt := 119) (pc' := 111) d_M_laysStable_108 rfl rfl ?_ ?_
                · refine sm_sub [3, 4, 2, 1] rfl ?_
                  exact sm_rt rfl
                · refine sm_aload_n (i := 0) (j := 3) (pc' := 112) d_M_laysStable_111 rfl rfl rfl ?_
                  refine sm_getR (pc' := 115) d_M_laysStable_112 rfl fl_M_56 rfl rfl (fun v15 => ?_)
                  refine sm_iload (j := 0) (pc' := 117) d_M_laysStable_115 rfl rfl (sm_iconst (pc' := 118) d_M_laysStable_117 rfl ic_m1 (sm_iast (pc' := 119) d_M_laysStable_118 rfl (sm_sub [3, 4, 2, 1] rfl ?_)))
                  exact sm_rt rfl
              · refine sm_aload_n (i := 0) (j := 0) (pc' := 120) d_M_laysStable_119 rfl rfl rfl ?_
                refine sm_getR (pc' := 123) d_M_laysStable_120 rfl fl_M_59 rfl rfl (fun v17 => ?_)
                refine sm_iload_n (i := 3) (j := 3) (pc' := 124) d_M_laysStable_123 rfl rfl rfl (sm_iload_n (i := 2) (j := 2) (pc' := 125) d_M_laysStable_124 rfl rfl rfl (sm_iast (pc' := 126) d_M_laysStable_125 rfl (sm_aload_n (i := 0) (j := 0) (pc' := 127) d_M_laysStable_126 rfl rfl rfl ?_)))
                refine sm_getR (pc' := 130) d_M_laysStable_127 rfl fl_M_56 rfl rfl (fun v18 => ?_)
                refine sm_iload_n (i := 2) (j := 2) (pc' := 131) d_M_laysStable_130 rfl rfl rfl (sm_iload_n (i := 3) (j := 3) (pc' := 132) d_M_laysStable_131 rfl rfl rfl (sm_iast (pc' := 133) d_M_laysStable_132 rfl (sm_sub [0, 1] rfl ?_)))
                exact sm_rt rfl
            · refine sm_aload_n (i := 0) (j := 3) (pc' := 91) d_M_laysStable_90 rfl rfl rfl (sm_iload (j := 0) (pc' := 93) d_M_laysStable_91 rfl rfl (sm_iload_n (i := 3) (j := 1) (pc' := 94) d_M_laysStable_93 rfl rfl rfl ?_))
              refine sm_callVi (ci := 11) (x := x0) (av := [.inl v14, .inl v10]) (st := []) (mc := 0) (ms := 0) (pc' := 97) d_M_laysStable_94 rfl (sd_M_loveOf x0 v14 v10) m_lv rfl cv_M_loveOf w_ml_M_316 rfl rfl (by decide) (Nat.le_of_ble_eq_true rfl) rfl rfl (fun v19 => ?_)
              refine sm_aload_n (i := 0) (j := 3) (pc' := 98) d_M_laysStable_97 rfl rfl rfl (sm_iload_n (i := 2) (j := 2) (pc' := 99) d_M_laysStable_98 rfl rfl rfl (sm_iload_n (i := 3) (j := 1) (pc' := 100) d_M_laysStable_99 rfl rfl rfl ?_))
              refine sm_callVi (ci := 11) (x := x0) (av := [.inl t9, .inl v10]) (st := [.inl v19]) (mc := 0) (ms := 0) (pc' := 103) d_M_laysStable_100 rfl (sd_M_loveOf x0 t9 v10) m_lv rfl cv_M_loveOf w_ml_M_316 rfl rfl (by decide) (Nat.le_of_ble_eq_true rfl) rfl rfl (fun v20 => ?_)
              refine sm_icmp_le (tgt := 133) (pc' := 106) d_M_laysStable_103 rfl rfl ?_ ?_
              · refine sm_sub [3, 4] rfl ?_
                exact sm_rt rfl
              · refine sm_iload (j := 0) (pc' := 108) d_M_laysStable_106 rfl rfl ?_
                refine sm_bd (mid := fun (t22 : Unit) => .inl (119, [(0, .inr (.inr x0)), (1, .inl x1), (2, .inl t9), (3, .inl v10)], [])) ?_ (fun t22 => ?_)
                · refine sm_if_lt (tgt := 119) (pc' := 111) d_M_laysStable_108 rfl rfl ?_ ?_
                  · refine sm_sub [3, 4, 2, 1] rfl ?_
                    exact sm_rt rfl
                  · refine sm_aload_n (i := 0) (j := 3) (pc' := 112) d_M_laysStable_111 rfl rfl rfl ?_
                    refine sm_getR (pc' := 115) d_M_laysStable_112 rfl fl_M_56 rfl rfl (fun v21 => ?_)
                    refine sm_iload (j := 0) (pc' := 117) d_M_laysStable_115 rfl rfl (sm_iconst (pc' := 118) d_M_laysStable_117 rfl ic_m1 (sm_iast (pc' := 119) d_M_laysStable_118 rfl (sm_sub [3, 4, 2, 1] rfl ?_)))
                    exact sm_rt rfl
                · refine sm_aload_n (i := 0) (j := 0) (pc' := 120) d_M_laysStable_119 rfl rfl rfl ?_
                  refine sm_getR (pc' := 123) d_M_laysStable_120 rfl fl_M_59 rfl rfl (fun v23 => ?_)
                  refine sm_iload_n (i := 3) (j := 3) (pc' := 124) d_M_laysStable_123 rfl rfl rfl (sm_iload_n (i := 2) (j := 2) (pc' := 125) d_M_laysStable_124 rfl rfl rfl (sm_iast (pc' := 126) d_M_laysStable_125 rfl (sm_aload_n (i := 0) (j := 0) (pc' := 127) d_M_laysStable_126 rfl rfl rfl ?_)))
                  refine sm_getR (pc' := 130) d_M_laysStable_127 rfl fl_M_56 rfl rfl (fun v24 => ?_)
                  refine sm_iload_n (i := 2) (j := 2) (pc' := 131) d_M_laysStable_130 rfl rfl rfl (sm_iload_n (i := 3) (j := 3) (pc' := 132) d_M_laysStable_131 rfl rfl rfl (sm_iast (pc' := 133) d_M_laysStable_132 rfl (sm_sub [0, 1] rfl ?_)))
                  exact sm_rt rfl
          · refine sm_aload_n (i := 0) (j := 0) (pc' := 134) d_M_laysStable_133 rfl rfl rfl (sm_iload_n (i := 1) (j := 1) (pc' := 135) d_M_laysStable_134 rfl rfl rfl ?_)
            refine sm_callVi (ci := 11) (x := x0) (av := [.inl x1]) (st := []) (mc := 0) (ms := 0) (pc' := 138) d_M_laysStable_135 rfl (sd_M_asker x0 x1) m_lv rfl cv_M_asker w_ml_M_476 rfl rfl (by decide) (Nat.le_of_ble_eq_true rfl) rfl rfl (fun v26 => ?_)
            refine sm_istore_n (i := 2) (L' := [(2, .inl v26), (0, .inr (.inr x0)), (1, .inl x1)]) (pc' := 139) d_M_laysStable_138 rfl rfl (Nat.le_of_ble_eq_true rfl) rfl (sm_goto (tgt := 55) d_M_laysStable_139 rfl (sm_sub [0, 1, 2] rfl ?_))
            exact sm_rt rfl
      · exact sm_return d_M_laysStable_142 rfl rfl
theorem d_M_stable_0 : m_D k_M_stable 0 (.aload_n 0) 1 := (by decide +kernel : decode prog_14_method_135_code 0 = .ok (.aload_n 0, 1))
theorem d_M_stable_1 : m_D k_M_stable 1 (.iconst 0) 1 := (by decide +kernel : decode prog_14_method_135_code 1 = .ok (.iconst 0, 1))
theorem d_M_stable_2 : m_D k_M_stable 2 (.putfield 81) 3 := (by decide +kernel : decode prog_14_method_135_code 2 = .ok (.putfield 81, 3))
theorem d_M_stable_5 : m_D k_M_stable 5 (.aload_n 0) 1 := (by decide +kernel : decode prog_14_method_135_code 5 = .ok (.aload_n 0, 1))
theorem d_M_stable_6 : m_D k_M_stable 6 (.iconst 0) 1 := (by decide +kernel : decode prog_14_method_135_code 6 = .ok (.iconst 0, 1))
theorem d_M_stable_7 : m_D k_M_stable 7 (.putfield 84) 3 := (by decide +kernel : decode prog_14_method_135_code 7 = .ok (.putfield 84, 3))
theorem d_M_stable_10 : m_D k_M_stable 10 (.aload_n 0) 1 := (by decide +kernel : decode prog_14_method_135_code 10 = .ok (.aload_n 0, 1))
theorem d_M_stable_11 : m_D k_M_stable 11 (.iload_n 2) 1 := (by decide +kernel : decode prog_14_method_135_code 11 = .ok (.iload_n 2, 1))
theorem d_M_stable_12 : m_D k_M_stable 12 (.invokevirtual 349) 3 := (by decide +kernel : decode prog_14_method_135_code 12 = .ok (.invokevirtual 349, 3))
theorem d_M_stable_15 : m_D k_M_stable 15 (.ifCond .ne 9) 3 := (by decide +kernel : decode prog_14_method_135_code 15 = .ok (.ifCond .ne 9, 3))
theorem d_M_stable_18 : m_D k_M_stable 18 (.aload_n 0) 1 := (by decide +kernel : decode prog_14_method_135_code 18 = .ok (.aload_n 0, 1))
theorem d_M_stable_19 : m_D k_M_stable 19 (.iconst 2) 1 := (by decide +kernel : decode prog_14_method_135_code 19 = .ok (.iconst 2, 1))
theorem d_M_stable_20 : m_D k_M_stable 20 (.invokevirtual 331) 3 := (by decide +kernel : decode prog_14_method_135_code 20 = .ok (.invokevirtual 331, 3))
theorem d_M_stable_23 : m_D k_M_stable 23 (.ireturn) 1 := (by decide +kernel : decode prog_14_method_135_code 23 = .ok (.ireturn, 1))
theorem d_M_stable_24 : m_D k_M_stable 24 (.aload_n 0) 1 := (by decide +kernel : decode prog_14_method_135_code 24 = .ok (.aload_n 0, 1))
theorem d_M_stable_25 : m_D k_M_stable 25 (.iload_n 1) 1 := (by decide +kernel : decode prog_14_method_135_code 25 = .ok (.iload_n 1, 1))
theorem d_M_stable_26 : m_D k_M_stable 26 (.invokevirtual 467) 3 := (by decide +kernel : decode prog_14_method_135_code 26 = .ok (.invokevirtual 467, 3))
theorem d_M_stable_29 : m_D k_M_stable 29 (.ifCond .eq 11) 3 := (by decide +kernel : decode prog_14_method_135_code 29 = .ok (.ifCond .eq 11, 3))
theorem d_M_stable_32 : m_D k_M_stable 32 (.iload_n 1) 1 := (by decide +kernel : decode prog_14_method_135_code 32 = .ok (.iload_n 1, 1))
theorem d_M_stable_33 : m_D k_M_stable 33 (.iload_n 2) 1 := (by decide +kernel : decode prog_14_method_135_code 33 = .ok (.iload_n 2, 1))
theorem d_M_stable_34 : m_D k_M_stable 34 (.invokestatic 120) 3 := (by decide +kernel : decode prog_14_method_135_code 34 = .ok (.invokestatic 120, 3))
theorem d_M_stable_37 : m_D k_M_stable 37 (.ifCond .ne 9) 3 := (by decide +kernel : decode prog_14_method_135_code 37 = .ok (.ifCond .ne 9, 3))
theorem d_M_stable_40 : m_D k_M_stable 40 (.aload_n 0) 1 := (by decide +kernel : decode prog_14_method_135_code 40 = .ok (.aload_n 0, 1))
theorem d_M_stable_41 : m_D k_M_stable 41 (.iconst 5) 1 := (by decide +kernel : decode prog_14_method_135_code 41 = .ok (.iconst 5, 1))
theorem d_M_stable_42 : m_D k_M_stable 42 (.invokevirtual 331) 3 := (by decide +kernel : decode prog_14_method_135_code 42 = .ok (.invokevirtual 331, 3))
theorem d_M_stable_45 : m_D k_M_stable 45 (.ireturn) 1 := (by decide +kernel : decode prog_14_method_135_code 45 = .ok (.ireturn, 1))
theorem d_M_stable_46 : m_D k_M_stable 46 (.aload_n 0) 1 := (by decide +kernel : decode prog_14_method_135_code 46 = .ok (.aload_n 0, 1))
theorem d_M_stable_47 : m_D k_M_stable 47 (.iload_n 1) 1 := (by decide +kernel : decode prog_14_method_135_code 47 = .ok (.iload_n 1, 1))
theorem d_M_stable_48 : m_D k_M_stable 48 (.invokevirtual 479) 3 := (by decide +kernel : decode prog_14_method_135_code 48 = .ok (.invokevirtual 479, 3))
theorem d_M_stable_51 : m_D k_M_stable 51 (.aload_n 0) 1 := (by decide +kernel : decode prog_14_method_135_code 51 = .ok (.aload_n 0, 1))
theorem d_M_stable_52 : m_D k_M_stable 52 (.getfield 56) 3 := (by decide +kernel : decode prog_14_method_135_code 52 = .ok (.getfield 56, 3))
theorem d_M_stable_55 : m_D k_M_stable 55 (.iload_n 2) 1 := (by decide +kernel : decode prog_14_method_135_code 55 = .ok (.iload_n 2, 1))
theorem d_M_stable_56 : m_D k_M_stable 56 (.iaload) 1 := (by decide +kernel : decode prog_14_method_135_code 56 = .ok (.iaload, 1))
theorem d_M_stable_57 : m_D k_M_stable 57 (.ifCond .ge 12) 3 := (by decide +kernel : decode prog_14_method_135_code 57 = .ok (.ifCond .ge 12, 3))
theorem d_M_stable_60 : m_D k_M_stable 60 (.aload_n 0) 1 := (by decide +kernel : decode prog_14_method_135_code 60 = .ok (.aload_n 0, 1))
theorem d_M_stable_61 : m_D k_M_stable 61 (.bipush 8) 2 := (by decide +kernel : decode prog_14_method_135_code 61 = .ok (.bipush 8, 2))
theorem d_M_stable_63 : m_D k_M_stable 63 (.invokevirtual 331) 3 := (by decide +kernel : decode prog_14_method_135_code 63 = .ok (.invokevirtual 331, 3))
theorem d_M_stable_66 : m_D k_M_stable 66 (.goto 9) 3 := (by decide +kernel : decode prog_14_method_135_code 66 = .ok (.goto 9, 3))
theorem d_M_stable_69 : m_D k_M_stable 69 (.aload_n 0) 1 := (by decide +kernel : decode prog_14_method_135_code 69 = .ok (.aload_n 0, 1))
theorem d_M_stable_70 : m_D k_M_stable 70 (.getfield 56) 3 := (by decide +kernel : decode prog_14_method_135_code 70 = .ok (.getfield 56, 3))
theorem d_M_stable_73 : m_D k_M_stable 73 (.iload_n 2) 1 := (by decide +kernel : decode prog_14_method_135_code 73 = .ok (.iload_n 2, 1))
theorem d_M_stable_74 : m_D k_M_stable 74 (.iaload) 1 := (by decide +kernel : decode prog_14_method_135_code 74 = .ok (.iaload, 1))
theorem d_M_stable_75 : m_D k_M_stable 75 (.ireturn) 1 := (by decide +kernel : decode prog_14_method_135_code 75 = .ok (.ireturn, 1))
def fn_M_stable (x0 : Option mA) (x1 : Int32) (x2 : Int32) : mP Int32 :=
  m_th 11 x0 <|
  m_bd (m_pI 11 1 x0 0) fun _ =>
  m_bd (m_pI 11 0 x0 0) fun _ =>
  m_bd (fn_M_isPersonAt x0 x2) fun v1 =>
  if v1 = 0 then
    m_bd (fn_M_refuse x0 2) fun v11 =>
    m_rt v11
  else
    m_bd (fn_M_arePeople x0 x1) fun v2 =>
    if v2 = 0 then
      m_bd (fn_M_refuse x0 5) fun v3 =>
      m_rt v3
    else
      m_bd (fn_M_has x1 x2) fun v4 =>
      if v4 = 0 then
        m_bd (fn_M_refuse x0 5) fun v10 =>
        m_rt v10
      else
        m_bd (fn_M_laysStable x0 x1) fun _ =>
        m_bd (m_gR 11 33 x0) fun v5 =>
        m_bd (m_aI 0 v5 x2) fun v6 =>
        if 0 ≤ v6 then
          m_bd (m_gR 11 33 x0) fun v7 =>
          m_bd (m_aI 0 v7 x2) fun v8 =>
          m_rt v8
        else
          m_bd (fn_M_refuse x0 8) fun v9 =>
          m_rt v9
set_option maxHeartbeats 4000000 in
set_option maxRecDepth 100000 in
theorem sd_M_stable (x0 : Option mA) (x1 : Int32) (x2 : Int32) : m_Sm k_M_stable 5 0 0 [.inr (.inr x0), .inl x1, .inl x2] (fn_M_stable x0 x1 x2) (fun b => some (.inl b)) := by
  refine ⟨Nat.le_of_ble_eq_true rfl, ?_⟩
  refine sm_th ?_
  refine sm_aload_n (i := 0) (j := 0) (pc' := 1) d_M_stable_0 rfl rfl rfl (sm_iconst (pc' := 2) d_M_stable_1 rfl ic_0 (sm_putI (pc' := 5) d_M_stable_2 rfl fl_M_81 (Or.inl rfl) rfl (sm_aload_n (i := 0) (j := 0) (pc' := 6) d_M_stable_5 rfl rfl rfl (sm_iconst (pc' := 7) d_M_stable_6 rfl ic_0 (sm_putI (pc' := 10) d_M_stable_7 rfl fl_M_84 (Or.inl rfl) rfl (sm_aload_n (i := 0) (j := 0) (pc' := 11) d_M_stable_10 rfl rfl rfl (sm_iload_n (i := 2) (j := 2) (pc' := 12) d_M_stable_11 rfl rfl rfl ?_)))))))
  refine sm_callVi (ci := 11) (x := x0) (av := [.inl x2]) (st := []) (mc := 0) (ms := 0) (pc' := 15) d_M_stable_12 rfl (sd_M_isPersonAt x0 x2) m_lv rfl cv_M_isPersonAt w_ml_M_349 rfl rfl (by decide) (Nat.le_of_ble_eq_true rfl) rfl rfl (fun v1 => ?_)
  refine sm_if_ne (tgt := 24) (pc' := 18) d_M_stable_15 rfl rfl ?_ ?_
  · refine sm_aload_n (i := 0) (j := 0) (pc' := 25) d_M_stable_24 rfl rfl rfl (sm_iload_n (i := 1) (j := 1) (pc' := 26) d_M_stable_25 rfl rfl rfl ?_)
    refine sm_callVi (ci := 11) (x := x0) (av := [.inl x1]) (st := []) (mc := 0) (ms := 0) (pc' := 29) d_M_stable_26 rfl (sd_M_arePeople x0 x1) m_lv rfl cv_M_arePeople w_ml_M_467 rfl rfl (by decide) (Nat.le_of_ble_eq_true rfl) rfl rfl (fun v2 => ?_)
    refine sm_if_eq (tgt := 40) (pc' := 32) d_M_stable_29 rfl rfl ?_ ?_
    · refine sm_aload_n (i := 0) (j := 0) (pc' := 41) d_M_stable_40 rfl rfl rfl (sm_iconst (pc' := 42) d_M_stable_41 rfl ic_5 ?_)
      refine sm_callVi (ci := 11) (x := x0) (av := [.inl 5]) (st := []) (mc := 0) (ms := 0) (pc' := 45) d_M_stable_42 rfl (sd_M_refuse x0 5) m_lv rfl cv_M_refuse w_ml_M_331 rfl rfl (by decide) (Nat.le_of_ble_eq_true rfl) rfl rfl (fun v3 => ?_)
      exact sm_ireturn d_M_stable_45 rfl rfl
    · refine sm_iload_n (i := 1) (j := 1) (pc' := 33) d_M_stable_32 rfl rfl rfl (sm_iload_n (i := 2) (j := 2) (pc' := 34) d_M_stable_33 rfl rfl rfl ?_)
      refine sm_callSi (av := [.inl x1, .inl x2]) (st := []) (mc := 0) (ms := 0) (pc' := 37) d_M_stable_34 rfl (sd_M_has x1 x2) cs_M_has w_ml_M_120 rfl rfl (by decide) (Nat.le_of_ble_eq_true rfl) rfl rfl (fun v4 => ?_)
      refine sm_if_ne (tgt := 46) (pc' := 40) d_M_stable_37 rfl rfl ?_ ?_
      · refine sm_aload_n (i := 0) (j := 0) (pc' := 47) d_M_stable_46 rfl rfl rfl (sm_iload_n (i := 1) (j := 1) (pc' := 48) d_M_stable_47 rfl rfl rfl ?_)
        refine sm_callVv (ci := 11) (x := x0) (av := [.inl x1]) (st := []) (mc := 0) (ms := 0) (pc' := 51) d_M_stable_48 rfl (sd_M_laysStable x0 x1) m_lv rfl cv_M_laysStable w_ml_M_479 rfl rfl (by decide) (Nat.le_of_ble_eq_true rfl) rfl rfl ?_
        refine sm_aload_n (i := 0) (j := 0) (pc' := 52) d_M_stable_51 rfl rfl rfl ?_
        refine sm_getR (pc' := 55) d_M_stable_52 rfl fl_M_56 rfl rfl (fun v5 => ?_)
        refine sm_iload_n (i := 2) (j := 2) (pc' := 56) d_M_stable_55 rfl rfl rfl ?_
        refine sm_iald (pc' := 57) d_M_stable_56 rfl (fun v6 => ?_)
        refine sm_if_ge (tgt := 69) (pc' := 60) d_M_stable_57 rfl rfl ?_ ?_
        · refine sm_aload_n (i := 0) (j := 0) (pc' := 70) d_M_stable_69 rfl rfl rfl ?_
          refine sm_getR (pc' := 73) d_M_stable_70 rfl fl_M_56 rfl rfl (fun v7 => ?_)
          refine sm_iload_n (i := 2) (j := 2) (pc' := 74) d_M_stable_73 rfl rfl rfl ?_
          refine sm_iald (pc' := 75) d_M_stable_74 rfl (fun v8 => ?_)
          exact sm_ireturn d_M_stable_75 rfl rfl
        · refine sm_aload_n (i := 0) (j := 0) (pc' := 61) d_M_stable_60 rfl rfl rfl (sm_bipush (pc' := 63) d_M_stable_61 rfl ib_8 ?_)
          refine sm_callVi (ci := 11) (x := x0) (av := [.inl 8]) (st := []) (mc := 0) (ms := 0) (pc' := 66) d_M_stable_63 rfl (sd_M_refuse x0 8) m_lv rfl cv_M_refuse w_ml_M_331 rfl rfl (by decide) (Nat.le_of_ble_eq_true rfl) rfl rfl (fun v9 => ?_)
          refine sm_goto (tgt := 75) d_M_stable_66 rfl ?_
          exact sm_ireturn d_M_stable_75 rfl rfl
      · refine sm_aload_n (i := 0) (j := 0) (pc' := 41) d_M_stable_40 rfl rfl rfl (sm_iconst (pc' := 42) d_M_stable_41 rfl ic_5 ?_)
        refine sm_callVi (ci := 11) (x := x0) (av := [.inl 5]) (st := []) (mc := 0) (ms := 0) (pc' := 45) d_M_stable_42 rfl (sd_M_refuse x0 5) m_lv rfl cv_M_refuse w_ml_M_331 rfl rfl (by decide) (Nat.le_of_ble_eq_true rfl) rfl rfl (fun v10 => ?_)
        exact sm_ireturn d_M_stable_45 rfl rfl
  · refine sm_aload_n (i := 0) (j := 0) (pc' := 19) d_M_stable_18 rfl rfl rfl (sm_iconst (pc' := 20) d_M_stable_19 rfl ic_2 ?_)
    refine sm_callVi (ci := 11) (x := x0) (av := [.inl 2]) (st := []) (mc := 0) (ms := 0) (pc' := 23) d_M_stable_20 rfl (sd_M_refuse x0 2) m_lv rfl cv_M_refuse w_ml_M_331 rfl rfl (by decide) (Nat.le_of_ble_eq_true rfl) rfl rfl (fun v11 => ?_)
    exact sm_ireturn d_M_stable_23 rfl rfl
theorem d_M_wouldTake_0 : m_D k_M_wouldTake 0 (.iconst 0) 1 := (by decide +kernel : decode prog_14_method_137_code 0 = .ok (.iconst 0, 1))
theorem d_M_wouldTake_1 : m_D k_M_wouldTake 1 (.istore 4) 2 := (by decide +kernel : decode prog_14_method_137_code 1 = .ok (.istore 4, 2))
theorem d_M_wouldTake_3 : m_D k_M_wouldTake 3 (.iload 4) 2 := (by decide +kernel : decode prog_14_method_137_code 3 = .ok (.iload 4, 2))
theorem d_M_wouldTake_5 : m_D k_M_wouldTake 5 (.aload_n 0) 1 := (by decide +kernel : decode prog_14_method_137_code 5 = .ok (.aload_n 0, 1))
theorem d_M_wouldTake_6 : m_D k_M_wouldTake 6 (.getfield 35) 3 := (by decide +kernel : decode prog_14_method_137_code 6 = .ok (.getfield 35, 3))
theorem d_M_wouldTake_9 : m_D k_M_wouldTake 9 (.iconst 0) 1 := (by decide +kernel : decode prog_14_method_137_code 9 = .ok (.iconst 0, 1))
theorem d_M_wouldTake_10 : m_D k_M_wouldTake 10 (.iaload) 1 := (by decide +kernel : decode prog_14_method_137_code 10 = .ok (.iaload, 1))
theorem d_M_wouldTake_11 : m_D k_M_wouldTake 11 (.if_icmp .ge 51) 3 := (by decide +kernel : decode prog_14_method_137_code 11 = .ok (.if_icmp .ge 51, 3))
theorem d_M_wouldTake_14 : m_D k_M_wouldTake 14 (.iload_n 1) 1 := (by decide +kernel : decode prog_14_method_137_code 14 = .ok (.iload_n 1, 1))
theorem d_M_wouldTake_15 : m_D k_M_wouldTake 15 (.iload 4) 2 := (by decide +kernel : decode prog_14_method_137_code 15 = .ok (.iload 4, 2))
theorem d_M_wouldTake_17 : m_D k_M_wouldTake 17 (.invokestatic 120) 3 := (by decide +kernel : decode prog_14_method_137_code 17 = .ok (.invokestatic 120, 3))
theorem d_M_wouldTake_20 : m_D k_M_wouldTake 20 (.ifCond .eq 36) 3 := (by decide +kernel : decode prog_14_method_137_code 20 = .ok (.ifCond .eq 36, 3))
theorem d_M_wouldTake_23 : m_D k_M_wouldTake 23 (.aload_n 0) 1 := (by decide +kernel : decode prog_14_method_137_code 23 = .ok (.aload_n 0, 1))
theorem d_M_wouldTake_24 : m_D k_M_wouldTake 24 (.getfield 53) 3 := (by decide +kernel : decode prog_14_method_137_code 24 = .ok (.getfield 53, 3))
theorem d_M_wouldTake_27 : m_D k_M_wouldTake 27 (.iload 4) 2 := (by decide +kernel : decode prog_14_method_137_code 27 = .ok (.iload 4, 2))
theorem d_M_wouldTake_29 : m_D k_M_wouldTake 29 (.iaload) 1 := (by decide +kernel : decode prog_14_method_137_code 29 = .ok (.iaload, 1))
theorem d_M_wouldTake_30 : m_D k_M_wouldTake 30 (.iload_n 3) 1 := (by decide +kernel : decode prog_14_method_137_code 30 = .ok (.iload_n 3, 1))
theorem d_M_wouldTake_31 : m_D k_M_wouldTake 31 (.if_icmp .ne 25) 3 := (by decide +kernel : decode prog_14_method_137_code 31 = .ok (.if_icmp .ne 25, 3))
theorem d_M_wouldTake_34 : m_D k_M_wouldTake 34 (.aload_n 0) 1 := (by decide +kernel : decode prog_14_method_137_code 34 = .ok (.aload_n 0, 1))
theorem d_M_wouldTake_35 : m_D k_M_wouldTake 35 (.iload 4) 2 := (by decide +kernel : decode prog_14_method_137_code 35 = .ok (.iload 4, 2))
theorem d_M_wouldTake_37 : m_D k_M_wouldTake 37 (.iload_n 3) 1 := (by decide +kernel : decode prog_14_method_137_code 37 = .ok (.iload_n 3, 1))
theorem d_M_wouldTake_38 : m_D k_M_wouldTake 38 (.invokevirtual 316) 3 := (by decide +kernel : decode prog_14_method_137_code 38 = .ok (.invokevirtual 316, 3))
theorem d_M_wouldTake_41 : m_D k_M_wouldTake 41 (.aload_n 0) 1 := (by decide +kernel : decode prog_14_method_137_code 41 = .ok (.aload_n 0, 1))
theorem d_M_wouldTake_42 : m_D k_M_wouldTake 42 (.iload_n 2) 1 := (by decide +kernel : decode prog_14_method_137_code 42 = .ok (.iload_n 2, 1))
theorem d_M_wouldTake_43 : m_D k_M_wouldTake 43 (.iload_n 3) 1 := (by decide +kernel : decode prog_14_method_137_code 43 = .ok (.iload_n 3, 1))
theorem d_M_wouldTake_44 : m_D k_M_wouldTake 44 (.invokevirtual 316) 3 := (by decide +kernel : decode prog_14_method_137_code 44 = .ok (.invokevirtual 316, 3))
theorem d_M_wouldTake_47 : m_D k_M_wouldTake 47 (.if_icmp .le 7) 3 := (by decide +kernel : decode prog_14_method_137_code 47 = .ok (.if_icmp .le 7, 3))
theorem d_M_wouldTake_50 : m_D k_M_wouldTake 50 (.iconst 1) 1 := (by decide +kernel : decode prog_14_method_137_code 50 = .ok (.iconst 1, 1))
theorem d_M_wouldTake_51 : m_D k_M_wouldTake 51 (.goto 4) 3 := (by decide +kernel : decode prog_14_method_137_code 51 = .ok (.goto 4, 3))
theorem d_M_wouldTake_54 : m_D k_M_wouldTake 54 (.iconst 0) 1 := (by decide +kernel : decode prog_14_method_137_code 54 = .ok (.iconst 0, 1))
theorem d_M_wouldTake_55 : m_D k_M_wouldTake 55 (.ireturn) 1 := (by decide +kernel : decode prog_14_method_137_code 55 = .ok (.ireturn, 1))
theorem d_M_wouldTake_56 : m_D k_M_wouldTake 56 (.iinc 4 1) 3 := (by decide +kernel : decode prog_14_method_137_code 56 = .ok (.iinc 4 1, 3))
theorem d_M_wouldTake_59 : m_D k_M_wouldTake 59 (.goto (-56)) 3 := (by decide +kernel : decode prog_14_method_137_code 59 = .ok (.goto (-56), 3))
theorem d_M_wouldTake_62 : m_D k_M_wouldTake 62 (.iconst 1) 1 := (by decide +kernel : decode prog_14_method_137_code 62 = .ok (.iconst 1, 1))
theorem d_M_wouldTake_63 : m_D k_M_wouldTake 63 (.ireturn) 1 := (by decide +kernel : decode prog_14_method_137_code 63 = .ok (.ireturn, 1))
def fn_M_wouldTake_l3 (x0 : Option mA) (x1 : Int32) (x2 : Int32) (x3 : Int32) (t1 : Int32) : mP ((Int32) ⊕ (Int32)) :=
  m_bd (m_gR 11 20 x0) fun v2 =>
  m_bd (m_aI 0 v2 0) fun v3 =>
  if v3 ≤ t1 then
    m_rt (.inr 1)
  else
    m_bd (fn_M_has x1 t1) fun v4 =>
    if v4 = 0 then
      m_rt (.inl (t1 + 1))
    else
      m_bd (m_gR 11 32 x0) fun v5 =>
      m_bd (m_aI 0 v5 t1) fun v6 =>
      if v6 = x3 then
        m_bd (fn_M_loveOf x0 t1 x3) fun v7 =>
        m_bd (fn_M_loveOf x0 x2 x3) fun v8 =>
        if v7 ≤ v8 then
          m_rt (.inr 0)
        else
          m_rt (.inr 1)
      else
        m_rt (.inl (t1 + 1))
def fn_M_wouldTake (x0 : Option mA) (x1 : Int32) (x2 : Int32) (x3 : Int32) : mP Int32 :=
  m_th 11 x0 <|
  m_lp (fn_M_wouldTake_l3 x0 x1 x2 x3) m_F 0
set_option maxHeartbeats 4000000 in
set_option maxRecDepth 100000 in
theorem sd_M_wouldTake (x0 : Option mA) (x1 : Int32) (x2 : Int32) (x3 : Int32) : m_Sm k_M_wouldTake 2 0 0 [.inr (.inr x0), .inl x1, .inl x2, .inl x3] (fn_M_wouldTake x0 x1 x2 x3) (fun b => some (.inl b)) := by
  refine ⟨Nat.le_of_ble_eq_true rfl, ?_⟩
  refine sm_th ?_
  refine sm_iconst (pc' := 1) d_M_wouldTake_0 rfl ic_0 (sm_istore (L' := [(4, .inl 0), (0, .inr (.inr x0)), (1, .inl x1), (2, .inl x2), (3, .inl x3)]) (pc' := 3) d_M_wouldTake_1 rfl (Nat.le_of_ble_eq_true rfl) rfl ?_)
  refine sm_sub [0, 1, 2, 3, 4] rfl ?_
  refine sm_lp (hd := fun (t1 : Int32) => (.inl (3, [(4, .inl t1), (0, .inr (.inr x0)), (1, .inl x1), (2, .inl x2), (3, .inl x3)], []) : mC)) (fun t1 => ?_) m_F 0
  refine sm_iload (j := 0) (pc' := 5) d_M_wouldTake_3 rfl rfl (sm_aload_n (i := 0) (j := 1) (pc' := 6) d_M_wouldTake_5 rfl rfl rfl ?_)
  refine sm_getR (pc' := 9) d_M_wouldTake_6 rfl fl_M_35 rfl rfl (fun v2 => ?_)
  refine sm_iconst (pc' := 10) d_M_wouldTake_9 rfl ic_0 ?_
  refine sm_iald (pc' := 11) d_M_wouldTake_10 rfl (fun v3 => ?_)
  refine sm_icmp_ge (tgt := 62) (pc' := 14) d_M_wouldTake_11 rfl rfl ?_ ?_
  · refine sm_iconst (pc' := 63) d_M_wouldTake_62 rfl ic_1 ?_
    exact sm_zreturn d_M_wouldTake_63 rfl (by decide) rfl
  · refine sm_iload_n (i := 1) (j := 2) (pc' := 15) d_M_wouldTake_14 rfl rfl rfl (sm_iload (j := 0) (pc' := 17) d_M_wouldTake_15 rfl rfl ?_)
    refine sm_callSi (av := [.inl x1, .inl t1]) (st := []) (mc := 0) (ms := 0) (pc' := 20) d_M_wouldTake_17 rfl (sd_M_has x1 t1) cs_M_has w_ml_M_120 rfl rfl (by decide) (Nat.le_of_ble_eq_true rfl) rfl rfl (fun v4 => ?_)
    refine sm_if_eq (tgt := 56) (pc' := 23) d_M_wouldTake_20 rfl rfl ?_ ?_
    · refine sm_iinc (j := 0) (L' := [(4, .inl (t1 + 1)), (0, .inr (.inr x0)), (1, .inl x1), (2, .inl x2), (3, .inl x3)]) (pc' := 59) d_M_wouldTake_56 rfl (v := (t1 + 1)) rfl (ix_1 _) (Nat.le_of_ble_eq_true rfl) rfl (sm_goto (tgt := 3) d_M_wouldTake_59 rfl (sm_sub [0, 1, 2, 3, 4] rfl ?_))
      exact sm_rt rfl
    · refine sm_aload_n (i := 0) (j := 1) (pc' := 24) d_M_wouldTake_23 rfl rfl rfl ?_
      refine sm_getR (pc' := 27) d_M_wouldTake_24 rfl fl_M_53 rfl rfl (fun v5 => ?_)
      refine sm_iload (j := 0) (pc' := 29) d_M_wouldTake_27 rfl rfl ?_
      refine sm_iald (pc' := 30) d_M_wouldTake_29 rfl (fun v6 => ?_)
      refine sm_iload_n (i := 3) (j := 4) (pc' := 31) d_M_wouldTake_30 rfl rfl rfl ?_
      refine sm_icmp_ne (tgt := 56) (pc' := 34) d_M_wouldTake_31 rfl rfl ?_ ?_
      · refine sm_iinc (j := 0) (L' := [(4, .inl (t1 + 1)), (0, .inr (.inr x0)), (1, .inl x1), (2, .inl x2), (3, .inl x3)]) (pc' := 59) d_M_wouldTake_56 rfl (v := (t1 + 1)) rfl (ix_1 _) (Nat.le_of_ble_eq_true rfl) rfl (sm_goto (tgt := 3) d_M_wouldTake_59 rfl (sm_sub [0, 1, 2, 3, 4] rfl ?_))
        exact sm_rt rfl
      · refine sm_aload_n (i := 0) (j := 1) (pc' := 35) d_M_wouldTake_34 rfl rfl rfl (sm_iload (j := 0) (pc' := 37) d_M_wouldTake_35 rfl rfl (sm_iload_n (i := 3) (j := 4) (pc' := 38) d_M_wouldTake_37 rfl rfl rfl ?_))
        refine sm_callVi (ci := 11) (x := x0) (av := [.inl t1, .inl x3]) (st := []) (mc := 0) (ms := 0) (pc' := 41) d_M_wouldTake_38 rfl (sd_M_loveOf x0 t1 x3) m_lv rfl cv_M_loveOf w_ml_M_316 rfl rfl (by decide) (Nat.le_of_ble_eq_true rfl) rfl rfl (fun v7 => ?_)
        refine sm_aload_n (i := 0) (j := 1) (pc' := 42) d_M_wouldTake_41 rfl rfl rfl (sm_iload_n (i := 2) (j := 3) (pc' := 43) d_M_wouldTake_42 rfl rfl rfl (sm_iload_n (i := 3) (j := 4) (pc' := 44) d_M_wouldTake_43 rfl rfl rfl ?_))
        refine sm_callVi (ci := 11) (x := x0) (av := [.inl x2, .inl x3]) (st := [.inl v7]) (mc := 0) (ms := 0) (pc' := 47) d_M_wouldTake_44 rfl (sd_M_loveOf x0 x2 x3) m_lv rfl cv_M_loveOf w_ml_M_316 rfl rfl (by decide) (Nat.le_of_ble_eq_true rfl) rfl rfl (fun v8 => ?_)
        refine sm_icmp_le (tgt := 54) (pc' := 50) d_M_wouldTake_47 rfl rfl ?_ ?_
        · refine sm_iconst (pc' := 55) d_M_wouldTake_54 rfl ic_0 ?_
          exact sm_zreturn d_M_wouldTake_55 rfl (by decide) rfl
        · refine sm_iconst (pc' := 51) d_M_wouldTake_50 rfl ic_1 (sm_goto (tgt := 55) d_M_wouldTake_51 rfl ?_)
          exact sm_zreturn d_M_wouldTake_55 rfl (by decide) rfl
theorem d_M_isStable_0 : m_D k_M_isStable 0 (.iconst 0) 1 := (by decide +kernel : decode prog_14_method_136_code 0 = .ok (.iconst 0, 1))
theorem d_M_isStable_1 : m_D k_M_isStable 1 (.istore_n 2) 1 := (by decide +kernel : decode prog_14_method_136_code 1 = .ok (.istore_n 2, 1))
theorem d_M_isStable_2 : m_D k_M_isStable 2 (.iload_n 2) 1 := (by decide +kernel : decode prog_14_method_136_code 2 = .ok (.iload_n 2, 1))
theorem d_M_isStable_3 : m_D k_M_isStable 3 (.aload_n 0) 1 := (by decide +kernel : decode prog_14_method_136_code 3 = .ok (.aload_n 0, 1))
theorem d_M_isStable_4 : m_D k_M_isStable 4 (.getfield 35) 3 := (by decide +kernel : decode prog_14_method_136_code 4 = .ok (.getfield 35, 3))
theorem d_M_isStable_7 : m_D k_M_isStable 7 (.iconst 0) 1 := (by decide +kernel : decode prog_14_method_136_code 7 = .ok (.iconst 0, 1))
theorem d_M_isStable_8 : m_D k_M_isStable 8 (.iaload) 1 := (by decide +kernel : decode prog_14_method_136_code 8 = .ok (.iaload, 1))
theorem d_M_isStable_9 : m_D k_M_isStable 9 (.if_icmp .ge 98) 3 := (by decide +kernel : decode prog_14_method_136_code 9 = .ok (.if_icmp .ge 98, 3))
theorem d_M_isStable_12 : m_D k_M_isStable 12 (.iload_n 1) 1 := (by decide +kernel : decode prog_14_method_136_code 12 = .ok (.iload_n 1, 1))
theorem d_M_isStable_13 : m_D k_M_isStable 13 (.iload_n 2) 1 := (by decide +kernel : decode prog_14_method_136_code 13 = .ok (.iload_n 2, 1))
theorem d_M_isStable_14 : m_D k_M_isStable 14 (.invokestatic 120) 3 := (by decide +kernel : decode prog_14_method_136_code 14 = .ok (.invokestatic 120, 3))
theorem d_M_isStable_17 : m_D k_M_isStable 17 (.ifCond .ne 6) 3 := (by decide +kernel : decode prog_14_method_136_code 17 = .ok (.ifCond .ne 6, 3))
theorem d_M_isStable_20 : m_D k_M_isStable 20 (.goto 81) 3 := (by decide +kernel : decode prog_14_method_136_code 20 = .ok (.goto 81, 3))
theorem d_M_isStable_23 : m_D k_M_isStable 23 (.aload_n 0) 1 := (by decide +kernel : decode prog_14_method_136_code 23 = .ok (.aload_n 0, 1))
theorem d_M_isStable_24 : m_D k_M_isStable 24 (.getfield 53) 3 := (by decide +kernel : decode prog_14_method_136_code 24 = .ok (.getfield 53, 3))
theorem d_M_isStable_27 : m_D k_M_isStable 27 (.iload_n 2) 1 := (by decide +kernel : decode prog_14_method_136_code 27 = .ok (.iload_n 2, 1))
theorem d_M_isStable_28 : m_D k_M_isStable 28 (.iaload) 1 := (by decide +kernel : decode prog_14_method_136_code 28 = .ok (.iaload, 1))
theorem d_M_isStable_29 : m_D k_M_isStable 29 (.ifCond .ge 7) 3 := (by decide +kernel : decode prog_14_method_136_code 29 = .ok (.ifCond .ge 7, 3))
theorem d_M_isStable_32 : m_D k_M_isStable 32 (.iconst 0) 1 := (by decide +kernel : decode prog_14_method_136_code 32 = .ok (.iconst 0, 1))
theorem d_M_isStable_33 : m_D k_M_isStable 33 (.goto 14) 3 := (by decide +kernel : decode prog_14_method_136_code 33 = .ok (.goto 14, 3))
theorem d_M_isStable_36 : m_D k_M_isStable 36 (.aload_n 0) 1 := (by decide +kernel : decode prog_14_method_136_code 36 = .ok (.aload_n 0, 1))
theorem d_M_isStable_37 : m_D k_M_isStable 37 (.iload_n 2) 1 := (by decide +kernel : decode prog_14_method_136_code 37 = .ok (.iload_n 2, 1))
theorem d_M_isStable_38 : m_D k_M_isStable 38 (.aload_n 0) 1 := (by decide +kernel : decode prog_14_method_136_code 38 = .ok (.aload_n 0, 1))
theorem d_M_isStable_39 : m_D k_M_isStable 39 (.getfield 53) 3 := (by decide +kernel : decode prog_14_method_136_code 39 = .ok (.getfield 53, 3))
theorem d_M_isStable_42 : m_D k_M_isStable 42 (.iload_n 2) 1 := (by decide +kernel : decode prog_14_method_136_code 42 = .ok (.iload_n 2, 1))
theorem d_M_isStable_43 : m_D k_M_isStable 43 (.iaload) 1 := (by decide +kernel : decode prog_14_method_136_code 43 = .ok (.iaload, 1))
theorem d_M_isStable_44 : m_D k_M_isStable 44 (.invokevirtual 316) 3 := (by decide +kernel : decode prog_14_method_136_code 44 = .ok (.invokevirtual 316, 3))
theorem d_M_isStable_47 : m_D k_M_isStable 47 (.istore_n 3) 1 := (by decide +kernel : decode prog_14_method_136_code 47 = .ok (.istore_n 3, 1))
theorem d_M_isStable_48 : m_D k_M_isStable 48 (.iconst 0) 1 := (by decide +kernel : decode prog_14_method_136_code 48 = .ok (.iconst 0, 1))
theorem d_M_isStable_49 : m_D k_M_isStable 49 (.istore 4) 2 := (by decide +kernel : decode prog_14_method_136_code 49 = .ok (.istore 4, 2))
theorem d_M_isStable_51 : m_D k_M_isStable 51 (.iload 4) 2 := (by decide +kernel : decode prog_14_method_136_code 51 = .ok (.iload 4, 2))
theorem d_M_isStable_53 : m_D k_M_isStable 53 (.aload_n 0) 1 := (by decide +kernel : decode prog_14_method_136_code 53 = .ok (.aload_n 0, 1))
theorem d_M_isStable_54 : m_D k_M_isStable 54 (.getfield 35) 3 := (by decide +kernel : decode prog_14_method_136_code 54 = .ok (.getfield 35, 3))
theorem d_M_isStable_57 : m_D k_M_isStable 57 (.iconst 1) 1 := (by decide +kernel : decode prog_14_method_136_code 57 = .ok (.iconst 1, 1))
theorem d_M_isStable_58 : m_D k_M_isStable 58 (.iaload) 1 := (by decide +kernel : decode prog_14_method_136_code 58 = .ok (.iaload, 1))
theorem d_M_isStable_59 : m_D k_M_isStable 59 (.if_icmp .ge 42) 3 := (by decide +kernel : decode prog_14_method_136_code 59 = .ok (.if_icmp .ge 42, 3))
theorem d_M_isStable_62 : m_D k_M_isStable 62 (.aload_n 0) 1 := (by decide +kernel : decode prog_14_method_136_code 62 = .ok (.aload_n 0, 1))
theorem d_M_isStable_63 : m_D k_M_isStable 63 (.iload 4) 2 := (by decide +kernel : decode prog_14_method_136_code 63 = .ok (.iload 4, 2))
theorem d_M_isStable_65 : m_D k_M_isStable 65 (.invokevirtual 319) 3 := (by decide +kernel : decode prog_14_method_136_code 65 = .ok (.invokevirtual 319, 3))
theorem d_M_isStable_68 : m_D k_M_isStable 68 (.ifCond .ne 27) 3 := (by decide +kernel : decode prog_14_method_136_code 68 = .ok (.ifCond .ne 27, 3))
theorem d_M_isStable_71 : m_D k_M_isStable 71 (.aload_n 0) 1 := (by decide +kernel : decode prog_14_method_136_code 71 = .ok (.aload_n 0, 1))
theorem d_M_isStable_72 : m_D k_M_isStable 72 (.iload_n 2) 1 := (by decide +kernel : decode prog_14_method_136_code 72 = .ok (.iload_n 2, 1))
theorem d_M_isStable_73 : m_D k_M_isStable 73 (.iload 4) 2 := (by decide +kernel : decode prog_14_method_136_code 73 = .ok (.iload 4, 2))
theorem d_M_isStable_75 : m_D k_M_isStable 75 (.invokevirtual 316) 3 := (by decide +kernel : decode prog_14_method_136_code 75 = .ok (.invokevirtual 316, 3))
theorem d_M_isStable_78 : m_D k_M_isStable 78 (.iload_n 3) 1 := (by decide +kernel : decode prog_14_method_136_code 78 = .ok (.iload_n 3, 1))
theorem d_M_isStable_79 : m_D k_M_isStable 79 (.if_icmp .le 16) 3 := (by decide +kernel : decode prog_14_method_136_code 79 = .ok (.if_icmp .le 16, 3))
theorem d_M_isStable_82 : m_D k_M_isStable 82 (.aload_n 0) 1 := (by decide +kernel : decode prog_14_method_136_code 82 = .ok (.aload_n 0, 1))
theorem d_M_isStable_83 : m_D k_M_isStable 83 (.iload_n 1) 1 := (by decide +kernel : decode prog_14_method_136_code 83 = .ok (.iload_n 1, 1))
theorem d_M_isStable_84 : m_D k_M_isStable 84 (.iload_n 2) 1 := (by decide +kernel : decode prog_14_method_136_code 84 = .ok (.iload_n 2, 1))
theorem d_M_isStable_85 : m_D k_M_isStable 85 (.iload 4) 2 := (by decide +kernel : decode prog_14_method_136_code 85 = .ok (.iload 4, 2))
theorem d_M_isStable_87 : m_D k_M_isStable 87 (.invokevirtual 482) 3 := (by decide +kernel : decode prog_14_method_136_code 87 = .ok (.invokevirtual 482, 3))
theorem d_M_isStable_90 : m_D k_M_isStable 90 (.ifCond .eq 5) 3 := (by decide +kernel : decode prog_14_method_136_code 90 = .ok (.ifCond .eq 5, 3))
theorem d_M_isStable_93 : m_D k_M_isStable 93 (.iconst 0) 1 := (by decide +kernel : decode prog_14_method_136_code 93 = .ok (.iconst 0, 1))
theorem d_M_isStable_94 : m_D k_M_isStable 94 (.ireturn) 1 := (by decide +kernel : decode prog_14_method_136_code 94 = .ok (.ireturn, 1))
theorem d_M_isStable_95 : m_D k_M_isStable 95 (.iinc 4 1) 3 := (by decide +kernel : decode prog_14_method_136_code 95 = .ok (.iinc 4 1, 3))
theorem d_M_isStable_98 : m_D k_M_isStable 98 (.goto (-47)) 3 := (by decide +kernel : decode prog_14_method_136_code 98 = .ok (.goto (-47), 3))
theorem d_M_isStable_101 : m_D k_M_isStable 101 (.iinc 2 1) 3 := (by decide +kernel : decode prog_14_method_136_code 101 = .ok (.iinc 2 1, 3))
theorem d_M_isStable_104 : m_D k_M_isStable 104 (.goto (-102)) 3 := (by decide +kernel : decode prog_14_method_136_code 104 = .ok (.goto (-102), 3))
theorem d_M_isStable_107 : m_D k_M_isStable 107 (.iconst 1) 1 := (by decide +kernel : decode prog_14_method_136_code 107 = .ok (.iconst 1, 1))
theorem d_M_isStable_108 : m_D k_M_isStable 108 (.ireturn) 1 := (by decide +kernel : decode prog_14_method_136_code 108 = .ok (.ireturn, 1))
def fn_M_isStable_l51 (x0 : Option mA) (x1 : Int32) (t1 : Int32) (t10 : Int32) (t11 : Int32) : mP ((Int32) ⊕ ((Int32) ⊕ (Int32))) :=
  m_bd (m_gR 11 20 x0) fun v12 =>
  m_bd (m_aI 0 v12 1) fun v13 =>
  if v13 ≤ t11 then
    m_rt (.inr (.inl (t1 + 1)))
  else
    m_bd (fn_M_isThrough x0 t11) fun v14 =>
    if v14 = 0 then
      m_bd (fn_M_loveOf x0 t1 t11) fun v15 =>
      if v15 ≤ t10 then
        m_rt (.inl (t11 + 1))
      else
        m_bd (fn_M_wouldTake x0 x1 t1 t11) fun v16 =>
        if v16 = 0 then
          m_rt (.inl (t11 + 1))
        else
          m_rt (.inr (.inr 0))
    else
      m_rt (.inl (t11 + 1))
def fn_M_isStable_l2 (x0 : Option mA) (x1 : Int32) (t1 : Int32) : mP ((Int32) ⊕ (Int32)) :=
  m_bd (m_gR 11 20 x0) fun v2 =>
  m_bd (m_aI 0 v2 0) fun v3 =>
  if v3 ≤ t1 then
    m_rt (.inr 1)
  else
    m_bd (fn_M_has x1 t1) fun v4 =>
    if v4 = 0 then
      m_rt (.inl (t1 + 1))
    else
      m_bd (m_gR 11 32 x0) fun v5 =>
      m_bd (m_aI 0 v5 t1) fun v6 =>
      m_bd (α := Int32) (
        if 0 ≤ v6 then
          m_bd (m_gR 11 32 x0) fun v7 =>
          m_bd (m_aI 0 v7 t1) fun v8 =>
          m_bd (fn_M_loveOf x0 t1 v8) fun v9 =>
          m_rt v9
        else
          m_rt 0
        ) fun (t10 : Int32) =>
      m_lp (fn_M_isStable_l51 x0 x1 t1 t10) m_F 0
def fn_M_isStable (x0 : Option mA) (x1 : Int32) : mP Int32 :=
  m_th 11 x0 <|
  m_lp (fn_M_isStable_l2 x0 x1) m_F 0
set_option maxHeartbeats 4000000 in
set_option maxRecDepth 100000 in
theorem sd_M_isStable (x0 : Option mA) (x1 : Int32) : m_Sm k_M_isStable 3 0 0 [.inr (.inr x0), .inl x1] (fn_M_isStable x0 x1) (fun b => some (.inl b)) := by
  refine ⟨Nat.le_of_ble_eq_true rfl, ?_⟩
  refine sm_th ?_
  refine sm_iconst (pc' := 1) d_M_isStable_0 rfl ic_0 (sm_istore_n (i := 2) (L' := [(2, .inl 0), (0, .inr (.inr x0)), (1, .inl x1)]) (pc' := 2) d_M_isStable_1 rfl rfl (Nat.le_of_ble_eq_true rfl) rfl ?_)
  refine sm_sub [0, 1, 2] rfl ?_
  refine sm_lp (hd := fun (t1 : Int32) => (.inl (2, [(2, .inl t1), (0, .inr (.inr x0)), (1, .inl x1)], []) : mC)) (fun t1 => ?_) m_F 0
  refine sm_iload_n (i := 2) (j := 0) (pc' := 3) d_M_isStable_2 rfl rfl rfl (sm_aload_n (i := 0) (j := 1) (pc' := 4) d_M_isStable_3 rfl rfl rfl ?_)
  refine sm_getR (pc' := 7) d_M_isStable_4 rfl fl_M_35 rfl rfl (fun v2 => ?_)
  refine sm_iconst (pc' := 8) d_M_isStable_7 rfl ic_0 ?_
  refine sm_iald (pc' := 9) d_M_isStable_8 rfl (fun v3 => ?_)
  refine sm_icmp_ge (tgt := 107) (pc' := 12) d_M_isStable_9 rfl rfl ?_ ?_
  · refine sm_iconst (pc' := 108) d_M_isStable_107 rfl ic_1 ?_
    exact sm_zreturn d_M_isStable_108 rfl (by decide) rfl
  · refine sm_iload_n (i := 1) (j := 2) (pc' := 13) d_M_isStable_12 rfl rfl rfl (sm_iload_n (i := 2) (j := 0) (pc' := 14) d_M_isStable_13 rfl rfl rfl ?_)
    refine sm_callSi (av := [.inl x1, .inl t1]) (st := []) (mc := 0) (ms := 0) (pc' := 17) d_M_isStable_14 rfl (sd_M_has x1 t1) cs_M_has w_ml_M_120 rfl rfl (by decide) (Nat.le_of_ble_eq_true rfl) rfl rfl (fun v4 => ?_)
    refine sm_if_ne (tgt := 23) (pc' := 20) d_M_isStable_17 rfl rfl ?_ ?_
    · refine sm_aload_n (i := 0) (j := 1) (pc' := 24) d_M_isStable_23 rfl rfl rfl ?_
      refine sm_getR (pc' := 27) d_M_isStable_24 rfl fl_M_53 rfl rfl (fun v5 => ?_)
      refine sm_iload_n (i := 2) (j := 0) (pc' := 28) d_M_isStable_27 rfl rfl rfl ?_
      refine sm_iald (pc' := 29) d_M_isStable_28 rfl (fun v6 => ?_)
      refine sm_bd (mid := fun (t10 : Int32) => .inl (47, [(0, .inr (.inr x0)), (1, .inl x1), (2, .inl t1)], [.inl t10])) ?_ (fun t10 => ?_)
      · refine sm_if_ge (tgt := 36) (pc' := 32) d_M_isStable_29 rfl rfl ?_ ?_
        · refine sm_aload_n (i := 0) (j := 1) (pc' := 37) d_M_isStable_36 rfl rfl rfl (sm_iload_n (i := 2) (j := 0) (pc' := 38) d_M_isStable_37 rfl rfl rfl (sm_aload_n (i := 0) (j := 1) (pc' := 39) d_M_isStable_38 rfl rfl rfl ?_))
          refine sm_getR (pc' := 42) d_M_isStable_39 rfl fl_M_53 rfl rfl (fun v7 => ?_)
          refine sm_iload_n (i := 2) (j := 0) (pc' := 43) d_M_isStable_42 rfl rfl rfl ?_
          refine sm_iald (pc' := 44) d_M_isStable_43 rfl (fun v8 => ?_)
          refine sm_callVi (ci := 11) (x := x0) (av := [.inl t1, .inl v8]) (st := []) (mc := 0) (ms := 0) (pc' := 47) d_M_isStable_44 rfl (sd_M_loveOf x0 t1 v8) m_lv rfl cv_M_loveOf w_ml_M_316 rfl rfl (by decide) (Nat.le_of_ble_eq_true rfl) rfl rfl (fun v9 => ?_)
          refine sm_sub [1, 2, 0] rfl ?_
          exact sm_rt rfl
        · refine sm_iconst (pc' := 33) d_M_isStable_32 rfl ic_0 (sm_goto (tgt := 47) d_M_isStable_33 rfl (sm_sub [1, 2, 0] rfl ?_))
          exact sm_rt rfl
      · refine sm_istore_n (i := 3) (L' := [(3, .inl t10), (0, .inr (.inr x0)), (1, .inl x1), (2, .inl t1)]) (pc' := 48) d_M_isStable_47 rfl rfl (Nat.le_of_ble_eq_true rfl) rfl (sm_iconst (pc' := 49) d_M_isStable_48 rfl ic_0 (sm_istore (L' := [(4, .inl 0), (3, .inl t10), (0, .inr (.inr x0)), (1, .inl x1), (2, .inl t1)]) (pc' := 51) d_M_isStable_49 rfl (Nat.le_of_ble_eq_true rfl) rfl ?_))
        refine sm_sub [0, 2, 3, 4, 1] rfl ?_
        refine sm_lp (hd := fun (t11 : Int32) => (.inl (51, [(4, .inl t11), (0, .inr (.inr x0)), (1, .inl x1), (2, .inl t1), (3, .inl t10)], []) : mC)) (fun t11 => ?_) m_F 0
        refine sm_iload (j := 0) (pc' := 53) d_M_isStable_51 rfl rfl (sm_aload_n (i := 0) (j := 1) (pc' := 54) d_M_isStable_53 rfl rfl rfl ?_)
        refine sm_getR (pc' := 57) d_M_isStable_54 rfl fl_M_35 rfl rfl (fun v12 => ?_)
        refine sm_iconst (pc' := 58) d_M_isStable_57 rfl ic_1 ?_
        refine sm_iald (pc' := 59) d_M_isStable_58 rfl (fun v13 => ?_)
        refine sm_icmp_ge (tgt := 101) (pc' := 62) d_M_isStable_59 rfl rfl ?_ ?_
        · refine sm_iinc (j := 3) (L' := [(2, .inl (t1 + 1)), (4, .inl t11), (0, .inr (.inr x0)), (1, .inl x1), (3, .inl t10)]) (pc' := 104) d_M_isStable_101 rfl (v := (t1 + 1)) rfl (ix_1 _) (Nat.le_of_ble_eq_true rfl) rfl (sm_goto (tgt := 2) d_M_isStable_104 rfl (sm_sub [0, 2, 3] rfl ?_))
          exact sm_rt rfl
        · refine sm_aload_n (i := 0) (j := 1) (pc' := 63) d_M_isStable_62 rfl rfl rfl (sm_iload (j := 0) (pc' := 65) d_M_isStable_63 rfl rfl ?_)
          refine sm_callVi (ci := 11) (x := x0) (av := [.inl t11]) (st := []) (mc := 0) (ms := 0) (pc' := 68) d_M_isStable_65 rfl (sd_M_isThrough x0 t11) m_lv rfl cv_M_isThrough w_ml_M_319 rfl rfl (by decide) (Nat.le_of_ble_eq_true rfl) rfl rfl (fun v14 => ?_)
          refine sm_if_ne (tgt := 95) (pc' := 71) d_M_isStable_68 rfl rfl ?_ ?_
          · refine sm_iinc (j := 0) (L' := [(4, .inl (t11 + 1)), (0, .inr (.inr x0)), (1, .inl x1), (2, .inl t1), (3, .inl t10)]) (pc' := 98) d_M_isStable_95 rfl (v := (t11 + 1)) rfl (ix_1 _) (Nat.le_of_ble_eq_true rfl) rfl (sm_goto (tgt := 51) d_M_isStable_98 rfl (sm_sub [0, 1, 2, 3, 4] rfl ?_))
            exact sm_rt rfl
          · refine sm_aload_n (i := 0) (j := 1) (pc' := 72) d_M_isStable_71 rfl rfl rfl (sm_iload_n (i := 2) (j := 3) (pc' := 73) d_M_isStable_72 rfl rfl rfl (sm_iload (j := 0) (pc' := 75) d_M_isStable_73 rfl rfl ?_))
            refine sm_callVi (ci := 11) (x := x0) (av := [.inl t1, .inl t11]) (st := []) (mc := 0) (ms := 0) (pc' := 78) d_M_isStable_75 rfl (sd_M_loveOf x0 t1 t11) m_lv rfl cv_M_loveOf w_ml_M_316 rfl rfl (by decide) (Nat.le_of_ble_eq_true rfl) rfl rfl (fun v15 => ?_)
            refine sm_iload_n (i := 3) (j := 4) (pc' := 79) d_M_isStable_78 rfl rfl rfl ?_
            refine sm_icmp_le (tgt := 95) (pc' := 82) d_M_isStable_79 rfl rfl ?_ ?_
            · refine sm_iinc (j := 0) (L' := [(4, .inl (t11 + 1)), (0, .inr (.inr x0)), (1, .inl x1), (2, .inl t1), (3, .inl t10)]) (pc' := 98) d_M_isStable_95 rfl (v := (t11 + 1)) rfl (ix_1 _) (Nat.le_of_ble_eq_true rfl) rfl (sm_goto (tgt := 51) d_M_isStable_98 rfl (sm_sub [0, 1, 2, 3, 4] rfl ?_))
              exact sm_rt rfl
            · refine sm_aload_n (i := 0) (j := 1) (pc' := 83) d_M_isStable_82 rfl rfl rfl (sm_iload_n (i := 1) (j := 2) (pc' := 84) d_M_isStable_83 rfl rfl rfl (sm_iload_n (i := 2) (j := 3) (pc' := 85) d_M_isStable_84 rfl rfl rfl (sm_iload (j := 0) (pc' := 87) d_M_isStable_85 rfl rfl ?_)))
              refine sm_callVi (ci := 11) (x := x0) (av := [.inl x1, .inl t1, .inl t11]) (st := []) (mc := 0) (ms := 0) (pc' := 90) d_M_isStable_87 rfl (sd_M_wouldTake x0 x1 t1 t11) m_lv rfl cv_M_wouldTake w_ml_M_482 rfl rfl (by decide) (Nat.le_of_ble_eq_true rfl) rfl rfl (fun v16 => ?_)
              refine sm_if_eq (tgt := 95) (pc' := 93) d_M_isStable_90 rfl rfl ?_ ?_
              · refine sm_iinc (j := 0) (L' := [(4, .inl (t11 + 1)), (0, .inr (.inr x0)), (1, .inl x1), (2, .inl t1), (3, .inl t10)]) (pc' := 98) d_M_isStable_95 rfl (v := (t11 + 1)) rfl (ix_1 _) (Nat.le_of_ble_eq_true rfl) rfl (sm_goto (tgt := 51) d_M_isStable_98 rfl (sm_sub [0, 1, 2, 3, 4] rfl ?_))
                exact sm_rt rfl
              · refine sm_iconst (pc' := 94) d_M_isStable_93 rfl ic_0 ?_
                exact sm_zreturn d_M_isStable_94 rfl (by decide) rfl
    · refine sm_goto (tgt := 101) d_M_isStable_20 rfl (sm_iinc (j := 0) (L' := [(2, .inl (t1 + 1)), (0, .inr (.inr x0)), (1, .inl x1)]) (pc' := 104) d_M_isStable_101 rfl (v := (t1 + 1)) rfl (ix_1 _) (Nat.le_of_ble_eq_true rfl) rfl (sm_goto (tgt := 2) d_M_isStable_104 rfl (sm_sub [0, 1, 2] rfl ?_)))
      exact sm_rt rfl
theorem d_M_stablesOf_0 : m_D k_M_stablesOf 0 (.iload_n 2) 1 := (by decide +kernel : decode prog_14_method_138_code 0 = .ok (.iload_n 2, 1))
theorem d_M_stablesOf_1 : m_D k_M_stablesOf 1 (.aload_n 0) 1 := (by decide +kernel : decode prog_14_method_138_code 1 = .ok (.aload_n 0, 1))
theorem d_M_stablesOf_2 : m_D k_M_stablesOf 2 (.getfield 35) 3 := (by decide +kernel : decode prog_14_method_138_code 2 = .ok (.getfield 35, 3))
theorem d_M_stablesOf_5 : m_D k_M_stablesOf 5 (.iconst 0) 1 := (by decide +kernel : decode prog_14_method_138_code 5 = .ok (.iconst 0, 1))
theorem d_M_stablesOf_6 : m_D k_M_stablesOf 6 (.iaload) 1 := (by decide +kernel : decode prog_14_method_138_code 6 = .ok (.iaload, 1))
theorem d_M_stablesOf_7 : m_D k_M_stablesOf 7 (.if_icmp .ne 17) 3 := (by decide +kernel : decode prog_14_method_138_code 7 = .ok (.if_icmp .ne 17, 3))
theorem d_M_stablesOf_10 : m_D k_M_stablesOf 10 (.aload_n 0) 1 := (by decide +kernel : decode prog_14_method_138_code 10 = .ok (.aload_n 0, 1))
theorem d_M_stablesOf_11 : m_D k_M_stablesOf 11 (.iload_n 1) 1 := (by decide +kernel : decode prog_14_method_138_code 11 = .ok (.iload_n 1, 1))
theorem d_M_stablesOf_12 : m_D k_M_stablesOf 12 (.invokevirtual 485) 3 := (by decide +kernel : decode prog_14_method_138_code 12 = .ok (.invokevirtual 485, 3))
theorem d_M_stablesOf_15 : m_D k_M_stablesOf 15 (.ifCond .eq 7) 3 := (by decide +kernel : decode prog_14_method_138_code 15 = .ok (.ifCond .eq 7, 3))
theorem d_M_stablesOf_18 : m_D k_M_stablesOf 18 (.iconst 1) 1 := (by decide +kernel : decode prog_14_method_138_code 18 = .ok (.iconst 1, 1))
theorem d_M_stablesOf_19 : m_D k_M_stablesOf 19 (.goto 4) 3 := (by decide +kernel : decode prog_14_method_138_code 19 = .ok (.goto 4, 3))
theorem d_M_stablesOf_22 : m_D k_M_stablesOf 22 (.iconst 0) 1 := (by decide +kernel : decode prog_14_method_138_code 22 = .ok (.iconst 0, 1))
theorem d_M_stablesOf_23 : m_D k_M_stablesOf 23 (.ireturn) 1 := (by decide +kernel : decode prog_14_method_138_code 23 = .ok (.ireturn, 1))
theorem d_M_stablesOf_24 : m_D k_M_stablesOf 24 (.aload_n 0) 1 := (by decide +kernel : decode prog_14_method_138_code 24 = .ok (.aload_n 0, 1))
theorem d_M_stablesOf_25 : m_D k_M_stablesOf 25 (.getfield 53) 3 := (by decide +kernel : decode prog_14_method_138_code 25 = .ok (.getfield 53, 3))
theorem d_M_stablesOf_28 : m_D k_M_stablesOf 28 (.iload_n 2) 1 := (by decide +kernel : decode prog_14_method_138_code 28 = .ok (.iload_n 2, 1))
theorem d_M_stablesOf_29 : m_D k_M_stablesOf 29 (.iconst (-1)) 1 := (by decide +kernel : decode prog_14_method_138_code 29 = .ok (.iconst (-1), 1))
theorem d_M_stablesOf_30 : m_D k_M_stablesOf 30 (.iastore) 1 := (by decide +kernel : decode prog_14_method_138_code 30 = .ok (.iastore, 1))
theorem d_M_stablesOf_31 : m_D k_M_stablesOf 31 (.aload_n 0) 1 := (by decide +kernel : decode prog_14_method_138_code 31 = .ok (.aload_n 0, 1))
theorem d_M_stablesOf_32 : m_D k_M_stablesOf 32 (.iload_n 1) 1 := (by decide +kernel : decode prog_14_method_138_code 32 = .ok (.iload_n 1, 1))
theorem d_M_stablesOf_33 : m_D k_M_stablesOf 33 (.iload_n 2) 1 := (by decide +kernel : decode prog_14_method_138_code 33 = .ok (.iload_n 2, 1))
theorem d_M_stablesOf_34 : m_D k_M_stablesOf 34 (.iconst 1) 1 := (by decide +kernel : decode prog_14_method_138_code 34 = .ok (.iconst 1, 1))
theorem d_M_stablesOf_35 : m_D k_M_stablesOf 35 (.iadd) 1 := (by decide +kernel : decode prog_14_method_138_code 35 = .ok (.iadd, 1))
theorem d_M_stablesOf_36 : m_D k_M_stablesOf 36 (.iload_n 3) 1 := (by decide +kernel : decode prog_14_method_138_code 36 = .ok (.iload_n 3, 1))
theorem d_M_stablesOf_37 : m_D k_M_stablesOf 37 (.invokevirtual 488) 3 := (by decide +kernel : decode prog_14_method_138_code 37 = .ok (.invokevirtual 488, 3))
theorem d_M_stablesOf_40 : m_D k_M_stablesOf 40 (.istore 4) 2 := (by decide +kernel : decode prog_14_method_138_code 40 = .ok (.istore 4, 2))
theorem d_M_stablesOf_42 : m_D k_M_stablesOf 42 (.iconst 0) 1 := (by decide +kernel : decode prog_14_method_138_code 42 = .ok (.iconst 0, 1))
theorem d_M_stablesOf_43 : m_D k_M_stablesOf 43 (.istore 5) 2 := (by decide +kernel : decode prog_14_method_138_code 43 = .ok (.istore 5, 2))
theorem d_M_stablesOf_45 : m_D k_M_stablesOf 45 (.iload 5) 2 := (by decide +kernel : decode prog_14_method_138_code 45 = .ok (.iload 5, 2))
theorem d_M_stablesOf_47 : m_D k_M_stablesOf 47 (.aload_n 0) 1 := (by decide +kernel : decode prog_14_method_138_code 47 = .ok (.aload_n 0, 1))
theorem d_M_stablesOf_48 : m_D k_M_stablesOf 48 (.getfield 35) 3 := (by decide +kernel : decode prog_14_method_138_code 48 = .ok (.getfield 35, 3))
theorem d_M_stablesOf_51 : m_D k_M_stablesOf 51 (.iconst 1) 1 := (by decide +kernel : decode prog_14_method_138_code 51 = .ok (.iconst 1, 1))
theorem d_M_stablesOf_52 : m_D k_M_stablesOf 52 (.iaload) 1 := (by decide +kernel : decode prog_14_method_138_code 52 = .ok (.iaload, 1))
theorem d_M_stablesOf_53 : m_D k_M_stablesOf 53 (.if_icmp .ge 56) 3 := (by decide +kernel : decode prog_14_method_138_code 53 = .ok (.if_icmp .ge 56, 3))
theorem d_M_stablesOf_56 : m_D k_M_stablesOf 56 (.iload_n 1) 1 := (by decide +kernel : decode prog_14_method_138_code 56 = .ok (.iload_n 1, 1))
theorem d_M_stablesOf_57 : m_D k_M_stablesOf 57 (.iload_n 2) 1 := (by decide +kernel : decode prog_14_method_138_code 57 = .ok (.iload_n 2, 1))
theorem d_M_stablesOf_58 : m_D k_M_stablesOf 58 (.invokestatic 120) 3 := (by decide +kernel : decode prog_14_method_138_code 58 = .ok (.invokestatic 120, 3))
theorem d_M_stablesOf_61 : m_D k_M_stablesOf 61 (.ifCond .eq 48) 3 := (by decide +kernel : decode prog_14_method_138_code 61 = .ok (.ifCond .eq 48, 3))
theorem d_M_stablesOf_64 : m_D k_M_stablesOf 64 (.iload_n 3) 1 := (by decide +kernel : decode prog_14_method_138_code 64 = .ok (.iload_n 3, 1))
theorem d_M_stablesOf_65 : m_D k_M_stablesOf 65 (.iload 5) 2 := (by decide +kernel : decode prog_14_method_138_code 65 = .ok (.iload 5, 2))
theorem d_M_stablesOf_67 : m_D k_M_stablesOf 67 (.invokestatic 120) 3 := (by decide +kernel : decode prog_14_method_138_code 67 = .ok (.invokestatic 120, 3))
theorem d_M_stablesOf_70 : m_D k_M_stablesOf 70 (.ifCond .eq 6) 3 := (by decide +kernel : decode prog_14_method_138_code 70 = .ok (.ifCond .eq 6, 3))
theorem d_M_stablesOf_73 : m_D k_M_stablesOf 73 (.goto 30) 3 := (by decide +kernel : decode prog_14_method_138_code 73 = .ok (.goto 30, 3))
theorem d_M_stablesOf_76 : m_D k_M_stablesOf 76 (.aload_n 0) 1 := (by decide +kernel : decode prog_14_method_138_code 76 = .ok (.aload_n 0, 1))
theorem d_M_stablesOf_77 : m_D k_M_stablesOf 77 (.getfield 53) 3 := (by decide +kernel : decode prog_14_method_138_code 77 = .ok (.getfield 53, 3))
theorem d_M_stablesOf_80 : m_D k_M_stablesOf 80 (.iload_n 2) 1 := (by decide +kernel : decode prog_14_method_138_code 80 = .ok (.iload_n 2, 1))
theorem d_M_stablesOf_81 : m_D k_M_stablesOf 81 (.iload 5) 2 := (by decide +kernel : decode prog_14_method_138_code 81 = .ok (.iload 5, 2))
theorem d_M_stablesOf_83 : m_D k_M_stablesOf 83 (.iastore) 1 := (by decide +kernel : decode prog_14_method_138_code 83 = .ok (.iastore, 1))
theorem d_M_stablesOf_84 : m_D k_M_stablesOf 84 (.iload 4) 2 := (by decide +kernel : decode prog_14_method_138_code 84 = .ok (.iload 4, 2))
theorem d_M_stablesOf_86 : m_D k_M_stablesOf 86 (.aload_n 0) 1 := (by decide +kernel : decode prog_14_method_138_code 86 = .ok (.aload_n 0, 1))
theorem d_M_stablesOf_87 : m_D k_M_stablesOf 87 (.iload_n 1) 1 := (by decide +kernel : decode prog_14_method_138_code 87 = .ok (.iload_n 1, 1))
theorem d_M_stablesOf_88 : m_D k_M_stablesOf 88 (.iload_n 2) 1 := (by decide +kernel : decode prog_14_method_138_code 88 = .ok (.iload_n 2, 1))
theorem d_M_stablesOf_89 : m_D k_M_stablesOf 89 (.iconst 1) 1 := (by decide +kernel : decode prog_14_method_138_code 89 = .ok (.iconst 1, 1))
theorem d_M_stablesOf_90 : m_D k_M_stablesOf 90 (.iadd) 1 := (by decide +kernel : decode prog_14_method_138_code 90 = .ok (.iadd, 1))
theorem d_M_stablesOf_91 : m_D k_M_stablesOf 91 (.iload_n 3) 1 := (by decide +kernel : decode prog_14_method_138_code 91 = .ok (.iload_n 3, 1))
theorem d_M_stablesOf_92 : m_D k_M_stablesOf 92 (.iconst 1) 1 := (by decide +kernel : decode prog_14_method_138_code 92 = .ok (.iconst 1, 1))
theorem d_M_stablesOf_93 : m_D k_M_stablesOf 93 (.iload 5) 2 := (by decide +kernel : decode prog_14_method_138_code 93 = .ok (.iload 5, 2))
theorem d_M_stablesOf_95 : m_D k_M_stablesOf 95 (.ishl) 1 := (by decide +kernel : decode prog_14_method_138_code 95 = .ok (.ishl, 1))
theorem d_M_stablesOf_96 : m_D k_M_stablesOf 96 (.ior) 1 := (by decide +kernel : decode prog_14_method_138_code 96 = .ok (.ior, 1))
theorem d_M_stablesOf_97 : m_D k_M_stablesOf 97 (.invokevirtual 488) 3 := (by decide +kernel : decode prog_14_method_138_code 97 = .ok (.invokevirtual 488, 3))
theorem d_M_stablesOf_100 : m_D k_M_stablesOf 100 (.iadd) 1 := (by decide +kernel : decode prog_14_method_138_code 100 = .ok (.iadd, 1))
theorem d_M_stablesOf_101 : m_D k_M_stablesOf 101 (.istore 4) 2 := (by decide +kernel : decode prog_14_method_138_code 101 = .ok (.istore 4, 2))
theorem d_M_stablesOf_103 : m_D k_M_stablesOf 103 (.iinc 5 1) 3 := (by decide +kernel : decode prog_14_method_138_code 103 = .ok (.iinc 5 1, 3))
theorem d_M_stablesOf_106 : m_D k_M_stablesOf 106 (.goto (-61)) 3 := (by decide +kernel : decode prog_14_method_138_code 106 = .ok (.goto (-61), 3))
theorem d_M_stablesOf_109 : m_D k_M_stablesOf 109 (.aload_n 0) 1 := (by decide +kernel : decode prog_14_method_138_code 109 = .ok (.aload_n 0, 1))
theorem d_M_stablesOf_110 : m_D k_M_stablesOf 110 (.getfield 53) 3 := (by decide +kernel : decode prog_14_method_138_code 110 = .ok (.getfield 53, 3))
theorem d_M_stablesOf_113 : m_D k_M_stablesOf 113 (.iload_n 2) 1 := (by decide +kernel : decode prog_14_method_138_code 113 = .ok (.iload_n 2, 1))
theorem d_M_stablesOf_114 : m_D k_M_stablesOf 114 (.iconst (-1)) 1 := (by decide +kernel : decode prog_14_method_138_code 114 = .ok (.iconst (-1), 1))
theorem d_M_stablesOf_115 : m_D k_M_stablesOf 115 (.iastore) 1 := (by decide +kernel : decode prog_14_method_138_code 115 = .ok (.iastore, 1))
theorem d_M_stablesOf_116 : m_D k_M_stablesOf 116 (.iload 4) 2 := (by decide +kernel : decode prog_14_method_138_code 116 = .ok (.iload 4, 2))
theorem d_M_stablesOf_118 : m_D k_M_stablesOf 118 (.ireturn) 1 := (by decide +kernel : decode prog_14_method_138_code 118 = .ok (.ireturn, 1))
def fn_M_stablesOf_l45 (r : Option mA → Int32 → Int32 → Int32 → mP Int32) (x0 : Option mA) (x1 : Int32) (x2 : Int32) (x3 : Int32) (t5 : Int32 × Int32) : mP ((Int32 × Int32) ⊕ (Int32)) :=
  m_bd (m_gR 11 20 x0) fun v6 =>
  m_bd (m_aI 0 v6 1) fun v7 =>
  if v7 ≤ t5.2 then
    m_rt (.inr t5.1)
  else
    m_bd (fn_M_has x1 x2) fun v8 =>
    if v8 = 0 then
      m_rt (.inr t5.1)
    else
      m_bd (fn_M_has x3 t5.2) fun v9 =>
      m_bd (α := Int32) (
        if v9 = 0 then
          m_bd (m_gR 11 32 x0) fun v10 =>
          m_bd (m_tI 0 v10 x2 t5.2) fun _ =>
          m_bd (r x0 x1 (x2 + 1) (x3 ||| (1 <<< (t5.2 &&& 31)))) fun v11 =>
          m_rt (t5.1 + v11)
        else
          m_rt t5.1
        ) fun (t12 : Int32) =>
      m_rt (.inl (t12, (t5.2 + 1)))
def fn_M_stablesOf_r (r : Option mA → Int32 → Int32 → Int32 → mP Int32) (x0 : Option mA) (x1 : Int32) (x2 : Int32) (x3 : Int32) : mP Int32 :=
  m_th 11 x0 <|
  m_bd (m_gR 11 20 x0) fun v1 =>
  m_bd (m_aI 0 v1 0) fun v2 =>
  if x2 = v2 then
    m_bd (fn_M_isStable x0 x1) fun v15 =>
    if v15 = 0 then
      m_rt 0
    else
      m_rt 1
  else
    m_bd (m_gR 11 32 x0) fun v3 =>
    m_bd (m_tI 0 v3 x2 (-1)) fun _ =>
    m_bd (r x0 x1 (x2 + 1) x3) fun v4 =>
    m_bd (m_lp (fn_M_stablesOf_l45 r x0 x1 x2 x3) m_F (v4, 0)) fun (t13 : Int32) =>
    m_bd (m_gR 11 32 x0) fun v14 =>
    m_bd (m_tI 0 v14 x2 (-1)) fun _ =>
    m_rt t13
set_option maxHeartbeats 4000000 in
set_option maxRecDepth 100000 in
theorem sd_M_stablesOf_r (r : Option mA → Int32 → Int32 → Int32 → mP Int32) (dr : Nat) (hr : ∀ (y0 : Option mA) (y1 : Int32) (y2 : Int32) (y3 : Int32), m_Sm k_M_stablesOf dr 0 0 [.inr (.inr y0), .inl y1, .inl y2, .inl y3] (r y0 y1 y2 y3) (fun b => some (.inl b))) (hv : ∀ (y0 : Option mA) (y1 : Int32) (y2 : Int32) (y3 : Int32), m_Lv 11 y0 (r y0 y1 y2 y3)) (x0 : Option mA) (x1 : Int32) (x2 : Int32) (x3 : Int32) : m_Sm k_M_stablesOf ((max 4 (dr + 1))) 0 0 [.inr (.inr x0), .inl x1, .inl x2, .inl x3] (fn_M_stablesOf_r r x0 x1 x2 x3) (fun b => some (.inl b)) := by
  refine ⟨Nat.le_of_ble_eq_true rfl, ?_⟩
  refine sm_th ?_
  refine sm_iload_n (i := 2) (j := 2) (pc' := 1) d_M_stablesOf_0 rfl rfl rfl (sm_aload_n (i := 0) (j := 0) (pc' := 2) d_M_stablesOf_1 rfl rfl rfl ?_)
  refine sm_getR (pc' := 5) d_M_stablesOf_2 rfl fl_M_35 rfl rfl (fun v1 => ?_)
  refine sm_iconst (pc' := 6) d_M_stablesOf_5 rfl ic_0 ?_
  refine sm_iald (pc' := 7) d_M_stablesOf_6 rfl (fun v2 => ?_)
  refine sm_icmp_ne (tgt := 24) (pc' := 10) d_M_stablesOf_7 rfl rfl ?_ ?_
  · refine sm_aload_n (i := 0) (j := 0) (pc' := 25) d_M_stablesOf_24 rfl rfl rfl ?_
    refine sm_getR (pc' := 28) d_M_stablesOf_25 rfl fl_M_53 rfl rfl (fun v3 => ?_)
    refine sm_iload_n (i := 2) (j := 2) (pc' := 29) d_M_stablesOf_28 rfl rfl rfl (sm_iconst (pc' := 30) d_M_stablesOf_29 rfl ic_m1 (sm_iast (pc' := 31) d_M_stablesOf_30 rfl (sm_aload_n (i := 0) (j := 0) (pc' := 32) d_M_stablesOf_31 rfl rfl rfl (sm_iload_n (i := 1) (j := 1) (pc' := 33) d_M_stablesOf_32 rfl rfl rfl (sm_iload_n (i := 2) (j := 2) (pc' := 34) d_M_stablesOf_33 rfl rfl rfl (sm_iconst (pc' := 35) d_M_stablesOf_34 rfl ic_1 (sm_iadd (pc' := 36) d_M_stablesOf_35 rfl (sm_iload_n (i := 3) (j := 3) (pc' := 37) d_M_stablesOf_36 rfl rfl rfl ?_))))))))
    refine sm_callVi (ci := 11) (x := x0) (av := [.inl x1, .inl (x2 + 1), .inl x3]) (st := []) (mc := 0) (ms := 0) (pc' := 40) d_M_stablesOf_37 rfl (hr x0 x1 (x2 + 1) x3) (hv x0 x1 (x2 + 1) x3) rfl cv_M_stablesOf w_ml_M_488 rfl rfl (by omega) (Nat.le_of_ble_eq_true rfl) rfl rfl (fun v4 => ?_)
    refine sm_istore (L' := [(4, .inl v4), (0, .inr (.inr x0)), (1, .inl x1), (2, .inl x2), (3, .inl x3)]) (pc' := 42) d_M_stablesOf_40 rfl (Nat.le_of_ble_eq_true rfl) rfl (sm_iconst (pc' := 43) d_M_stablesOf_42 rfl ic_0 (sm_istore (L' := [(5, .inl 0), (4, .inl v4), (0, .inr (.inr x0)), (1, .inl x1), (2, .inl x2), (3, .inl x3)]) (pc' := 45) d_M_stablesOf_43 rfl (Nat.le_of_ble_eq_true rfl) rfl ?_))
    refine sm_sub [1, 0, 2, 3, 4, 5] rfl ?_
    refine sm_bd (mid := fun (t13 : Int32) => .inl (109, [(4, .inl t13), (0, .inr (.inr x0)), (2, .inl x2)], [])) (sm_lp (hd := fun (t5 : Int32 × Int32) => (.inl (45, [(4, .inl t5.1), (5, .inl t5.2), (0, .inr (.inr x0)), (1, .inl x1), (2, .inl x2), (3, .inl x3)], []) : mC)) (fun t5 => ?_) m_F (v4, 0)) (fun t13 => ?_)
    · refine sm_iload (j := 1) (pc' := 47) d_M_stablesOf_45 rfl rfl (sm_aload_n (i := 0) (j := 2) (pc' := 48) d_M_stablesOf_47 rfl rfl rfl ?_)
      refine sm_getR (pc' := 51) d_M_stablesOf_48 rfl fl_M_35 rfl rfl (fun v6 => ?_)
      refine sm_iconst (pc' := 52) d_M_stablesOf_51 rfl ic_1 ?_
      refine sm_iald (pc' := 53) d_M_stablesOf_52 rfl (fun v7 => ?_)
      refine sm_icmp_ge (tgt := 109) (pc' := 56) d_M_stablesOf_53 rfl rfl ?_ ?_
      · refine sm_sub [0, 2, 4] rfl ?_
        exact sm_rt rfl
      · refine sm_iload_n (i := 1) (j := 3) (pc' := 57) d_M_stablesOf_56 rfl rfl rfl (sm_iload_n (i := 2) (j := 4) (pc' := 58) d_M_stablesOf_57 rfl rfl rfl ?_)
        refine sm_callSi (av := [.inl x1, .inl x2]) (st := []) (mc := 0) (ms := 0) (pc' := 61) d_M_stablesOf_58 rfl (sd_M_has x1 x2) cs_M_has w_ml_M_120 rfl rfl (by omega) (Nat.le_of_ble_eq_true rfl) rfl rfl (fun v8 => ?_)
        refine sm_if_eq (tgt := 109) (pc' := 64) d_M_stablesOf_61 rfl rfl ?_ ?_
        · refine sm_sub [0, 2, 4] rfl ?_
          exact sm_rt rfl
        · refine sm_iload_n (i := 3) (j := 5) (pc' := 65) d_M_stablesOf_64 rfl rfl rfl (sm_iload (j := 1) (pc' := 67) d_M_stablesOf_65 rfl rfl ?_)
          refine sm_callSi (av := [.inl x3, .inl t5.2]) (st := []) (mc := 0) (ms := 0) (pc' := 70) d_M_stablesOf_67 rfl (sd_M_has x3 t5.2) cs_M_has w_ml_M_120 rfl rfl (by omega) (Nat.le_of_ble_eq_true rfl) rfl rfl (fun v9 => ?_)
          refine sm_bd (mid := fun (t12 : Int32) => .inl (103, [(0, .inr (.inr x0)), (1, .inl x1), (2, .inl x2), (3, .inl x3), (4, .inl t12), (5, .inl t5.2)], [])) ?_ (fun t12 => ?_)
          · refine sm_if_eq (tgt := 76) (pc' := 73) d_M_stablesOf_70 rfl rfl ?_ ?_
            · refine sm_aload_n (i := 0) (j := 2) (pc' := 77) d_M_stablesOf_76 rfl rfl rfl ?_
              refine sm_getR (pc' := 80) d_M_stablesOf_77 rfl fl_M_53 rfl rfl (fun v10 => ?_)
              refine sm_iload_n (i := 2) (j := 4) (pc' := 81) d_M_stablesOf_80 rfl rfl rfl (sm_iload (j := 1) (pc' := 83) d_M_stablesOf_81 rfl rfl (sm_iast (pc' := 84) d_M_stablesOf_83 rfl (sm_iload (j := 0) (pc' := 86) d_M_stablesOf_84 rfl rfl (sm_aload_n (i := 0) (j := 2) (pc' := 87) d_M_stablesOf_86 rfl rfl rfl (sm_iload_n (i := 1) (j := 3) (pc' := 88) d_M_stablesOf_87 rfl rfl rfl (sm_iload_n (i := 2) (j := 4) (pc' := 89) d_M_stablesOf_88 rfl rfl rfl (sm_iconst (pc' := 90) d_M_stablesOf_89 rfl ic_1 (sm_iadd (pc' := 91) d_M_stablesOf_90 rfl (sm_iload_n (i := 3) (j := 5) (pc' := 92) d_M_stablesOf_91 rfl rfl rfl ?_)))))))))
              refine sm_iconst (pc' := 93) d_M_stablesOf_92 rfl ic_1 (sm_iload (j := 1) (pc' := 95) d_M_stablesOf_93 rfl rfl (sm_ishl (pc' := 96) d_M_stablesOf_95 rfl (sm_ior (pc' := 97) d_M_stablesOf_96 rfl ?_)))
              refine sm_callVi (ci := 11) (x := x0) (av := [.inl x1, .inl (x2 + 1), .inl (x3 ||| (1 <<< (t5.2 &&& 31)))]) (st := [.inl t5.1]) (mc := 0) (ms := 0) (pc' := 100) d_M_stablesOf_97 rfl (hr x0 x1 (x2 + 1) (x3 ||| (1 <<< (t5.2 &&& 31)))) (hv x0 x1 (x2 + 1) (x3 ||| (1 <<< (t5.2 &&& 31)))) rfl cv_M_stablesOf w_ml_M_488 rfl rfl (by omega) (Nat.le_of_ble_eq_true rfl) rfl rfl (fun v11 => ?_)
              refine sm_iadd (pc' := 101) d_M_stablesOf_100 rfl (sm_istore (L' := [(4, .inl (t5.1 + v11)), (5, .inl t5.2), (0, .inr (.inr x0)), (1, .inl x1), (2, .inl x2), (3, .inl x3)]) (pc' := 103) d_M_stablesOf_101 rfl (Nat.le_of_ble_eq_true rfl) rfl (sm_sub [2, 3, 4, 5, 0, 1] rfl ?_))
              exact sm_rt rfl
            · refine sm_goto (tgt := 103) d_M_stablesOf_73 rfl (sm_sub [2, 3, 4, 5, 0, 1] rfl ?_)
              exact sm_rt rfl
          · refine sm_iinc (j := 5) (L' := [(5, .inl (t5.2 + 1)), (0, .inr (.inr x0)), (1, .inl x1), (2, .inl x2), (3, .inl x3), (4, .inl t12)]) (pc' := 106) d_M_stablesOf_103 rfl (v := (t5.2 + 1)) rfl (ix_1 _) (Nat.le_of_ble_eq_true rfl) rfl (sm_goto (tgt := 45) d_M_stablesOf_106 rfl (sm_sub [5, 0, 1, 2, 3, 4] rfl ?_))
            exact sm_rt rfl
    · refine sm_aload_n (i := 0) (j := 1) (pc' := 110) d_M_stablesOf_109 rfl rfl rfl ?_
      refine sm_getR (pc' := 113) d_M_stablesOf_110 rfl fl_M_53 rfl rfl (fun v14 => ?_)
      refine sm_iload_n (i := 2) (j := 2) (pc' := 114) d_M_stablesOf_113 rfl rfl rfl (sm_iconst (pc' := 115) d_M_stablesOf_114 rfl ic_m1 (sm_iast (pc' := 116) d_M_stablesOf_115 rfl (sm_iload (j := 0) (pc' := 118) d_M_stablesOf_116 rfl rfl ?_)))
      exact sm_ireturn d_M_stablesOf_118 rfl rfl
  · refine sm_aload_n (i := 0) (j := 0) (pc' := 11) d_M_stablesOf_10 rfl rfl rfl (sm_iload_n (i := 1) (j := 1) (pc' := 12) d_M_stablesOf_11 rfl rfl rfl ?_)
    refine sm_callVi (ci := 11) (x := x0) (av := [.inl x1]) (st := []) (mc := 0) (ms := 0) (pc' := 15) d_M_stablesOf_12 rfl (sd_M_isStable x0 x1) m_lv rfl cv_M_isStable w_ml_M_485 rfl rfl (by omega) (Nat.le_of_ble_eq_true rfl) rfl rfl (fun v15 => ?_)
    refine sm_if_eq (tgt := 22) (pc' := 18) d_M_stablesOf_15 rfl rfl ?_ ?_
    · refine sm_iconst (pc' := 23) d_M_stablesOf_22 rfl ic_0 ?_
      exact sm_ireturn d_M_stablesOf_23 rfl rfl
    · refine sm_iconst (pc' := 19) d_M_stablesOf_18 rfl ic_1 (sm_goto (tgt := 23) d_M_stablesOf_19 rfl ?_)
      exact sm_ireturn d_M_stablesOf_23 rfl rfl
def fn_M_stablesOf : Nat → Option mA → Int32 → Int32 → Int32 → mP Int32
  | 0, _, _, _, _ => m_fl
  | n + 1, x0, x1, x2, x3 => fn_M_stablesOf_r (fn_M_stablesOf n) x0 x1 x2 x3
theorem lv_M_stablesOf : ∀ (n : Nat) (x0 : Option mA) (x1 : Int32) (x2 : Int32) (x3 : Int32), m_Lv 11 x0 (fn_M_stablesOf n x0 x1 x2 x3)
  | 0, _, _, _, _ => m_lv0
  | n + 1, _, _, _, _ => m_lv
theorem sd_M_stablesOf : ∀ (n : Nat) (x0 : Option mA) (x1 : Int32) (x2 : Int32) (x3 : Int32), m_Sm k_M_stablesOf (4 + n * 1) 0 0 [.inr (.inr x0), .inl x1, .inl x2, .inl x3] (fn_M_stablesOf n x0 x1 x2 x3) (fun b => some (.inl b))
  | 0, x0, x1, x2, x3 => ⟨Nat.le_of_ble_eq_true rfl, sm_fl⟩
  | n + 1, x0, x1, x2, x3 => m_Sm_mono (by omega) (sd_M_stablesOf_r (fn_M_stablesOf n) (4 + n * 1) (sd_M_stablesOf n) (lv_M_stablesOf n) x0 x1 x2 x3)
theorem d_M_stables_0 : m_D k_M_stables 0 (.aload_n 0) 1 := (by decide +kernel : decode prog_14_method_139_code 0 = .ok (.aload_n 0, 1))
theorem d_M_stables_1 : m_D k_M_stables 1 (.iconst 0) 1 := (by decide +kernel : decode prog_14_method_139_code 1 = .ok (.iconst 0, 1))
theorem d_M_stables_2 : m_D k_M_stables 2 (.putfield 81) 3 := (by decide +kernel : decode prog_14_method_139_code 2 = .ok (.putfield 81, 3))
theorem d_M_stables_5 : m_D k_M_stables 5 (.aload_n 0) 1 := (by decide +kernel : decode prog_14_method_139_code 5 = .ok (.aload_n 0, 1))
theorem d_M_stables_6 : m_D k_M_stables 6 (.iconst 0) 1 := (by decide +kernel : decode prog_14_method_139_code 6 = .ok (.iconst 0, 1))
theorem d_M_stables_7 : m_D k_M_stables 7 (.putfield 84) 3 := (by decide +kernel : decode prog_14_method_139_code 7 = .ok (.putfield 84, 3))
theorem d_M_stables_10 : m_D k_M_stables 10 (.aload_n 0) 1 := (by decide +kernel : decode prog_14_method_139_code 10 = .ok (.aload_n 0, 1))
theorem d_M_stables_11 : m_D k_M_stables 11 (.iload_n 1) 1 := (by decide +kernel : decode prog_14_method_139_code 11 = .ok (.iload_n 1, 1))
theorem d_M_stables_12 : m_D k_M_stables 12 (.invokevirtual 467) 3 := (by decide +kernel : decode prog_14_method_139_code 12 = .ok (.invokevirtual 467, 3))
theorem d_M_stables_15 : m_D k_M_stables 15 (.ifCond .eq 11) 3 := (by decide +kernel : decode prog_14_method_139_code 15 = .ok (.ifCond .eq 11, 3))
theorem d_M_stables_18 : m_D k_M_stables 18 (.iload_n 1) 1 := (by decide +kernel : decode prog_14_method_139_code 18 = .ok (.iload_n 1, 1))
theorem d_M_stables_19 : m_D k_M_stables 19 (.invokestatic 429) 3 := (by decide +kernel : decode prog_14_method_139_code 19 = .ok (.invokestatic 429, 3))
theorem d_M_stables_22 : m_D k_M_stables 22 (.iconst 4) 1 := (by decide +kernel : decode prog_14_method_139_code 22 = .ok (.iconst 4, 1))
theorem d_M_stables_23 : m_D k_M_stables 23 (.if_icmp .le 9) 3 := (by decide +kernel : decode prog_14_method_139_code 23 = .ok (.if_icmp .le 9, 3))
theorem d_M_stables_26 : m_D k_M_stables 26 (.aload_n 0) 1 := (by decide +kernel : decode prog_14_method_139_code 26 = .ok (.aload_n 0, 1))
theorem d_M_stables_27 : m_D k_M_stables 27 (.iconst 5) 1 := (by decide +kernel : decode prog_14_method_139_code 27 = .ok (.iconst 5, 1))
theorem d_M_stables_28 : m_D k_M_stables 28 (.invokevirtual 331) 3 := (by decide +kernel : decode prog_14_method_139_code 28 = .ok (.invokevirtual 331, 3))
theorem d_M_stables_31 : m_D k_M_stables 31 (.ireturn) 1 := (by decide +kernel : decode prog_14_method_139_code 31 = .ok (.ireturn, 1))
theorem d_M_stables_32 : m_D k_M_stables 32 (.aload_n 0) 1 := (by decide +kernel : decode prog_14_method_139_code 32 = .ok (.aload_n 0, 1))
theorem d_M_stables_33 : m_D k_M_stables 33 (.iload_n 1) 1 := (by decide +kernel : decode prog_14_method_139_code 33 = .ok (.iload_n 1, 1))
theorem d_M_stables_34 : m_D k_M_stables 34 (.iconst 0) 1 := (by decide +kernel : decode prog_14_method_139_code 34 = .ok (.iconst 0, 1))
theorem d_M_stables_35 : m_D k_M_stables 35 (.aload_n 0) 1 := (by decide +kernel : decode prog_14_method_139_code 35 = .ok (.aload_n 0, 1))
theorem d_M_stables_36 : m_D k_M_stables 36 (.invokevirtual 340) 3 := (by decide +kernel : decode prog_14_method_139_code 36 = .ok (.invokevirtual 340, 3))
theorem d_M_stables_39 : m_D k_M_stables 39 (.invokevirtual 488) 3 := (by decide +kernel : decode prog_14_method_139_code 39 = .ok (.invokevirtual 488, 3))
theorem d_M_stables_42 : m_D k_M_stables 42 (.ireturn) 1 := (by decide +kernel : decode prog_14_method_139_code 42 = .ok (.ireturn, 1))
def fn_M_stables (x0 : Option mA) (x1 : Int32) : mP Int32 :=
  m_th 11 x0 <|
  m_bd (m_pI 11 1 x0 0) fun _ =>
  m_bd (m_pI 11 0 x0 0) fun _ =>
  m_bd (fn_M_arePeople x0 x1) fun v1 =>
  if v1 = 0 then
    m_bd (fn_M_refuse x0 5) fun v2 =>
    m_rt v2
  else
    m_bd (fn_M_sizeOf x1) fun v3 =>
    if v3 ≤ 4 then
      m_bd (fn_M_throughs x0) fun v4 =>
      m_bd (fn_M_stablesOf 8 x0 x1 0 v4) fun v5 =>
      m_rt v5
    else
      m_bd (fn_M_refuse x0 5) fun v6 =>
      m_rt v6
set_option maxHeartbeats 4000000 in
set_option maxRecDepth 100000 in
theorem sd_M_stables (x0 : Option mA) (x1 : Int32) : m_Sm k_M_stables 13 0 0 [.inr (.inr x0), .inl x1] (fn_M_stables x0 x1) (fun b => some (.inl b)) := by
  refine ⟨Nat.le_of_ble_eq_true rfl, ?_⟩
  refine sm_th ?_
  refine sm_aload_n (i := 0) (j := 0) (pc' := 1) d_M_stables_0 rfl rfl rfl (sm_iconst (pc' := 2) d_M_stables_1 rfl ic_0 (sm_putI (pc' := 5) d_M_stables_2 rfl fl_M_81 (Or.inl rfl) rfl (sm_aload_n (i := 0) (j := 0) (pc' := 6) d_M_stables_5 rfl rfl rfl (sm_iconst (pc' := 7) d_M_stables_6 rfl ic_0 (sm_putI (pc' := 10) d_M_stables_7 rfl fl_M_84 (Or.inl rfl) rfl (sm_aload_n (i := 0) (j := 0) (pc' := 11) d_M_stables_10 rfl rfl rfl (sm_iload_n (i := 1) (j := 1) (pc' := 12) d_M_stables_11 rfl rfl rfl ?_)))))))
  refine sm_callVi (ci := 11) (x := x0) (av := [.inl x1]) (st := []) (mc := 0) (ms := 0) (pc' := 15) d_M_stables_12 rfl (sd_M_arePeople x0 x1) m_lv rfl cv_M_arePeople w_ml_M_467 rfl rfl (by decide) (Nat.le_of_ble_eq_true rfl) rfl rfl (fun v1 => ?_)
  refine sm_if_eq (tgt := 26) (pc' := 18) d_M_stables_15 rfl rfl ?_ ?_
  · refine sm_aload_n (i := 0) (j := 0) (pc' := 27) d_M_stables_26 rfl rfl rfl (sm_iconst (pc' := 28) d_M_stables_27 rfl ic_5 ?_)
    refine sm_callVi (ci := 11) (x := x0) (av := [.inl 5]) (st := []) (mc := 0) (ms := 0) (pc' := 31) d_M_stables_28 rfl (sd_M_refuse x0 5) m_lv rfl cv_M_refuse w_ml_M_331 rfl rfl (by decide) (Nat.le_of_ble_eq_true rfl) rfl rfl (fun v2 => ?_)
    exact sm_ireturn d_M_stables_31 rfl rfl
  · refine sm_iload_n (i := 1) (j := 1) (pc' := 19) d_M_stables_18 rfl rfl rfl ?_
    refine sm_callSi (av := [.inl x1]) (st := []) (mc := 0) (ms := 0) (pc' := 22) d_M_stables_19 rfl (sd_M_sizeOf x1) cs_M_sizeOf w_ml_M_429 rfl rfl (by decide) (Nat.le_of_ble_eq_true rfl) rfl rfl (fun v3 => ?_)
    refine sm_iconst (pc' := 23) d_M_stables_22 rfl ic_4 ?_
    refine sm_icmp_le (tgt := 32) (pc' := 26) d_M_stables_23 rfl rfl ?_ ?_
    · refine sm_aload_n (i := 0) (j := 0) (pc' := 33) d_M_stables_32 rfl rfl rfl (sm_iload_n (i := 1) (j := 1) (pc' := 34) d_M_stables_33 rfl rfl rfl (sm_iconst (pc' := 35) d_M_stables_34 rfl ic_0 (sm_aload_n (i := 0) (j := 0) (pc' := 36) d_M_stables_35 rfl rfl rfl ?_)))
      refine sm_callVi (ci := 11) (x := x0) (av := []) (st := [.inl 0, .inl x1, .inr (.inr x0)]) (mc := 0) (ms := 0) (pc' := 39) d_M_stables_36 rfl (sd_M_throughs x0) m_lv rfl cv_M_throughs w_ml_M_340 rfl rfl (by decide) (Nat.le_of_ble_eq_true rfl) rfl rfl (fun v4 => ?_)
      refine sm_callVi (ci := 11) (x := x0) (av := [.inl x1, .inl 0, .inl v4]) (st := []) (mc := 0) (ms := 0) (pc' := 42) d_M_stables_39 rfl (sd_M_stablesOf 8 x0 x1 0 v4) (lv_M_stablesOf 8 x0 x1 0 v4) rfl cv_M_stablesOf w_ml_M_488 rfl rfl (by decide) (Nat.le_of_ble_eq_true rfl) rfl rfl (fun v5 => ?_)
      exact sm_ireturn d_M_stables_42 rfl rfl
    · refine sm_aload_n (i := 0) (j := 0) (pc' := 27) d_M_stables_26 rfl rfl rfl (sm_iconst (pc' := 28) d_M_stables_27 rfl ic_5 ?_)
      refine sm_callVi (ci := 11) (x := x0) (av := [.inl 5]) (st := []) (mc := 0) (ms := 0) (pc' := 31) d_M_stables_28 rfl (sd_M_refuse x0 5) m_lv rfl cv_M_refuse w_ml_M_331 rfl rfl (by decide) (Nat.le_of_ble_eq_true rfl) rfl rfl (fun v6 => ?_)
      exact sm_ireturn d_M_stables_31 rfl rfl
theorem d_M_laysTurn_0 : m_D k_M_laysTurn 0 (.iconst 0) 1 := (by decide +kernel : decode prog_14_method_140_code 0 = .ok (.iconst 0, 1))
theorem d_M_laysTurn_1 : m_D k_M_laysTurn 1 (.istore_n 2) 1 := (by decide +kernel : decode prog_14_method_140_code 1 = .ok (.istore_n 2, 1))
theorem d_M_laysTurn_2 : m_D k_M_laysTurn 2 (.iload_n 2) 1 := (by decide +kernel : decode prog_14_method_140_code 2 = .ok (.iload_n 2, 1))
theorem d_M_laysTurn_3 : m_D k_M_laysTurn 3 (.bipush 105) 2 := (by decide +kernel : decode prog_14_method_140_code 3 = .ok (.bipush 105, 2))
theorem d_M_laysTurn_5 : m_D k_M_laysTurn 5 (.if_icmp .ge 26) 3 := (by decide +kernel : decode prog_14_method_140_code 5 = .ok (.if_icmp .ge 26, 3))
theorem d_M_laysTurn_8 : m_D k_M_laysTurn 8 (.aload_n 0) 1 := (by decide +kernel : decode prog_14_method_140_code 8 = .ok (.aload_n 0, 1))
theorem d_M_laysTurn_9 : m_D k_M_laysTurn 9 (.getfield 65) 3 := (by decide +kernel : decode prog_14_method_140_code 9 = .ok (.getfield 65, 3))
theorem d_M_laysTurn_12 : m_D k_M_laysTurn 12 (.bipush 105) 2 := (by decide +kernel : decode prog_14_method_140_code 12 = .ok (.bipush 105, 2))
theorem d_M_laysTurn_14 : m_D k_M_laysTurn 14 (.iload_n 1) 1 := (by decide +kernel : decode prog_14_method_140_code 14 = .ok (.iload_n 1, 1))
theorem d_M_laysTurn_15 : m_D k_M_laysTurn 15 (.imul) 1 := (by decide +kernel : decode prog_14_method_140_code 15 = .ok (.imul, 1))
theorem d_M_laysTurn_16 : m_D k_M_laysTurn 16 (.iload_n 2) 1 := (by decide +kernel : decode prog_14_method_140_code 16 = .ok (.iload_n 2, 1))
theorem d_M_laysTurn_17 : m_D k_M_laysTurn 17 (.iadd) 1 := (by decide +kernel : decode prog_14_method_140_code 17 = .ok (.iadd, 1))
theorem d_M_laysTurn_18 : m_D k_M_laysTurn 18 (.aload_n 0) 1 := (by decide +kernel : decode prog_14_method_140_code 18 = .ok (.aload_n 0, 1))
theorem d_M_laysTurn_19 : m_D k_M_laysTurn 19 (.getfield 35) 3 := (by decide +kernel : decode prog_14_method_140_code 19 = .ok (.getfield 35, 3))
theorem d_M_laysTurn_22 : m_D k_M_laysTurn 22 (.iload_n 2) 1 := (by decide +kernel : decode prog_14_method_140_code 22 = .ok (.iload_n 2, 1))
theorem d_M_laysTurn_23 : m_D k_M_laysTurn 23 (.iaload) 1 := (by decide +kernel : decode prog_14_method_140_code 23 = .ok (.iaload, 1))
theorem d_M_laysTurn_24 : m_D k_M_laysTurn 24 (.iastore) 1 := (by decide +kernel : decode prog_14_method_140_code 24 = .ok (.iastore, 1))
theorem d_M_laysTurn_25 : m_D k_M_laysTurn 25 (.iinc 2 1) 3 := (by decide +kernel : decode prog_14_method_140_code 25 = .ok (.iinc 2 1, 3))
theorem d_M_laysTurn_28 : m_D k_M_laysTurn 28 (.goto (-26)) 3 := (by decide +kernel : decode prog_14_method_140_code 28 = .ok (.goto (-26), 3))
theorem d_M_laysTurn_31 : m_D k_M_laysTurn 31 (.return_) 1 := (by decide +kernel : decode prog_14_method_140_code 31 = .ok (.return_, 1))
def fn_M_laysTurn_l2 (x0 : Option mA) (x1 : Int32) (t1 : Int32) : mP ((Int32) ⊕ (Unit)) :=
  if 105 ≤ t1 then
    m_rt (.inr ())
  else
    m_bd (m_gR 11 37 x0) fun v2 =>
    m_bd (m_gR 11 20 x0) fun v3 =>
    m_bd (m_aI 0 v3 t1) fun v4 =>
    m_bd (m_tI 0 v2 ((105 * x1) + t1) v4) fun _ =>
    m_rt (.inl (t1 + 1))
def fn_M_laysTurn (x0 : Option mA) (x1 : Int32) : mP Unit :=
  m_th 11 x0 <|
  m_bd (m_lp (fn_M_laysTurn_l2 x0 x1) m_F 0) fun (t5 : Unit) =>
  m_rt ()
set_option maxHeartbeats 4000000 in
set_option maxRecDepth 100000 in
theorem sd_M_laysTurn (x0 : Option mA) (x1 : Int32) : m_Sm k_M_laysTurn 1 0 0 [.inr (.inr x0), .inl x1] (fn_M_laysTurn x0 x1) (fun _ => none) := by
  refine ⟨Nat.le_of_ble_eq_true rfl, ?_⟩
  refine sm_th ?_
  refine sm_iconst (pc' := 1) d_M_laysTurn_0 rfl ic_0 (sm_istore_n (i := 2) (L' := [(2, .inl 0), (0, .inr (.inr x0)), (1, .inl x1)]) (pc' := 2) d_M_laysTurn_1 rfl rfl (Nat.le_of_ble_eq_true rfl) rfl ?_)
  refine sm_sub [0, 1, 2] rfl ?_
  refine sm_bd (mid := fun (t5 : Unit) => .inl (31, [], [])) (sm_lp (hd := fun (t1 : Int32) => (.inl (2, [(2, .inl t1), (0, .inr (.inr x0)), (1, .inl x1)], []) : mC)) (fun t1 => ?_) m_F 0) (fun t5 => ?_)
  · refine sm_iload_n (i := 2) (j := 0) (pc' := 3) d_M_laysTurn_2 rfl rfl rfl (sm_bipush (pc' := 5) d_M_laysTurn_3 rfl ib_105 ?_)
    refine sm_icmp_ge (tgt := 31) (pc' := 8) d_M_laysTurn_5 rfl rfl ?_ ?_
    · refine sm_sub [] rfl ?_
      exact sm_rt rfl
    · refine sm_aload_n (i := 0) (j := 1) (pc' := 9) d_M_laysTurn_8 rfl rfl rfl ?_
      refine sm_getR (pc' := 12) d_M_laysTurn_9 rfl fl_M_65 rfl rfl (fun v2 => ?_)
      refine sm_bipush (pc' := 14) d_M_laysTurn_12 rfl ib_105 (sm_iload_n (i := 1) (j := 2) (pc' := 15) d_M_laysTurn_14 rfl rfl rfl (sm_imul (pc' := 16) d_M_laysTurn_15 rfl (sm_iload_n (i := 2) (j := 0) (pc' := 17) d_M_laysTurn_16 rfl rfl rfl (sm_iadd (pc' := 18) d_M_laysTurn_17 rfl (sm_aload_n (i := 0) (j := 1) (pc' := 19) d_M_laysTurn_18 rfl rfl rfl ?_)))))
      refine sm_getR (pc' := 22) d_M_laysTurn_19 rfl fl_M_35 rfl rfl (fun v3 => ?_)
      refine sm_iload_n (i := 2) (j := 0) (pc' := 23) d_M_laysTurn_22 rfl rfl rfl ?_
      refine sm_iald (pc' := 24) d_M_laysTurn_23 rfl (fun v4 => ?_)
      refine sm_iast (pc' := 25) d_M_laysTurn_24 rfl (sm_iinc (j := 0) (L' := [(2, .inl (t1 + 1)), (0, .inr (.inr x0)), (1, .inl x1)]) (pc' := 28) d_M_laysTurn_25 rfl (v := (t1 + 1)) rfl (ix_1 _) (Nat.le_of_ble_eq_true rfl) rfl (sm_goto (tgt := 2) d_M_laysTurn_28 rfl (sm_sub [0, 1, 2] rfl ?_)))
      exact sm_rt rfl
  · exact sm_return d_M_laysTurn_31 rfl rfl
theorem d_M_moves_0 : m_D k_M_moves 0 (.iload_n 1) 1 := (by decide +kernel : decode prog_14_method_142_code 0 = .ok (.iload_n 1, 1))
theorem d_M_moves_1 : m_D k_M_moves 1 (.ifCond .ne 9) 3 := (by decide +kernel : decode prog_14_method_142_code 1 = .ok (.ifCond .ne 9, 3))
theorem d_M_moves_4 : m_D k_M_moves 4 (.aload_n 0) 1 := (by decide +kernel : decode prog_14_method_142_code 4 = .ok (.aload_n 0, 1))
theorem d_M_moves_5 : m_D k_M_moves 5 (.iload_n 3) 1 := (by decide +kernel : decode prog_14_method_142_code 5 = .ok (.iload_n 3, 1))
theorem d_M_moves_6 : m_D k_M_moves 6 (.invokevirtual 399) 3 := (by decide +kernel : decode prog_14_method_142_code 6 = .ok (.invokevirtual 399, 3))
theorem d_M_moves_9 : m_D k_M_moves 9 (.ireturn) 1 := (by decide +kernel : decode prog_14_method_142_code 9 = .ok (.ireturn, 1))
theorem d_M_moves_10 : m_D k_M_moves 10 (.iload_n 1) 1 := (by decide +kernel : decode prog_14_method_142_code 10 = .ok (.iload_n 1, 1))
theorem d_M_moves_11 : m_D k_M_moves 11 (.iconst 2) 1 := (by decide +kernel : decode prog_14_method_142_code 11 = .ok (.iconst 2, 1))
theorem d_M_moves_12 : m_D k_M_moves 12 (.if_icmp .ne 5) 3 := (by decide +kernel : decode prog_14_method_142_code 12 = .ok (.if_icmp .ne 5, 3))
theorem d_M_moves_15 : m_D k_M_moves 15 (.iconst 1) 1 := (by decide +kernel : decode prog_14_method_142_code 15 = .ok (.iconst 1, 1))
theorem d_M_moves_16 : m_D k_M_moves 16 (.ireturn) 1 := (by decide +kernel : decode prog_14_method_142_code 16 = .ok (.ireturn, 1))
theorem d_M_moves_17 : m_D k_M_moves 17 (.aload_n 0) 1 := (by decide +kernel : decode prog_14_method_142_code 17 = .ok (.aload_n 0, 1))
theorem d_M_moves_18 : m_D k_M_moves 18 (.iload_n 2) 1 := (by decide +kernel : decode prog_14_method_142_code 18 = .ok (.iload_n 2, 1))
theorem d_M_moves_19 : m_D k_M_moves 19 (.invokevirtual 319) 3 := (by decide +kernel : decode prog_14_method_142_code 19 = .ok (.invokevirtual 319, 3))
theorem d_M_moves_22 : m_D k_M_moves 22 (.ifCond .eq 5) 3 := (by decide +kernel : decode prog_14_method_142_code 22 = .ok (.ifCond .eq 5, 3))
theorem d_M_moves_25 : m_D k_M_moves 25 (.iconst 0) 1 := (by decide +kernel : decode prog_14_method_142_code 25 = .ok (.iconst 0, 1))
theorem d_M_moves_26 : m_D k_M_moves 26 (.ireturn) 1 := (by decide +kernel : decode prog_14_method_142_code 26 = .ok (.ireturn, 1))
theorem d_M_moves_27 : m_D k_M_moves 27 (.aload_n 0) 1 := (by decide +kernel : decode prog_14_method_142_code 27 = .ok (.aload_n 0, 1))
theorem d_M_moves_28 : m_D k_M_moves 28 (.getfield 35) 3 := (by decide +kernel : decode prog_14_method_142_code 28 = .ok (.getfield 35, 3))
theorem d_M_moves_31 : m_D k_M_moves 31 (.bipush 49) 2 := (by decide +kernel : decode prog_14_method_142_code 31 = .ok (.bipush 49, 2))
theorem d_M_moves_33 : m_D k_M_moves 33 (.iload_n 2) 1 := (by decide +kernel : decode prog_14_method_142_code 33 = .ok (.iload_n 2, 1))
theorem d_M_moves_34 : m_D k_M_moves 34 (.iadd) 1 := (by decide +kernel : decode prog_14_method_142_code 34 = .ok (.iadd, 1))
theorem d_M_moves_35 : m_D k_M_moves 35 (.iconst 3) 1 := (by decide +kernel : decode prog_14_method_142_code 35 = .ok (.iconst 3, 1))
theorem d_M_moves_36 : m_D k_M_moves 36 (.iastore) 1 := (by decide +kernel : decode prog_14_method_142_code 36 = .ok (.iastore, 1))
theorem d_M_moves_37 : m_D k_M_moves 37 (.iconst 1) 1 := (by decide +kernel : decode prog_14_method_142_code 37 = .ok (.iconst 1, 1))
theorem d_M_moves_38 : m_D k_M_moves 38 (.ireturn) 1 := (by decide +kernel : decode prog_14_method_142_code 38 = .ok (.ireturn, 1))
def fn_M_moves (x0 : Option mA) (x1 : Int32) (x2 : Int32) (x3 : Int32) : mP Int32 :=
  m_th 11 x0 <|
  if x1 = 0 then
    m_bd (fn_M_breathed x0 x3) fun v3 =>
    m_bd (m_cz v3) fun _ => m_rt v3
  else
    if x1 = 2 then
      m_rt 1
    else
      m_bd (fn_M_isThrough x0 x2) fun v1 =>
      if v1 = 0 then
        m_bd (m_gR 11 20 x0) fun v2 =>
        m_bd (m_tI 0 v2 (49 + x2) 3) fun _ =>
        m_rt 1
      else
        m_rt 0
set_option maxHeartbeats 4000000 in
set_option maxRecDepth 100000 in
theorem sd_M_moves (x0 : Option mA) (x1 : Int32) (x2 : Int32) (x3 : Int32) : m_Sm k_M_moves 3 0 0 [.inr (.inr x0), .inl x1, .inl x2, .inl x3] (fn_M_moves x0 x1 x2 x3) (fun b => some (.inl b)) := by
  refine ⟨Nat.le_of_ble_eq_true rfl, ?_⟩
  refine sm_th ?_
  refine sm_iload_n (i := 1) (j := 1) (pc' := 1) d_M_moves_0 rfl rfl rfl ?_
  refine sm_if_ne (tgt := 10) (pc' := 4) d_M_moves_1 rfl rfl ?_ ?_
  · refine sm_iload_n (i := 1) (j := 1) (pc' := 11) d_M_moves_10 rfl rfl rfl (sm_iconst (pc' := 12) d_M_moves_11 rfl ic_2 ?_)
    refine sm_icmp_ne (tgt := 17) (pc' := 15) d_M_moves_12 rfl rfl ?_ ?_
    · refine sm_aload_n (i := 0) (j := 0) (pc' := 18) d_M_moves_17 rfl rfl rfl (sm_iload_n (i := 2) (j := 2) (pc' := 19) d_M_moves_18 rfl rfl rfl ?_)
      refine sm_callVi (ci := 11) (x := x0) (av := [.inl x2]) (st := []) (mc := 0) (ms := 0) (pc' := 22) d_M_moves_19 rfl (sd_M_isThrough x0 x2) m_lv rfl cv_M_isThrough w_ml_M_319 rfl rfl (by decide) (Nat.le_of_ble_eq_true rfl) rfl rfl (fun v1 => ?_)
      refine sm_if_eq (tgt := 27) (pc' := 25) d_M_moves_22 rfl rfl ?_ ?_
      · refine sm_aload_n (i := 0) (j := 0) (pc' := 28) d_M_moves_27 rfl rfl rfl ?_
        refine sm_getR (pc' := 31) d_M_moves_28 rfl fl_M_35 rfl rfl (fun v2 => ?_)
        refine sm_bipush (pc' := 33) d_M_moves_31 rfl ib_49 (sm_iload_n (i := 2) (j := 2) (pc' := 34) d_M_moves_33 rfl rfl rfl (sm_iadd (pc' := 35) d_M_moves_34 rfl (sm_iconst (pc' := 36) d_M_moves_35 rfl ic_3 (sm_iast (pc' := 37) d_M_moves_36 rfl (sm_iconst (pc' := 38) d_M_moves_37 rfl ic_1 ?_)))))
        exact sm_zreturn d_M_moves_38 rfl (by decide) rfl
      · refine sm_iconst (pc' := 26) d_M_moves_25 rfl ic_0 ?_
        exact sm_zreturn d_M_moves_26 rfl (by decide) rfl
    · refine sm_iconst (pc' := 16) d_M_moves_15 rfl ic_1 ?_
      exact sm_zreturn d_M_moves_16 rfl (by decide) rfl
  · refine sm_aload_n (i := 0) (j := 0) (pc' := 5) d_M_moves_4 rfl rfl rfl (sm_iload_n (i := 3) (j := 3) (pc' := 6) d_M_moves_5 rfl rfl rfl ?_)
    refine sm_callVi (ci := 11) (x := x0) (av := [.inl x3]) (st := []) (mc := 0) (ms := 0) (pc' := 9) d_M_moves_6 rfl (sd_M_breathed x0 x3) m_lv rfl cv_M_breathed w_ml_M_399 rfl rfl (by decide) (Nat.le_of_ble_eq_true rfl) rfl rfl (fun v3 => ?_)
    exact sm_zretC d_M_moves_9 rfl rfl
theorem d_M_takesTurn_0 : m_D k_M_takesTurn 0 (.iconst 0) 1 := (by decide +kernel : decode prog_14_method_141_code 0 = .ok (.iconst 0, 1))
theorem d_M_takesTurn_1 : m_D k_M_takesTurn 1 (.istore_n 2) 1 := (by decide +kernel : decode prog_14_method_141_code 1 = .ok (.istore_n 2, 1))
theorem d_M_takesTurn_2 : m_D k_M_takesTurn 2 (.iload_n 2) 1 := (by decide +kernel : decode prog_14_method_141_code 2 = .ok (.iload_n 2, 1))
theorem d_M_takesTurn_3 : m_D k_M_takesTurn 3 (.bipush 105) 2 := (by decide +kernel : decode prog_14_method_141_code 3 = .ok (.bipush 105, 2))
theorem d_M_takesTurn_5 : m_D k_M_takesTurn 5 (.if_icmp .ge 26) 3 := (by decide +kernel : decode prog_14_method_141_code 5 = .ok (.if_icmp .ge 26, 3))
theorem d_M_takesTurn_8 : m_D k_M_takesTurn 8 (.aload_n 0) 1 := (by decide +kernel : decode prog_14_method_141_code 8 = .ok (.aload_n 0, 1))
theorem d_M_takesTurn_9 : m_D k_M_takesTurn 9 (.getfield 35) 3 := (by decide +kernel : decode prog_14_method_141_code 9 = .ok (.getfield 35, 3))
theorem d_M_takesTurn_12 : m_D k_M_takesTurn 12 (.iload_n 2) 1 := (by decide +kernel : decode prog_14_method_141_code 12 = .ok (.iload_n 2, 1))
theorem d_M_takesTurn_13 : m_D k_M_takesTurn 13 (.aload_n 0) 1 := (by decide +kernel : decode prog_14_method_141_code 13 = .ok (.aload_n 0, 1))
theorem d_M_takesTurn_14 : m_D k_M_takesTurn 14 (.getfield 65) 3 := (by decide +kernel : decode prog_14_method_141_code 14 = .ok (.getfield 65, 3))
theorem d_M_takesTurn_17 : m_D k_M_takesTurn 17 (.bipush 105) 2 := (by decide +kernel : decode prog_14_method_141_code 17 = .ok (.bipush 105, 2))
theorem d_M_takesTurn_19 : m_D k_M_takesTurn 19 (.iload_n 1) 1 := (by decide +kernel : decode prog_14_method_141_code 19 = .ok (.iload_n 1, 1))
theorem d_M_takesTurn_20 : m_D k_M_takesTurn 20 (.imul) 1 := (by decide +kernel : decode prog_14_method_141_code 20 = .ok (.imul, 1))
theorem d_M_takesTurn_21 : m_D k_M_takesTurn 21 (.iload_n 2) 1 := (by decide +kernel : decode prog_14_method_141_code 21 = .ok (.iload_n 2, 1))
theorem d_M_takesTurn_22 : m_D k_M_takesTurn 22 (.iadd) 1 := (by decide +kernel : decode prog_14_method_141_code 22 = .ok (.iadd, 1))
theorem d_M_takesTurn_23 : m_D k_M_takesTurn 23 (.iaload) 1 := (by decide +kernel : decode prog_14_method_141_code 23 = .ok (.iaload, 1))
theorem d_M_takesTurn_24 : m_D k_M_takesTurn 24 (.iastore) 1 := (by decide +kernel : decode prog_14_method_141_code 24 = .ok (.iastore, 1))
theorem d_M_takesTurn_25 : m_D k_M_takesTurn 25 (.iinc 2 1) 3 := (by decide +kernel : decode prog_14_method_141_code 25 = .ok (.iinc 2 1, 3))
theorem d_M_takesTurn_28 : m_D k_M_takesTurn 28 (.goto (-26)) 3 := (by decide +kernel : decode prog_14_method_141_code 28 = .ok (.goto (-26), 3))
theorem d_M_takesTurn_31 : m_D k_M_takesTurn 31 (.return_) 1 := (by decide +kernel : decode prog_14_method_141_code 31 = .ok (.return_, 1))
def fn_M_takesTurn_l2 (x0 : Option mA) (x1 : Int32) (t1 : Int32) : mP ((Int32) ⊕ (Unit)) :=
  if 105 ≤ t1 then
    m_rt (.inr ())
  else
    m_bd (m_gR 11 20 x0) fun v2 =>
    m_bd (m_gR 11 37 x0) fun v3 =>
    m_bd (m_aI 0 v3 ((105 * x1) + t1)) fun v4 =>
    m_bd (m_tI 0 v2 t1 v4) fun _ =>
    m_rt (.inl (t1 + 1))
def fn_M_takesTurn (x0 : Option mA) (x1 : Int32) : mP Unit :=
  m_th 11 x0 <|
  m_bd (m_lp (fn_M_takesTurn_l2 x0 x1) m_F 0) fun (t5 : Unit) =>
  m_rt ()
set_option maxHeartbeats 4000000 in
set_option maxRecDepth 100000 in
theorem sd_M_takesTurn (x0 : Option mA) (x1 : Int32) : m_Sm k_M_takesTurn 1 0 0 [.inr (.inr x0), .inl x1] (fn_M_takesTurn x0 x1) (fun _ => none) := by
  refine ⟨Nat.le_of_ble_eq_true rfl, ?_⟩
  refine sm_th ?_
  refine sm_iconst (pc' := 1) d_M_takesTurn_0 rfl ic_0 (sm_istore_n (i := 2) (L' := [(2, .inl 0), (0, .inr (.inr x0)), (1, .inl x1)]) (pc' := 2) d_M_takesTurn_1 rfl rfl (Nat.le_of_ble_eq_true rfl) rfl ?_)
  refine sm_sub [0, 1, 2] rfl ?_
  refine sm_bd (mid := fun (t5 : Unit) => .inl (31, [], [])) (sm_lp (hd := fun (t1 : Int32) => (.inl (2, [(2, .inl t1), (0, .inr (.inr x0)), (1, .inl x1)], []) : mC)) (fun t1 => ?_) m_F 0) (fun t5 => ?_)
  · refine sm_iload_n (i := 2) (j := 0) (pc' := 3) d_M_takesTurn_2 rfl rfl rfl (sm_bipush (pc' := 5) d_M_takesTurn_3 rfl ib_105 ?_)
    refine sm_icmp_ge (tgt := 31) (pc' := 8) d_M_takesTurn_5 rfl rfl ?_ ?_
    · refine sm_sub [] rfl ?_
      exact sm_rt rfl
    · refine sm_aload_n (i := 0) (j := 1) (pc' := 9) d_M_takesTurn_8 rfl rfl rfl ?_
      refine sm_getR (pc' := 12) d_M_takesTurn_9 rfl fl_M_35 rfl rfl (fun v2 => ?_)
      refine sm_iload_n (i := 2) (j := 0) (pc' := 13) d_M_takesTurn_12 rfl rfl rfl (sm_aload_n (i := 0) (j := 1) (pc' := 14) d_M_takesTurn_13 rfl rfl rfl ?_)
      refine sm_getR (pc' := 17) d_M_takesTurn_14 rfl fl_M_65 rfl rfl (fun v3 => ?_)
      refine sm_bipush (pc' := 19) d_M_takesTurn_17 rfl ib_105 (sm_iload_n (i := 1) (j := 2) (pc' := 20) d_M_takesTurn_19 rfl rfl rfl (sm_imul (pc' := 21) d_M_takesTurn_20 rfl (sm_iload_n (i := 2) (j := 0) (pc' := 22) d_M_takesTurn_21 rfl rfl rfl (sm_iadd (pc' := 23) d_M_takesTurn_22 rfl ?_))))
      refine sm_iald (pc' := 24) d_M_takesTurn_23 rfl (fun v4 => ?_)
      refine sm_iast (pc' := 25) d_M_takesTurn_24 rfl (sm_iinc (j := 0) (L' := [(2, .inl (t1 + 1)), (0, .inr (.inr x0)), (1, .inl x1)]) (pc' := 28) d_M_takesTurn_25 rfl (v := (t1 + 1)) rfl (ix_1 _) (Nat.le_of_ble_eq_true rfl) rfl (sm_goto (tgt := 2) d_M_takesTurn_28 rfl (sm_sub [0, 1, 2] rfl ?_)))
      exact sm_rt rfl
  · exact sm_return d_M_takesTurn_31 rfl rfl
theorem d_M_plays_0 : m_D k_M_plays 0 (.iload_n 3) 1 := (by decide +kernel : decode prog_14_method_143_code 0 = .ok (.iload_n 3, 1))
theorem d_M_plays_1 : m_D k_M_plays 1 (.iload 4) 2 := (by decide +kernel : decode prog_14_method_143_code 1 = .ok (.iload 4, 2))
theorem d_M_plays_3 : m_D k_M_plays 3 (.if_icmp .ne 23) 3 := (by decide +kernel : decode prog_14_method_143_code 3 = .ok (.if_icmp .ne 23, 3))
theorem d_M_plays_6 : m_D k_M_plays 6 (.aload_n 0) 1 := (by decide +kernel : decode prog_14_method_143_code 6 = .ok (.aload_n 0, 1))
theorem d_M_plays_7 : m_D k_M_plays 7 (.getfield 35) 3 := (by decide +kernel : decode prog_14_method_143_code 7 = .ok (.getfield 35, 3))
theorem d_M_plays_10 : m_D k_M_plays 10 (.bipush 41) 2 := (by decide +kernel : decode prog_14_method_143_code 10 = .ok (.bipush 41, 2))
theorem d_M_plays_12 : m_D k_M_plays 12 (.iload_n 2) 1 := (by decide +kernel : decode prog_14_method_143_code 12 = .ok (.iload_n 2, 1))
theorem d_M_plays_13 : m_D k_M_plays 13 (.iadd) 1 := (by decide +kernel : decode prog_14_method_143_code 13 = .ok (.iadd, 1))
theorem d_M_plays_14 : m_D k_M_plays 14 (.iaload) 1 := (by decide +kernel : decode prog_14_method_143_code 14 = .ok (.iaload, 1))
theorem d_M_plays_15 : m_D k_M_plays 15 (.aload_n 0) 1 := (by decide +kernel : decode prog_14_method_143_code 15 = .ok (.aload_n 0, 1))
theorem d_M_plays_16 : m_D k_M_plays 16 (.getfield 35) 3 := (by decide +kernel : decode prog_14_method_143_code 16 = .ok (.getfield 35, 3))
theorem d_M_plays_19 : m_D k_M_plays 19 (.bipush 41) 2 := (by decide +kernel : decode prog_14_method_143_code 19 = .ok (.bipush 41, 2))
theorem d_M_plays_21 : m_D k_M_plays 21 (.iload_n 1) 1 := (by decide +kernel : decode prog_14_method_143_code 21 = .ok (.iload_n 1, 1))
theorem d_M_plays_22 : m_D k_M_plays 22 (.iadd) 1 := (by decide +kernel : decode prog_14_method_143_code 22 = .ok (.iadd, 1))
theorem d_M_plays_23 : m_D k_M_plays 23 (.iaload) 1 := (by decide +kernel : decode prog_14_method_143_code 23 = .ok (.iaload, 1))
theorem d_M_plays_24 : m_D k_M_plays 24 (.isub) 1 := (by decide +kernel : decode prog_14_method_143_code 24 = .ok (.isub, 1))
theorem d_M_plays_25 : m_D k_M_plays 25 (.ireturn) 1 := (by decide +kernel : decode prog_14_method_143_code 25 = .ok (.ireturn, 1))
theorem d_M_plays_26 : m_D k_M_plays 26 (.iload_n 3) 1 := (by decide +kernel : decode prog_14_method_143_code 26 = .ok (.iload_n 3, 1))
theorem d_M_plays_27 : m_D k_M_plays 27 (.iconst 2) 1 := (by decide +kernel : decode prog_14_method_143_code 27 = .ok (.iconst 2, 1))
theorem d_M_plays_28 : m_D k_M_plays 28 (.irem) 1 := (by decide +kernel : decode prog_14_method_143_code 28 = .ok (.irem, 1))
theorem d_M_plays_29 : m_D k_M_plays 29 (.ifCond .ne 7) 3 := (by decide +kernel : decode prog_14_method_143_code 29 = .ok (.ifCond .ne 7, 3))
theorem d_M_plays_32 : m_D k_M_plays 32 (.iconst 1) 1 := (by decide +kernel : decode prog_14_method_143_code 32 = .ok (.iconst 1, 1))
theorem d_M_plays_33 : m_D k_M_plays 33 (.goto 4) 3 := (by decide +kernel : decode prog_14_method_143_code 33 = .ok (.goto 4, 3))
theorem d_M_plays_36 : m_D k_M_plays 36 (.iconst 0) 1 := (by decide +kernel : decode prog_14_method_143_code 36 = .ok (.iconst 0, 1))
theorem d_M_plays_37 : m_D k_M_plays 37 (.istore 5) 2 := (by decide +kernel : decode prog_14_method_143_code 37 = .ok (.istore 5, 2))
theorem d_M_plays_39 : m_D k_M_plays 39 (.iconst 0) 1 := (by decide +kernel : decode prog_14_method_143_code 39 = .ok (.iconst 0, 1))
theorem d_M_plays_40 : m_D k_M_plays 40 (.istore 6) 2 := (by decide +kernel : decode prog_14_method_143_code 40 = .ok (.istore 6, 2))
theorem d_M_plays_42 : m_D k_M_plays 42 (.iconst (-1)) 1 := (by decide +kernel : decode prog_14_method_143_code 42 = .ok (.iconst (-1), 1))
theorem d_M_plays_43 : m_D k_M_plays 43 (.istore 7) 2 := (by decide +kernel : decode prog_14_method_143_code 43 = .ok (.istore 7, 2))
theorem d_M_plays_45 : m_D k_M_plays 45 (.aload_n 0) 1 := (by decide +kernel : decode prog_14_method_143_code 45 = .ok (.aload_n 0, 1))
theorem d_M_plays_46 : m_D k_M_plays 46 (.iload_n 3) 1 := (by decide +kernel : decode prog_14_method_143_code 46 = .ok (.iload_n 3, 1))
theorem d_M_plays_47 : m_D k_M_plays 47 (.invokevirtual 492) 3 := (by decide +kernel : decode prog_14_method_143_code 47 = .ok (.invokevirtual 492, 3))
theorem d_M_plays_50 : m_D k_M_plays 50 (.iconst 0) 1 := (by decide +kernel : decode prog_14_method_143_code 50 = .ok (.iconst 0, 1))
theorem d_M_plays_51 : m_D k_M_plays 51 (.istore 8) 2 := (by decide +kernel : decode prog_14_method_143_code 51 = .ok (.istore 8, 2))
theorem d_M_plays_53 : m_D k_M_plays 53 (.iload 8) 2 := (by decide +kernel : decode prog_14_method_143_code 53 = .ok (.iload 8, 2))
theorem d_M_plays_55 : m_D k_M_plays 55 (.iconst 3) 1 := (by decide +kernel : decode prog_14_method_143_code 55 = .ok (.iconst 3, 1))
theorem d_M_plays_56 : m_D k_M_plays 56 (.if_icmp .ge 101) 3 := (by decide +kernel : decode prog_14_method_143_code 56 = .ok (.if_icmp .ge 101, 3))
theorem d_M_plays_59 : m_D k_M_plays 59 (.aload_n 0) 1 := (by decide +kernel : decode prog_14_method_143_code 59 = .ok (.aload_n 0, 1))
theorem d_M_plays_60 : m_D k_M_plays 60 (.iload 8) 2 := (by decide +kernel : decode prog_14_method_143_code 60 = .ok (.iload 8, 2))
theorem d_M_plays_62 : m_D k_M_plays 62 (.iload 5) 2 := (by decide +kernel : decode prog_14_method_143_code 62 = .ok (.iload 5, 2))
theorem d_M_plays_64 : m_D k_M_plays 64 (.ifCond .eq 7) 3 := (by decide +kernel : decode prog_14_method_143_code 64 = .ok (.ifCond .eq 7, 3))
theorem d_M_plays_67 : m_D k_M_plays 67 (.iload_n 1) 1 := (by decide +kernel : decode prog_14_method_143_code 67 = .ok (.iload_n 1, 1))
theorem d_M_plays_68 : m_D k_M_plays 68 (.goto 4) 3 := (by decide +kernel : decode prog_14_method_143_code 68 = .ok (.goto 4, 3))
theorem d_M_plays_71 : m_D k_M_plays 71 (.iload_n 2) 1 := (by decide +kernel : decode prog_14_method_143_code 71 = .ok (.iload_n 2, 1))
theorem d_M_plays_72 : m_D k_M_plays 72 (.iload 5) 2 := (by decide +kernel : decode prog_14_method_143_code 72 = .ok (.iload 5, 2))
theorem d_M_plays_74 : m_D k_M_plays 74 (.ifCond .eq 7) 3 := (by decide +kernel : decode prog_14_method_143_code 74 = .ok (.ifCond .eq 7, 3))
theorem d_M_plays_77 : m_D k_M_plays 77 (.iload_n 2) 1 := (by decide +kernel : decode prog_14_method_143_code 77 = .ok (.iload_n 2, 1))
theorem d_M_plays_78 : m_D k_M_plays 78 (.goto 4) 3 := (by decide +kernel : decode prog_14_method_143_code 78 = .ok (.goto 4, 3))
theorem d_M_plays_81 : m_D k_M_plays 81 (.iload_n 1) 1 := (by decide +kernel : decode prog_14_method_143_code 81 = .ok (.iload_n 1, 1))
theorem d_M_plays_82 : m_D k_M_plays 82 (.invokevirtual 495) 3 := (by decide +kernel : decode prog_14_method_143_code 82 = .ok (.invokevirtual 495, 3))
theorem d_M_plays_85 : m_D k_M_plays 85 (.ifCond .ne 6) 3 := (by decide +kernel : decode prog_14_method_143_code 85 = .ok (.ifCond .ne 6, 3))
theorem d_M_plays_88 : m_D k_M_plays 88 (.goto 63) 3 := (by decide +kernel : decode prog_14_method_143_code 88 = .ok (.goto 63, 3))
theorem d_M_plays_91 : m_D k_M_plays 91 (.aload_n 0) 1 := (by decide +kernel : decode prog_14_method_143_code 91 = .ok (.aload_n 0, 1))
theorem d_M_plays_92 : m_D k_M_plays 92 (.invokevirtual 386) 3 := (by decide +kernel : decode prog_14_method_143_code 92 = .ok (.invokevirtual 386, 3))
theorem d_M_plays_95 : m_D k_M_plays 95 (.aload_n 0) 1 := (by decide +kernel : decode prog_14_method_143_code 95 = .ok (.aload_n 0, 1))
theorem d_M_plays_96 : m_D k_M_plays 96 (.iload_n 1) 1 := (by decide +kernel : decode prog_14_method_143_code 96 = .ok (.iload_n 1, 1))
theorem d_M_plays_97 : m_D k_M_plays 97 (.iload_n 2) 1 := (by decide +kernel : decode prog_14_method_143_code 97 = .ok (.iload_n 2, 1))
theorem d_M_plays_98 : m_D k_M_plays 98 (.iload_n 3) 1 := (by decide +kernel : decode prog_14_method_143_code 98 = .ok (.iload_n 3, 1))
theorem d_M_plays_99 : m_D k_M_plays 99 (.iconst 1) 1 := (by decide +kernel : decode prog_14_method_143_code 99 = .ok (.iconst 1, 1))
theorem d_M_plays_100 : m_D k_M_plays 100 (.iadd) 1 := (by decide +kernel : decode prog_14_method_143_code 100 = .ok (.iadd, 1))
theorem d_M_plays_101 : m_D k_M_plays 101 (.iload 4) 2 := (by decide +kernel : decode prog_14_method_143_code 101 = .ok (.iload 4, 2))
theorem d_M_plays_103 : m_D k_M_plays 103 (.invokevirtual 498) 3 := (by decide +kernel : decode prog_14_method_143_code 103 = .ok (.invokevirtual 498, 3))
theorem d_M_plays_106 : m_D k_M_plays 106 (.istore 9) 2 := (by decide +kernel : decode prog_14_method_143_code 106 = .ok (.istore 9, 2))
theorem d_M_plays_108 : m_D k_M_plays 108 (.aload_n 0) 1 := (by decide +kernel : decode prog_14_method_143_code 108 = .ok (.aload_n 0, 1))
theorem d_M_plays_109 : m_D k_M_plays 109 (.iload_n 3) 1 := (by decide +kernel : decode prog_14_method_143_code 109 = .ok (.iload_n 3, 1))
theorem d_M_plays_110 : m_D k_M_plays 110 (.invokevirtual 502) 3 := (by decide +kernel : decode prog_14_method_143_code 110 = .ok (.invokevirtual 502, 3))
theorem d_M_plays_113 : m_D k_M_plays 113 (.iload 7) 2 := (by decide +kernel : decode prog_14_method_143_code 113 = .ok (.iload 7, 2))
theorem d_M_plays_115 : m_D k_M_plays 115 (.ifCond .lt 28) 3 := (by decide +kernel : decode prog_14_method_143_code 115 = .ok (.ifCond .lt 28, 3))
theorem d_M_plays_118 : m_D k_M_plays 118 (.iload 5) 2 := (by decide +kernel : decode prog_14_method_143_code 118 = .ok (.iload 5, 2))
theorem d_M_plays_120 : m_D k_M_plays 120 (.ifCond .eq 13) 3 := (by decide +kernel : decode prog_14_method_143_code 120 = .ok (.ifCond .eq 13, 3))
theorem d_M_plays_123 : m_D k_M_plays 123 (.iload 9) 2 := (by decide +kernel : decode prog_14_method_143_code 123 = .ok (.iload 9, 2))
theorem d_M_plays_125 : m_D k_M_plays 125 (.iload 6) 2 := (by decide +kernel : decode prog_14_method_143_code 125 = .ok (.iload 6, 2))
theorem d_M_plays_127 : m_D k_M_plays 127 (.if_icmp .gt 16) 3 := (by decide +kernel : decode prog_14_method_143_code 127 = .ok (.if_icmp .gt 16, 3))
theorem d_M_plays_130 : m_D k_M_plays 130 (.goto 21) 3 := (by decide +kernel : decode prog_14_method_143_code 130 = .ok (.goto 21, 3))
theorem d_M_plays_133 : m_D k_M_plays 133 (.iload 9) 2 := (by decide +kernel : decode prog_14_method_143_code 133 = .ok (.iload 9, 2))
theorem d_M_plays_135 : m_D k_M_plays 135 (.iload 6) 2 := (by decide +kernel : decode prog_14_method_143_code 135 = .ok (.iload 6, 2))
theorem d_M_plays_137 : m_D k_M_plays 137 (.if_icmp .lt 6) 3 := (by decide +kernel : decode prog_14_method_143_code 137 = .ok (.if_icmp .lt 6, 3))
theorem d_M_plays_140 : m_D k_M_plays 140 (.goto 11) 3 := (by decide +kernel : decode prog_14_method_143_code 140 = .ok (.goto 11, 3))
theorem d_M_plays_143 : m_D k_M_plays 143 (.iload 9) 2 := (by decide +kernel : decode prog_14_method_143_code 143 = .ok (.iload 9, 2))
theorem d_M_plays_145 : m_D k_M_plays 145 (.istore 6) 2 := (by decide +kernel : decode prog_14_method_143_code 145 = .ok (.istore 6, 2))
theorem d_M_plays_147 : m_D k_M_plays 147 (.iload 8) 2 := (by decide +kernel : decode prog_14_method_143_code 147 = .ok (.iload 8, 2))
theorem d_M_plays_149 : m_D k_M_plays 149 (.istore 7) 2 := (by decide +kernel : decode prog_14_method_143_code 149 = .ok (.istore 7, 2))
theorem d_M_plays_151 : m_D k_M_plays 151 (.iinc 8 1) 3 := (by decide +kernel : decode prog_14_method_143_code 151 = .ok (.iinc 8 1, 3))
theorem d_M_plays_154 : m_D k_M_plays 154 (.goto (-101)) 3 := (by decide +kernel : decode prog_14_method_143_code 154 = .ok (.goto (-101), 3))
theorem d_M_plays_157 : m_D k_M_plays 157 (.iload_n 3) 1 := (by decide +kernel : decode prog_14_method_143_code 157 = .ok (.iload_n 3, 1))
theorem d_M_plays_158 : m_D k_M_plays 158 (.ifCond .ne 9) 3 := (by decide +kernel : decode prog_14_method_143_code 158 = .ok (.ifCond .ne 9, 3))
theorem d_M_plays_161 : m_D k_M_plays 161 (.aload_n 0) 1 := (by decide +kernel : decode prog_14_method_143_code 161 = .ok (.aload_n 0, 1))
theorem d_M_plays_162 : m_D k_M_plays 162 (.iload 7) 2 := (by decide +kernel : decode prog_14_method_143_code 162 = .ok (.iload 7, 2))
theorem d_M_plays_164 : m_D k_M_plays 164 (.putfield 505) 3 := (by decide +kernel : decode prog_14_method_143_code 164 = .ok (.putfield 505, 3))
theorem d_M_plays_167 : m_D k_M_plays 167 (.iload 6) 2 := (by decide +kernel : decode prog_14_method_143_code 167 = .ok (.iload 6, 2))
theorem d_M_plays_169 : m_D k_M_plays 169 (.ireturn) 1 := (by decide +kernel : decode prog_14_method_143_code 169 = .ok (.ireturn, 1))
def fn_M_plays_l53 (r : Option mA → Int32 → Int32 → Int32 → Int32 → mP Int32) (x0 : Option mA) (x1 : Int32) (x2 : Int32) (x3 : Int32) (x4 : Int32) (t1 : Int32) (t2 : Int32 × Int32 × Int32) : mP ((Int32 × Int32 × Int32) ⊕ (Int32 × Int32)) :=
  if 3 ≤ t2.2.2 then
    m_rt (.inr (t2.1, t2.2.1))
  else
    m_bd (α := Int32) (
      if t1 = 0 then
        m_rt x2
      else
        m_rt x1
      ) fun (t3 : Int32) =>
    m_bd (α := Int32) (
      if t1 = 0 then
        m_rt x1
      else
        m_rt x2
      ) fun (t4 : Int32) =>
    m_bd (fn_M_moves x0 t2.2.2 t3 t4) fun v5 =>
    m_bd (α := Int32 × Int32) (
      if v5 = 0 then
        m_rt (t2.1, t2.2.1)
      else
        m_bd (fn_M_goesYear x0) fun _ =>
        m_bd (r x0 x1 x2 (x3 + 1) x4) fun v6 =>
        m_bd (fn_M_takesTurn x0 x3) fun _ =>
        if t2.2.1 < 0 then
          m_rt (v6, t2.2.2)
        else
          if t1 = 0 then
            if v6 < t2.1 then
              m_rt (v6, t2.2.2)
            else
              m_rt (t2.1, t2.2.1)
          else
            if t2.1 < v6 then
              m_rt (v6, t2.2.2)
            else
              m_rt (t2.1, t2.2.1)
      ) fun (t7 : Int32 × Int32) =>
    m_rt (.inl (t7.1, t7.2, (t2.2.2 + 1)))
def fn_M_plays_r (r : Option mA → Int32 → Int32 → Int32 → Int32 → mP Int32) (x0 : Option mA) (x1 : Int32) (x2 : Int32) (x3 : Int32) (x4 : Int32) : mP Int32 :=
  m_th 11 x0 <|
  if x3 = x4 then
    m_bd (m_gR 11 20 x0) fun v9 =>
    m_bd (m_aI 0 v9 (41 + x2)) fun v10 =>
    m_bd (m_gR 11 20 x0) fun v11 =>
    m_bd (m_aI 0 v11 (41 + x1)) fun v12 =>
    m_rt (v10 - v12)
  else
    m_bd (α := Int32) (
      if (iR x3 2) = 0 then
        m_rt 1
      else
        m_rt 0
      ) fun (t1 : Int32) =>
    m_bd (fn_M_laysTurn x0 x3) fun _ =>
    m_bd (m_lp (fn_M_plays_l53 r x0 x1 x2 x3 x4 t1) m_F (0, (-1), 0)) fun (t8 : Int32 × Int32) =>
    if x3 = 0 then
      m_bd (m_pI 11 38 x0 t8.2) fun _ =>
      m_rt t8.1
    else
      m_rt t8.1
set_option maxHeartbeats 4000000 in
set_option maxRecDepth 100000 in
theorem sd_M_plays_r (r : Option mA → Int32 → Int32 → Int32 → Int32 → mP Int32) (dr : Nat) (hr : ∀ (y0 : Option mA) (y1 : Int32) (y2 : Int32) (y3 : Int32) (y4 : Int32), m_Sm k_M_plays dr 0 0 [.inr (.inr y0), .inl y1, .inl y2, .inl y3, .inl y4] (r y0 y1 y2 y3 y4) (fun b => some (.inl b))) (hv : ∀ (y0 : Option mA) (y1 : Int32) (y2 : Int32) (y3 : Int32) (y4 : Int32), m_Lv 11 y0 (r y0 y1 y2 y3 y4)) (x0 : Option mA) (x1 : Int32) (x2 : Int32) (x3 : Int32) (x4 : Int32) : m_Sm k_M_plays ((max 5 (dr + 1))) 0 0 [.inr (.inr x0), .inl x1, .inl x2, .inl x3, .inl x4] (fn_M_plays_r r x0 x1 x2 x3 x4) (fun b => some (.inl b)) := by
  refine ⟨Nat.le_of_ble_eq_true rfl, ?_⟩
  refine sm_th ?_
  refine sm_iload_n (i := 3) (j := 3) (pc' := 1) d_M_plays_0 rfl rfl rfl (sm_iload (j := 4) (pc' := 3) d_M_plays_1 rfl rfl ?_)
  refine sm_icmp_ne (tgt := 26) (pc' := 6) d_M_plays_3 rfl rfl ?_ ?_
  · refine sm_iload_n (i := 3) (j := 3) (pc' := 27) d_M_plays_26 rfl rfl rfl (sm_iconst (pc' := 28) d_M_plays_27 rfl ic_2 (sm_irem (pc' := 29) d_M_plays_28 rfl (by decide) ?_))
    refine sm_bd (mid := fun (t1 : Int32) => .inl (37, [(0, .inr (.inr x0)), (1, .inl x1), (2, .inl x2), (3, .inl x3), (4, .inl x4)], [.inl t1])) ?_ (fun t1 => ?_)
    · refine sm_if_ne (tgt := 36) (pc' := 32) d_M_plays_29 rfl rfl ?_ ?_
      · refine sm_iconst (pc' := 37) d_M_plays_36 rfl ic_0 (sm_sub [0, 1, 2, 3, 4] rfl ?_)
        exact sm_rt rfl
      · refine sm_iconst (pc' := 33) d_M_plays_32 rfl ic_1 (sm_goto (tgt := 37) d_M_plays_33 rfl (sm_sub [0, 1, 2, 3, 4] rfl ?_))
        exact sm_rt rfl
    · refine sm_istore (L' := [(5, .inl t1), (0, .inr (.inr x0)), (1, .inl x1), (2, .inl x2), (3, .inl x3), (4, .inl x4)]) (pc' := 39) d_M_plays_37 rfl (Nat.le_of_ble_eq_true rfl) rfl (sm_iconst (pc' := 40) d_M_plays_39 rfl ic_0 (sm_istore (L' := [(6, .inl 0), (5, .inl t1), (0, .inr (.inr x0)), (1, .inl x1), (2, .inl x2), (3, .inl x3), (4, .inl x4)]) (pc' := 42) d_M_plays_40 rfl (Nat.le_of_ble_eq_true rfl) rfl (sm_iconst (pc' := 43) d_M_plays_42 rfl ic_m1 (sm_istore (L' := [(7, .inl (-1)), (6, .inl 0), (5, .inl t1), (0, .inr (.inr x0)), (1, .inl x1), (2, .inl x2), (3, .inl x3), (4, .inl x4)]) (pc' := 45) d_M_plays_43 rfl (Nat.le_of_ble_eq_true rfl) rfl (sm_aload_n (i := 0) (j := 3) (pc' := 46) d_M_plays_45 rfl rfl rfl (sm_iload_n (i := 3) (j := 6) (pc' := 47) d_M_plays_46 rfl rfl rfl ?_))))))
      refine sm_callVv (ci := 11) (x := x0) (av := [.inl x3]) (st := []) (mc := 0) (ms := 0) (pc' := 50) d_M_plays_47 rfl (sd_M_laysTurn x0 x3) m_lv rfl cv_M_laysTurn w_ml_M_492 rfl rfl (by omega) (Nat.le_of_ble_eq_true rfl) rfl rfl ?_
      refine sm_iconst (pc' := 51) d_M_plays_50 rfl ic_0 (sm_istore (L' := [(8, .inl 0), (7, .inl (-1)), (6, .inl 0), (5, .inl t1), (0, .inr (.inr x0)), (1, .inl x1), (2, .inl x2), (3, .inl x3), (4, .inl x4)]) (pc' := 53) d_M_plays_51 rfl (Nat.le_of_ble_eq_true rfl) rfl ?_)
      refine sm_sub [2, 1, 0, 4, 5, 6, 7, 8, 3] rfl ?_
      refine sm_bd (mid := fun (t8 : Int32 × Int32) => .inl (157, [(6, .inl t8.1), (7, .inl t8.2), (0, .inr (.inr x0)), (3, .inl x3)], [])) (sm_lp (hd := fun (t2 : Int32 × Int32 × Int32) => (.inl (53, [(6, .inl t2.1), (7, .inl t2.2.1), (8, .inl t2.2.2), (0, .inr (.inr x0)), (1, .inl x1), (2, .inl x2), (3, .inl x3), (4, .inl x4), (5, .inl t1)], []) : mC)) (fun t2 => ?_) m_F (0, (-1), 0)) (fun t8 => ?_)
      · refine sm_iload (j := 2) (pc' := 55) d_M_plays_53 rfl rfl (sm_iconst (pc' := 56) d_M_plays_55 rfl ic_3 ?_)
        refine sm_icmp_ge (tgt := 157) (pc' := 59) d_M_plays_56 rfl rfl ?_ ?_
        · refine sm_sub [0, 1, 3, 6] rfl ?_
          exact sm_rt rfl
        · refine sm_aload_n (i := 0) (j := 3) (pc' := 60) d_M_plays_59 rfl rfl rfl (sm_iload (j := 2) (pc' := 62) d_M_plays_60 rfl rfl (sm_iload (j := 8) (pc' := 64) d_M_plays_62 rfl rfl ?_))
          refine sm_bd (mid := fun (t3 : Int32) => .inl (72, [(0, .inr (.inr x0)), (1, .inl x1), (2, .inl x2), (3, .inl x3), (4, .inl x4), (5, .inl t1), (6, .inl t2.1), (7, .inl t2.2.1), (8, .inl t2.2.2)], [.inl t3, .inl t2.2.2, .inr (.inr x0)])) ?_ (fun t3 => ?_)
          · refine sm_if_eq (tgt := 71) (pc' := 67) d_M_plays_64 rfl rfl ?_ ?_
            · refine sm_iload_n (i := 2) (j := 5) (pc' := 72) d_M_plays_71 rfl rfl rfl (sm_sub [3, 4, 5, 6, 7, 8, 0, 1, 2] rfl ?_)
              exact sm_rt rfl
            · refine sm_iload_n (i := 1) (j := 4) (pc' := 68) d_M_plays_67 rfl rfl rfl (sm_goto (tgt := 72) d_M_plays_68 rfl (sm_sub [3, 4, 5, 6, 7, 8, 0, 1, 2] rfl ?_))
              exact sm_rt rfl
          · refine sm_iload (j := 5) (pc' := 74) d_M_plays_72 rfl rfl ?_
            refine sm_bd (mid := fun (t4 : Int32) => .inl (82, [(0, .inr (.inr x0)), (1, .inl x1), (2, .inl x2), (3, .inl x3), (4, .inl x4), (5, .inl t1), (6, .inl t2.1), (7, .inl t2.2.1), (8, .inl t2.2.2)], [.inl t4, .inl t3, .inl t2.2.2, .inr (.inr x0)])) ?_ (fun t4 => ?_)
            · refine sm_if_eq (tgt := 81) (pc' := 77) d_M_plays_74 rfl rfl ?_ ?_
              · refine sm_iload_n (i := 1) (j := 1) (pc' := 82) d_M_plays_81 rfl rfl rfl (sm_sub [0, 1, 2, 3, 4, 5, 6, 7, 8] rfl ?_)
                exact sm_rt rfl
              · refine sm_iload_n (i := 2) (j := 2) (pc' := 78) d_M_plays_77 rfl rfl rfl (sm_goto (tgt := 82) d_M_plays_78 rfl (sm_sub [0, 1, 2, 3, 4, 5, 6, 7, 8] rfl ?_))
                exact sm_rt rfl
            · refine sm_callVi (ci := 11) (x := x0) (av := [.inl t2.2.2, .inl t3, .inl t4]) (st := []) (mc := 0) (ms := 0) (pc' := 85) d_M_plays_82 rfl (sd_M_moves x0 t2.2.2 t3 t4) m_lv rfl cv_M_moves w_ml_M_495 rfl rfl (by omega) (Nat.le_of_ble_eq_true rfl) rfl rfl (fun v5 => ?_)
              refine sm_bd (mid := fun (t7 : Int32 × Int32) => .inl (151, [(0, .inr (.inr x0)), (1, .inl x1), (2, .inl x2), (3, .inl x3), (4, .inl x4), (5, .inl t1), (6, .inl t7.1), (7, .inl t7.2), (8, .inl t2.2.2)], [])) ?_ (fun t7 => ?_)
              · refine sm_if_ne (tgt := 91) (pc' := 88) d_M_plays_85 rfl rfl ?_ ?_
                · refine sm_aload_n (i := 0) (j := 0) (pc' := 92) d_M_plays_91 rfl rfl rfl ?_
                  refine sm_callVv (ci := 11) (x := x0) (av := []) (st := []) (mc := 0) (ms := 0) (pc' := 95) d_M_plays_92 rfl (sd_M_goesYear x0) m_lv rfl cv_M_goesYear w_ml_M_386 rfl rfl (by omega) (Nat.le_of_ble_eq_true rfl) rfl rfl ?_
                  refine sm_aload_n (i := 0) (j := 0) (pc' := 96) d_M_plays_95 rfl rfl rfl (sm_iload_n (i := 1) (j := 1) (pc' := 97) d_M_plays_96 rfl rfl rfl (sm_iload_n (i := 2) (j := 2) (pc' := 98) d_M_plays_97 rfl rfl rfl (sm_iload_n (i := 3) (j := 3) (pc' := 99) d_M_plays_98 rfl rfl rfl (sm_iconst (pc' := 100) d_M_plays_99 rfl ic_1 (sm_iadd (pc' := 101) d_M_plays_100 rfl (sm_iload (j := 4) (pc' := 103) d_M_plays_101 rfl rfl ?_))))))
                  refine sm_callVi (ci := 11) (x := x0) (av := [.inl x1, .inl x2, .inl (x3 + 1), .inl x4]) (st := []) (mc := 0) (ms := 0) (pc' := 106) d_M_plays_103 rfl (hr x0 x1 x2 (x3 + 1) x4) (hv x0 x1 x2 (x3 + 1) x4) rfl cv_M_plays w_ml_M_498 rfl rfl (by omega) (Nat.le_of_ble_eq_true rfl) rfl rfl (fun v6 => ?_)
                  refine sm_istore (L' := [(9, .inl v6), (0, .inr (.inr x0)), (1, .inl x1), (2, .inl x2), (3, .inl x3), (4, .inl x4), (5, .inl t1), (6, .inl t2.1), (7, .inl t2.2.1), (8, .inl t2.2.2)]) (pc' := 108) d_M_plays_106 rfl (Nat.le_of_ble_eq_true rfl) rfl (sm_aload_n (i := 0) (j := 1) (pc' := 109) d_M_plays_108 rfl rfl rfl (sm_iload_n (i := 3) (j := 4) (pc' := 110) d_M_plays_109 rfl rfl rfl ?_))
                  refine sm_callVv (ci := 11) (x := x0) (av := [.inl x3]) (st := []) (mc := 0) (ms := 0) (pc' := 113) d_M_plays_110 rfl (sd_M_takesTurn x0 x3) m_lv rfl cv_M_takesTurn w_ml_M_502 rfl rfl (by omega) (Nat.le_of_ble_eq_true rfl) rfl rfl ?_
                  refine sm_iload (j := 8) (pc' := 115) d_M_plays_113 rfl rfl ?_
                  refine sm_if_lt (tgt := 143) (pc' := 118) d_M_plays_115 rfl rfl ?_ ?_
                  · refine sm_iload (j := 0) (pc' := 145) d_M_plays_143 rfl rfl (sm_istore (L' := [(6, .inl v6), (9, .inl v6), (0, .inr (.inr x0)), (1, .inl x1), (2, .inl x2), (3, .inl x3), (4, .inl x4), (5, .inl t1), (7, .inl t2.2.1), (8, .inl t2.2.2)]) (pc' := 147) d_M_plays_145 rfl (Nat.le_of_ble_eq_true rfl) rfl (sm_iload (j := 9) (pc' := 149) d_M_plays_147 rfl rfl (sm_istore (L' := [(7, .inl t2.2.2), (6, .inl v6), (9, .inl v6), (0, .inr (.inr x0)), (1, .inl x1), (2, .inl x2), (3, .inl x3), (4, .inl x4), (5, .inl t1), (8, .inl t2.2.2)]) (pc' := 151) d_M_plays_149 rfl (Nat.le_of_ble_eq_true rfl) rfl (sm_sub [3, 4, 5, 6, 7, 8, 1, 0, 9] rfl ?_))))
                    exact sm_rt rfl
                  · refine sm_iload (j := 6) (pc' := 120) d_M_plays_118 rfl rfl ?_
                    refine sm_if_eq (tgt := 133) (pc' := 123) d_M_plays_120 rfl rfl ?_ ?_
                    · refine sm_iload (j := 0) (pc' := 135) d_M_plays_133 rfl rfl (sm_iload (j := 7) (pc' := 137) d_M_plays_135 rfl rfl ?_)
                      refine sm_icmp_lt (tgt := 143) (pc' := 140) d_M_plays_137 rfl rfl ?_ ?_
                      · refine sm_iload (j := 0) (pc' := 145) d_M_plays_143 rfl rfl (sm_istore (L' := [(6, .inl v6), (9, .inl v6), (0, .inr (.inr x0)), (1, .inl x1), (2, .inl x2), (3, .inl x3), (4, .inl x4), (5, .inl t1), (7, .inl t2.2.1), (8, .inl t2.2.2)]) (pc' := 147) d_M_plays_145 rfl (Nat.le_of_ble_eq_true rfl) rfl (sm_iload (j := 9) (pc' := 149) d_M_plays_147 rfl rfl (sm_istore (L' := [(7, .inl t2.2.2), (6, .inl v6), (9, .inl v6), (0, .inr (.inr x0)), (1, .inl x1), (2, .inl x2), (3, .inl x3), (4, .inl x4), (5, .inl t1), (8, .inl t2.2.2)]) (pc' := 151) d_M_plays_149 rfl (Nat.le_of_ble_eq_true rfl) rfl (sm_sub [3, 4, 5, 6, 7, 8, 1, 0, 9] rfl ?_))))
                        exact sm_rt rfl
                      · refine sm_goto (tgt := 151) d_M_plays_140 rfl (sm_sub [1, 2, 3, 4, 5, 6, 7, 8, 9] rfl ?_)
                        exact sm_rt rfl
                    · refine sm_iload (j := 0) (pc' := 125) d_M_plays_123 rfl rfl (sm_iload (j := 7) (pc' := 127) d_M_plays_125 rfl rfl ?_)
                      refine sm_icmp_gt (tgt := 143) (pc' := 130) d_M_plays_127 rfl rfl ?_ ?_
                      · refine sm_iload (j := 0) (pc' := 145) d_M_plays_143 rfl rfl (sm_istore (L' := [(6, .inl v6), (9, .inl v6), (0, .inr (.inr x0)), (1, .inl x1), (2, .inl x2), (3, .inl x3), (4, .inl x4), (5, .inl t1), (7, .inl t2.2.1), (8, .inl t2.2.2)]) (pc' := 147) d_M_plays_145 rfl (Nat.le_of_ble_eq_true rfl) rfl (sm_iload (j := 9) (pc' := 149) d_M_plays_147 rfl rfl (sm_istore (L' := [(7, .inl t2.2.2), (6, .inl v6), (9, .inl v6), (0, .inr (.inr x0)), (1, .inl x1), (2, .inl x2), (3, .inl x3), (4, .inl x4), (5, .inl t1), (8, .inl t2.2.2)]) (pc' := 151) d_M_plays_149 rfl (Nat.le_of_ble_eq_true rfl) rfl (sm_sub [3, 4, 5, 6, 7, 8, 1, 0, 9] rfl ?_))))
                        exact sm_rt rfl
                      · refine sm_goto (tgt := 151) d_M_plays_130 rfl (sm_sub [1, 2, 3, 4, 5, 6, 7, 8, 9] rfl ?_)
                        exact sm_rt rfl
                · refine sm_goto (tgt := 151) d_M_plays_88 rfl (sm_sub [0, 1, 2, 3, 4, 5, 6, 7, 8] rfl ?_)
                  exact sm_rt rfl
              · refine sm_iinc (j := 8) (L' := [(8, .inl (t2.2.2 + 1)), (0, .inr (.inr x0)), (1, .inl x1), (2, .inl x2), (3, .inl x3), (4, .inl x4), (5, .inl t1), (6, .inl t7.1), (7, .inl t7.2)]) (pc' := 154) d_M_plays_151 rfl (v := (t2.2.2 + 1)) rfl (ix_1 _) (Nat.le_of_ble_eq_true rfl) rfl (sm_goto (tgt := 53) d_M_plays_154 rfl (sm_sub [7, 8, 0, 1, 2, 3, 4, 5, 6] rfl ?_))
                exact sm_rt rfl
      · refine sm_iload_n (i := 3) (j := 3) (pc' := 158) d_M_plays_157 rfl rfl rfl ?_
        refine sm_if_ne (tgt := 167) (pc' := 161) d_M_plays_158 rfl rfl ?_ ?_
        · refine sm_iload (j := 0) (pc' := 169) d_M_plays_167 rfl rfl ?_
          exact sm_ireturn d_M_plays_169 rfl rfl
        · refine sm_aload_n (i := 0) (j := 2) (pc' := 162) d_M_plays_161 rfl rfl rfl (sm_iload (j := 1) (pc' := 164) d_M_plays_162 rfl rfl (sm_putI (pc' := 167) d_M_plays_164 rfl fl_M_505 (Or.inl rfl) rfl (sm_iload (j := 0) (pc' := 169) d_M_plays_167 rfl rfl ?_)))
          exact sm_ireturn d_M_plays_169 rfl rfl
  · refine sm_aload_n (i := 0) (j := 0) (pc' := 7) d_M_plays_6 rfl rfl rfl ?_
    refine sm_getR (pc' := 10) d_M_plays_7 rfl fl_M_35 rfl rfl (fun v9 => ?_)
    refine sm_bipush (pc' := 12) d_M_plays_10 rfl ib_41 (sm_iload_n (i := 2) (j := 2) (pc' := 13) d_M_plays_12 rfl rfl rfl (sm_iadd (pc' := 14) d_M_plays_13 rfl ?_))
    refine sm_iald (pc' := 15) d_M_plays_14 rfl (fun v10 => ?_)
    refine sm_aload_n (i := 0) (j := 0) (pc' := 16) d_M_plays_15 rfl rfl rfl ?_
    refine sm_getR (pc' := 19) d_M_plays_16 rfl fl_M_35 rfl rfl (fun v11 => ?_)
    refine sm_bipush (pc' := 21) d_M_plays_19 rfl ib_41 (sm_iload_n (i := 1) (j := 1) (pc' := 22) d_M_plays_21 rfl rfl rfl (sm_iadd (pc' := 23) d_M_plays_22 rfl ?_))
    refine sm_iald (pc' := 24) d_M_plays_23 rfl (fun v12 => ?_)
    refine sm_isub (pc' := 25) d_M_plays_24 rfl ?_
    exact sm_ireturn d_M_plays_25 rfl rfl
def fn_M_plays : Nat → Option mA → Int32 → Int32 → Int32 → Int32 → mP Int32
  | 0, _, _, _, _, _ => m_fl
  | n + 1, x0, x1, x2, x3, x4 => fn_M_plays_r (fn_M_plays n) x0 x1 x2 x3 x4
theorem lv_M_plays : ∀ (n : Nat) (x0 : Option mA) (x1 : Int32) (x2 : Int32) (x3 : Int32) (x4 : Int32), m_Lv 11 x0 (fn_M_plays n x0 x1 x2 x3 x4)
  | 0, _, _, _, _, _ => m_lv0
  | n + 1, _, _, _, _, _ => m_lv
theorem sd_M_plays : ∀ (n : Nat) (x0 : Option mA) (x1 : Int32) (x2 : Int32) (x3 : Int32) (x4 : Int32), m_Sm k_M_plays (5 + n * 1) 0 0 [.inr (.inr x0), .inl x1, .inl x2, .inl x3, .inl x4] (fn_M_plays n x0 x1 x2 x3 x4) (fun b => some (.inl b))
  | 0, x0, x1, x2, x3, x4 => ⟨Nat.le_of_ble_eq_true rfl, sm_fl⟩
  | n + 1, x0, x1, x2, x3, x4 => m_Sm_mono (by omega) (sd_M_plays_r (fn_M_plays n) (5 + n * 1) (sd_M_plays n) (lv_M_plays n) x0 x1 x2 x3 x4)
theorem d_M_whyNoGame_0 : m_D k_M_whyNoGame 0 (.aload_n 0) 1 := (by decide +kernel : decode prog_14_method_144_code 0 = .ok (.aload_n 0, 1))
theorem d_M_whyNoGame_1 : m_D k_M_whyNoGame 1 (.iload_n 1) 1 := (by decide +kernel : decode prog_14_method_144_code 1 = .ok (.iload_n 1, 1))
theorem d_M_whyNoGame_2 : m_D k_M_whyNoGame 2 (.invokevirtual 357) 3 := (by decide +kernel : decode prog_14_method_144_code 2 = .ok (.invokevirtual 357, 3))
theorem d_M_whyNoGame_5 : m_D k_M_whyNoGame 5 (.ifCond .eq 11) 3 := (by decide +kernel : decode prog_14_method_144_code 5 = .ok (.ifCond .eq 11, 3))
theorem d_M_whyNoGame_8 : m_D k_M_whyNoGame 8 (.aload_n 0) 1 := (by decide +kernel : decode prog_14_method_144_code 8 = .ok (.aload_n 0, 1))
theorem d_M_whyNoGame_9 : m_D k_M_whyNoGame 9 (.iload_n 2) 1 := (by decide +kernel : decode prog_14_method_144_code 9 = .ok (.iload_n 2, 1))
theorem d_M_whyNoGame_10 : m_D k_M_whyNoGame 10 (.invokevirtual 357) 3 := (by decide +kernel : decode prog_14_method_144_code 10 = .ok (.invokevirtual 357, 3))
theorem d_M_whyNoGame_13 : m_D k_M_whyNoGame 13 (.ifCond .ne 5) 3 := (by decide +kernel : decode prog_14_method_144_code 13 = .ok (.ifCond .ne 5, 3))
theorem d_M_whyNoGame_16 : m_D k_M_whyNoGame 16 (.iconst 2) 1 := (by decide +kernel : decode prog_14_method_144_code 16 = .ok (.iconst 2, 1))
theorem d_M_whyNoGame_17 : m_D k_M_whyNoGame 17 (.ireturn) 1 := (by decide +kernel : decode prog_14_method_144_code 17 = .ok (.ireturn, 1))
theorem d_M_whyNoGame_18 : m_D k_M_whyNoGame 18 (.iload_n 1) 1 := (by decide +kernel : decode prog_14_method_144_code 18 = .ok (.iload_n 1, 1))
theorem d_M_whyNoGame_19 : m_D k_M_whyNoGame 19 (.iload_n 2) 1 := (by decide +kernel : decode prog_14_method_144_code 19 = .ok (.iload_n 2, 1))
theorem d_M_whyNoGame_20 : m_D k_M_whyNoGame 20 (.if_icmp .eq 21) 3 := (by decide +kernel : decode prog_14_method_144_code 20 = .ok (.if_icmp .eq 21, 3))
theorem d_M_whyNoGame_23 : m_D k_M_whyNoGame 23 (.iload_n 3) 1 := (by decide +kernel : decode prog_14_method_144_code 23 = .ok (.iload_n 3, 1))
theorem d_M_whyNoGame_24 : m_D k_M_whyNoGame 24 (.i2l) 1 := (by decide +kernel : decode prog_14_method_144_code 24 = .ok (.i2l, 1))
theorem d_M_whyNoGame_25 : m_D k_M_whyNoGame 25 (.iload 4) 2 := (by decide +kernel : decode prog_14_method_144_code 25 = .ok (.iload 4, 2))
theorem d_M_whyNoGame_27 : m_D k_M_whyNoGame 27 (.i2l) 1 := (by decide +kernel : decode prog_14_method_144_code 27 = .ok (.i2l, 1))
theorem d_M_whyNoGame_28 : m_D k_M_whyNoGame 28 (.ldc2_w 352) 3 := (by decide +kernel : decode prog_14_method_144_code 28 = .ok (.ldc2_w 352, 3))
theorem d_M_whyNoGame_31 : m_D k_M_whyNoGame 31 (.invokestatic 116) 3 := (by decide +kernel : decode prog_14_method_144_code 31 = .ok (.invokestatic 116, 3))
theorem d_M_whyNoGame_34 : m_D k_M_whyNoGame 34 (.ifCond .eq 7) 3 := (by decide +kernel : decode prog_14_method_144_code 34 = .ok (.ifCond .eq 7, 3))
theorem d_M_whyNoGame_37 : m_D k_M_whyNoGame 37 (.iconst 0) 1 := (by decide +kernel : decode prog_14_method_144_code 37 = .ok (.iconst 0, 1))
theorem d_M_whyNoGame_38 : m_D k_M_whyNoGame 38 (.goto 4) 3 := (by decide +kernel : decode prog_14_method_144_code 38 = .ok (.goto 4, 3))
theorem d_M_whyNoGame_41 : m_D k_M_whyNoGame 41 (.iconst 5) 1 := (by decide +kernel : decode prog_14_method_144_code 41 = .ok (.iconst 5, 1))
theorem d_M_whyNoGame_42 : m_D k_M_whyNoGame 42 (.ireturn) 1 := (by decide +kernel : decode prog_14_method_144_code 42 = .ok (.ireturn, 1))
def fn_M_whyNoGame (x0 : Option mA) (x1 : Int32) (x2 : Int32) (x3 : Int32) (x4 : Int32) : mP Int32 :=
  m_th 11 x0 <|
  m_bd (fn_M_isThingAt x0 x1) fun v1 =>
  if v1 = 0 then
    m_rt 2
  else
    m_bd (fn_M_isThingAt x0 x2) fun v2 =>
    if v2 = 0 then
      m_rt 2
    else
      if x1 = x2 then
        m_rt 5
      else
        m_bd (fn_M_isIn (x3).toInt64 (x4).toInt64 4) fun v3 =>
        if v3 = 0 then
          m_rt 5
        else
          m_rt 0
set_option maxHeartbeats 4000000 in
set_option maxRecDepth 100000 in
theorem sd_M_whyNoGame (x0 : Option mA) (x1 : Int32) (x2 : Int32) (x3 : Int32) (x4 : Int32) : m_Sm k_M_whyNoGame 3 0 0 [.inr (.inr x0), .inl x1, .inl x2, .inl x3, .inl x4] (fn_M_whyNoGame x0 x1 x2 x3 x4) (fun b => some (.inl b)) := by
  refine ⟨Nat.le_of_ble_eq_true rfl, ?_⟩
  refine sm_th ?_
  refine sm_aload_n (i := 0) (j := 0) (pc' := 1) d_M_whyNoGame_0 rfl rfl rfl (sm_iload_n (i := 1) (j := 1) (pc' := 2) d_M_whyNoGame_1 rfl rfl rfl ?_)
  refine sm_callVi (ci := 11) (x := x0) (av := [.inl x1]) (st := []) (mc := 0) (ms := 0) (pc' := 5) d_M_whyNoGame_2 rfl (sd_M_isThingAt x0 x1) m_lv rfl cv_M_isThingAt w_ml_M_357 rfl rfl (by decide) (Nat.le_of_ble_eq_true rfl) rfl rfl (fun v1 => ?_)
  refine sm_if_eq (tgt := 16) (pc' := 8) d_M_whyNoGame_5 rfl rfl ?_ ?_
  · refine sm_iconst (pc' := 17) d_M_whyNoGame_16 rfl ic_2 ?_
    exact sm_ireturn d_M_whyNoGame_17 rfl rfl
  · refine sm_aload_n (i := 0) (j := 0) (pc' := 9) d_M_whyNoGame_8 rfl rfl rfl (sm_iload_n (i := 2) (j := 2) (pc' := 10) d_M_whyNoGame_9 rfl rfl rfl ?_)
    refine sm_callVi (ci := 11) (x := x0) (av := [.inl x2]) (st := []) (mc := 0) (ms := 0) (pc' := 13) d_M_whyNoGame_10 rfl (sd_M_isThingAt x0 x2) m_lv rfl cv_M_isThingAt w_ml_M_357 rfl rfl (by decide) (Nat.le_of_ble_eq_true rfl) rfl rfl (fun v2 => ?_)
    refine sm_if_ne (tgt := 18) (pc' := 16) d_M_whyNoGame_13 rfl rfl ?_ ?_
    · refine sm_iload_n (i := 1) (j := 1) (pc' := 19) d_M_whyNoGame_18 rfl rfl rfl (sm_iload_n (i := 2) (j := 2) (pc' := 20) d_M_whyNoGame_19 rfl rfl rfl ?_)
      refine sm_icmp_eq (tgt := 41) (pc' := 23) d_M_whyNoGame_20 rfl rfl ?_ ?_
      · refine sm_iconst (pc' := 42) d_M_whyNoGame_41 rfl ic_5 ?_
        exact sm_ireturn d_M_whyNoGame_42 rfl rfl
      · refine sm_iload_n (i := 3) (j := 3) (pc' := 24) d_M_whyNoGame_23 rfl rfl rfl (sm_i2l (pc' := 25) d_M_whyNoGame_24 rfl (sm_iload (j := 4) (pc' := 27) d_M_whyNoGame_25 rfl rfl (sm_i2l (pc' := 28) d_M_whyNoGame_27 rfl (sm_ldc2 (v := 4) (pc' := 31) d_M_whyNoGame_28 rfl w_cl_M_352 ?_))))
        refine sm_callSi (av := [.inr (.inl (x3).toInt64), .inr (.inl (x4).toInt64), .inr (.inl 4)]) (st := []) (mc := 0) (ms := 0) (pc' := 34) d_M_whyNoGame_31 rfl (sd_M_isIn (x3).toInt64 (x4).toInt64 4) cs_M_isIn w_ml_M_116 rfl rfl (by decide) (Nat.le_of_ble_eq_true rfl) rfl rfl (fun v3 => ?_)
        refine sm_if_eq (tgt := 41) (pc' := 37) d_M_whyNoGame_34 rfl rfl ?_ ?_
        · refine sm_iconst (pc' := 42) d_M_whyNoGame_41 rfl ic_5 ?_
          exact sm_ireturn d_M_whyNoGame_42 rfl rfl
        · refine sm_iconst (pc' := 38) d_M_whyNoGame_37 rfl ic_0 (sm_goto (tgt := 42) d_M_whyNoGame_38 rfl ?_)
          exact sm_ireturn d_M_whyNoGame_42 rfl rfl
    · refine sm_iconst (pc' := 17) d_M_whyNoGame_16 rfl ic_2 ?_
      exact sm_ireturn d_M_whyNoGame_17 rfl rfl
theorem d_M_game_0 : m_D k_M_game 0 (.aload_n 0) 1 := (by decide +kernel : decode prog_14_method_145_code 0 = .ok (.aload_n 0, 1))
theorem d_M_game_1 : m_D k_M_game 1 (.iconst 0) 1 := (by decide +kernel : decode prog_14_method_145_code 1 = .ok (.iconst 0, 1))
theorem d_M_game_2 : m_D k_M_game 2 (.putfield 81) 3 := (by decide +kernel : decode prog_14_method_145_code 2 = .ok (.putfield 81, 3))
theorem d_M_game_5 : m_D k_M_game 5 (.aload_n 0) 1 := (by decide +kernel : decode prog_14_method_145_code 5 = .ok (.aload_n 0, 1))
theorem d_M_game_6 : m_D k_M_game 6 (.aload_n 0) 1 := (by decide +kernel : decode prog_14_method_145_code 6 = .ok (.aload_n 0, 1))
theorem d_M_game_7 : m_D k_M_game 7 (.iload_n 1) 1 := (by decide +kernel : decode prog_14_method_145_code 7 = .ok (.iload_n 1, 1))
theorem d_M_game_8 : m_D k_M_game 8 (.iload_n 2) 1 := (by decide +kernel : decode prog_14_method_145_code 8 = .ok (.iload_n 2, 1))
theorem d_M_game_9 : m_D k_M_game 9 (.iload_n 3) 1 := (by decide +kernel : decode prog_14_method_145_code 9 = .ok (.iload_n 3, 1))
theorem d_M_game_10 : m_D k_M_game 10 (.iconst 0) 1 := (by decide +kernel : decode prog_14_method_145_code 10 = .ok (.iconst 0, 1))
theorem d_M_game_11 : m_D k_M_game 11 (.invokevirtual 508) 3 := (by decide +kernel : decode prog_14_method_145_code 11 = .ok (.invokevirtual 508, 3))
theorem d_M_game_14 : m_D k_M_game 14 (.putfield 84) 3 := (by decide +kernel : decode prog_14_method_145_code 14 = .ok (.putfield 84, 3))
theorem d_M_game_17 : m_D k_M_game 17 (.aload_n 0) 1 := (by decide +kernel : decode prog_14_method_145_code 17 = .ok (.aload_n 0, 1))
theorem d_M_game_18 : m_D k_M_game 18 (.getfield 84) 3 := (by decide +kernel : decode prog_14_method_145_code 18 = .ok (.getfield 84, 3))
theorem d_M_game_21 : m_D k_M_game 21 (.ifCond .le 7) 3 := (by decide +kernel : decode prog_14_method_145_code 21 = .ok (.ifCond .le 7, 3))
theorem d_M_game_24 : m_D k_M_game 24 (.iconst (-1)) 1 := (by decide +kernel : decode prog_14_method_145_code 24 = .ok (.iconst (-1), 1))
theorem d_M_game_25 : m_D k_M_game 25 (.goto 11) 3 := (by decide +kernel : decode prog_14_method_145_code 25 = .ok (.goto 11, 3))
theorem d_M_game_28 : m_D k_M_game 28 (.aload_n 0) 1 := (by decide +kernel : decode prog_14_method_145_code 28 = .ok (.aload_n 0, 1))
theorem d_M_game_29 : m_D k_M_game 29 (.iload_n 1) 1 := (by decide +kernel : decode prog_14_method_145_code 29 = .ok (.iload_n 1, 1))
theorem d_M_game_30 : m_D k_M_game 30 (.iload_n 2) 1 := (by decide +kernel : decode prog_14_method_145_code 30 = .ok (.iload_n 2, 1))
theorem d_M_game_31 : m_D k_M_game 31 (.iconst 0) 1 := (by decide +kernel : decode prog_14_method_145_code 31 = .ok (.iconst 0, 1))
theorem d_M_game_32 : m_D k_M_game 32 (.iload_n 3) 1 := (by decide +kernel : decode prog_14_method_145_code 32 = .ok (.iload_n 3, 1))
theorem d_M_game_33 : m_D k_M_game 33 (.invokevirtual 498) 3 := (by decide +kernel : decode prog_14_method_145_code 33 = .ok (.invokevirtual 498, 3))
theorem d_M_game_36 : m_D k_M_game 36 (.ireturn) 1 := (by decide +kernel : decode prog_14_method_145_code 36 = .ok (.ireturn, 1))
def fn_M_game (x0 : Option mA) (x1 : Int32) (x2 : Int32) (x3 : Int32) : mP Int32 :=
  m_th 11 x0 <|
  m_bd (m_pI 11 1 x0 0) fun _ =>
  m_bd (fn_M_whyNoGame x0 x1 x2 x3 0) fun v1 =>
  m_bd (m_pI 11 0 x0 v1) fun _ =>
  m_bd (m_gI 11 0 x0) fun v2 =>
  if v2 ≤ 0 then
    m_bd (fn_M_plays 8 x0 x1 x2 0 x3) fun v3 =>
    m_rt v3
  else
    m_rt (-1)
set_option maxHeartbeats 4000000 in
set_option maxRecDepth 100000 in
theorem sd_M_game (x0 : Option mA) (x1 : Int32) (x2 : Int32) (x3 : Int32) : m_Sm k_M_game 14 0 0 [.inr (.inr x0), .inl x1, .inl x2, .inl x3] (fn_M_game x0 x1 x2 x3) (fun b => some (.inl b)) := by
  refine ⟨Nat.le_of_ble_eq_true rfl, ?_⟩
  refine sm_th ?_
  refine sm_aload_n (i := 0) (j := 0) (pc' := 1) d_M_game_0 rfl rfl rfl (sm_iconst (pc' := 2) d_M_game_1 rfl ic_0 (sm_putI (pc' := 5) d_M_game_2 rfl fl_M_81 (Or.inl rfl) rfl (sm_aload_n (i := 0) (j := 0) (pc' := 6) d_M_game_5 rfl rfl rfl (sm_aload_n (i := 0) (j := 0) (pc' := 7) d_M_game_6 rfl rfl rfl (sm_iload_n (i := 1) (j := 1) (pc' := 8) d_M_game_7 rfl rfl rfl (sm_iload_n (i := 2) (j := 2) (pc' := 9) d_M_game_8 rfl rfl rfl (sm_iload_n (i := 3) (j := 3) (pc' := 10) d_M_game_9 rfl rfl rfl (sm_iconst (pc' := 11) d_M_game_10 rfl ic_0 ?_))))))))
  refine sm_callVi (ci := 11) (x := x0) (av := [.inl x1, .inl x2, .inl x3, .inl 0]) (st := [.inr (.inr x0)]) (mc := 0) (ms := 0) (pc' := 14) d_M_game_11 rfl (sd_M_whyNoGame x0 x1 x2 x3 0) m_lv rfl cv_M_whyNoGame w_ml_M_508 rfl rfl (by decide) (Nat.le_of_ble_eq_true rfl) rfl rfl (fun v1 => ?_)
  refine sm_putI (pc' := 17) d_M_game_14 rfl fl_M_84 (Or.inl rfl) rfl (sm_aload_n (i := 0) (j := 0) (pc' := 18) d_M_game_17 rfl rfl rfl ?_)
  refine sm_getI (pc' := 21) d_M_game_18 rfl fl_M_84 rfl ⟨by decide, by decide⟩ (fun v2 => ?_)
  refine sm_if_le (tgt := 28) (pc' := 24) d_M_game_21 rfl rfl ?_ ?_
  · refine sm_aload_n (i := 0) (j := 0) (pc' := 29) d_M_game_28 rfl rfl rfl (sm_iload_n (i := 1) (j := 1) (pc' := 30) d_M_game_29 rfl rfl rfl (sm_iload_n (i := 2) (j := 2) (pc' := 31) d_M_game_30 rfl rfl rfl (sm_iconst (pc' := 32) d_M_game_31 rfl ic_0 (sm_iload_n (i := 3) (j := 3) (pc' := 33) d_M_game_32 rfl rfl rfl ?_))))
    refine sm_callVi (ci := 11) (x := x0) (av := [.inl x1, .inl x2, .inl 0, .inl x3]) (st := []) (mc := 0) (ms := 0) (pc' := 36) d_M_game_33 rfl (sd_M_plays 8 x0 x1 x2 0 x3) (lv_M_plays 8 x0 x1 x2 0 x3) rfl cv_M_plays w_ml_M_498 rfl rfl (by decide) (Nat.le_of_ble_eq_true rfl) rfl rfl (fun v3 => ?_)
    exact sm_ireturn d_M_game_36 rfl rfl
  · refine sm_iconst (pc' := 25) d_M_game_24 rfl ic_m1 (sm_goto (tgt := 36) d_M_game_25 rfl ?_)
    exact sm_ireturn d_M_game_36 rfl rfl
theorem d_M_moveOf_0 : m_D k_M_moveOf 0 (.aload_n 0) 1 := (by decide +kernel : decode prog_14_method_146_code 0 = .ok (.aload_n 0, 1))
theorem d_M_moveOf_1 : m_D k_M_moveOf 1 (.iconst 0) 1 := (by decide +kernel : decode prog_14_method_146_code 1 = .ok (.iconst 0, 1))
theorem d_M_moveOf_2 : m_D k_M_moveOf 2 (.putfield 81) 3 := (by decide +kernel : decode prog_14_method_146_code 2 = .ok (.putfield 81, 3))
theorem d_M_moveOf_5 : m_D k_M_moveOf 5 (.aload_n 0) 1 := (by decide +kernel : decode prog_14_method_146_code 5 = .ok (.aload_n 0, 1))
theorem d_M_moveOf_6 : m_D k_M_moveOf 6 (.aload_n 0) 1 := (by decide +kernel : decode prog_14_method_146_code 6 = .ok (.aload_n 0, 1))
theorem d_M_moveOf_7 : m_D k_M_moveOf 7 (.iload_n 1) 1 := (by decide +kernel : decode prog_14_method_146_code 7 = .ok (.iload_n 1, 1))
theorem d_M_moveOf_8 : m_D k_M_moveOf 8 (.iload_n 2) 1 := (by decide +kernel : decode prog_14_method_146_code 8 = .ok (.iload_n 2, 1))
theorem d_M_moveOf_9 : m_D k_M_moveOf 9 (.iload_n 3) 1 := (by decide +kernel : decode prog_14_method_146_code 9 = .ok (.iload_n 3, 1))
theorem d_M_moveOf_10 : m_D k_M_moveOf 10 (.iconst 1) 1 := (by decide +kernel : decode prog_14_method_146_code 10 = .ok (.iconst 1, 1))
theorem d_M_moveOf_11 : m_D k_M_moveOf 11 (.invokevirtual 508) 3 := (by decide +kernel : decode prog_14_method_146_code 11 = .ok (.invokevirtual 508, 3))
theorem d_M_moveOf_14 : m_D k_M_moveOf 14 (.putfield 84) 3 := (by decide +kernel : decode prog_14_method_146_code 14 = .ok (.putfield 84, 3))
theorem d_M_moveOf_17 : m_D k_M_moveOf 17 (.aload_n 0) 1 := (by decide +kernel : decode prog_14_method_146_code 17 = .ok (.aload_n 0, 1))
theorem d_M_moveOf_18 : m_D k_M_moveOf 18 (.getfield 84) 3 := (by decide +kernel : decode prog_14_method_146_code 18 = .ok (.getfield 84, 3))
theorem d_M_moveOf_21 : m_D k_M_moveOf 21 (.ifCond .le 5) 3 := (by decide +kernel : decode prog_14_method_146_code 21 = .ok (.ifCond .le 5, 3))
theorem d_M_moveOf_24 : m_D k_M_moveOf 24 (.iconst (-1)) 1 := (by decide +kernel : decode prog_14_method_146_code 24 = .ok (.iconst (-1), 1))
theorem d_M_moveOf_25 : m_D k_M_moveOf 25 (.ireturn) 1 := (by decide +kernel : decode prog_14_method_146_code 25 = .ok (.ireturn, 1))
theorem d_M_moveOf_26 : m_D k_M_moveOf 26 (.aload_n 0) 1 := (by decide +kernel : decode prog_14_method_146_code 26 = .ok (.aload_n 0, 1))
theorem d_M_moveOf_27 : m_D k_M_moveOf 27 (.iload_n 1) 1 := (by decide +kernel : decode prog_14_method_146_code 27 = .ok (.iload_n 1, 1))
theorem d_M_moveOf_28 : m_D k_M_moveOf 28 (.iload_n 2) 1 := (by decide +kernel : decode prog_14_method_146_code 28 = .ok (.iload_n 2, 1))
theorem d_M_moveOf_29 : m_D k_M_moveOf 29 (.iconst 0) 1 := (by decide +kernel : decode prog_14_method_146_code 29 = .ok (.iconst 0, 1))
theorem d_M_moveOf_30 : m_D k_M_moveOf 30 (.iload_n 3) 1 := (by decide +kernel : decode prog_14_method_146_code 30 = .ok (.iload_n 3, 1))
theorem d_M_moveOf_31 : m_D k_M_moveOf 31 (.invokevirtual 498) 3 := (by decide +kernel : decode prog_14_method_146_code 31 = .ok (.invokevirtual 498, 3))
theorem d_M_moveOf_34 : m_D k_M_moveOf 34 (.pop) 1 := (by decide +kernel : decode prog_14_method_146_code 34 = .ok (.pop, 1))
theorem d_M_moveOf_35 : m_D k_M_moveOf 35 (.aload_n 0) 1 := (by decide +kernel : decode prog_14_method_146_code 35 = .ok (.aload_n 0, 1))
theorem d_M_moveOf_36 : m_D k_M_moveOf 36 (.getfield 505) 3 := (by decide +kernel : decode prog_14_method_146_code 36 = .ok (.getfield 505, 3))
theorem d_M_moveOf_39 : m_D k_M_moveOf 39 (.ireturn) 1 := (by decide +kernel : decode prog_14_method_146_code 39 = .ok (.ireturn, 1))
def fn_M_moveOf (x0 : Option mA) (x1 : Int32) (x2 : Int32) (x3 : Int32) : mP Int32 :=
  m_th 11 x0 <|
  m_bd (m_pI 11 1 x0 0) fun _ =>
  m_bd (fn_M_whyNoGame x0 x1 x2 x3 1) fun v1 =>
  m_bd (m_pI 11 0 x0 v1) fun _ =>
  m_bd (m_gI 11 0 x0) fun v2 =>
  if v2 ≤ 0 then
    m_bd (fn_M_plays 8 x0 x1 x2 0 x3) fun v3 =>
    m_bd (m_gI 11 38 x0) fun v4 =>
    m_rt v4
  else
    m_rt (-1)
set_option maxHeartbeats 4000000 in
set_option maxRecDepth 100000 in
theorem sd_M_moveOf (x0 : Option mA) (x1 : Int32) (x2 : Int32) (x3 : Int32) : m_Sm k_M_moveOf 14 0 0 [.inr (.inr x0), .inl x1, .inl x2, .inl x3] (fn_M_moveOf x0 x1 x2 x3) (fun b => some (.inl b)) := by
  refine ⟨Nat.le_of_ble_eq_true rfl, ?_⟩
  refine sm_th ?_
  refine sm_aload_n (i := 0) (j := 0) (pc' := 1) d_M_moveOf_0 rfl rfl rfl (sm_iconst (pc' := 2) d_M_moveOf_1 rfl ic_0 (sm_putI (pc' := 5) d_M_moveOf_2 rfl fl_M_81 (Or.inl rfl) rfl (sm_aload_n (i := 0) (j := 0) (pc' := 6) d_M_moveOf_5 rfl rfl rfl (sm_aload_n (i := 0) (j := 0) (pc' := 7) d_M_moveOf_6 rfl rfl rfl (sm_iload_n (i := 1) (j := 1) (pc' := 8) d_M_moveOf_7 rfl rfl rfl (sm_iload_n (i := 2) (j := 2) (pc' := 9) d_M_moveOf_8 rfl rfl rfl (sm_iload_n (i := 3) (j := 3) (pc' := 10) d_M_moveOf_9 rfl rfl rfl (sm_iconst (pc' := 11) d_M_moveOf_10 rfl ic_1 ?_))))))))
  refine sm_callVi (ci := 11) (x := x0) (av := [.inl x1, .inl x2, .inl x3, .inl 1]) (st := [.inr (.inr x0)]) (mc := 0) (ms := 0) (pc' := 14) d_M_moveOf_11 rfl (sd_M_whyNoGame x0 x1 x2 x3 1) m_lv rfl cv_M_whyNoGame w_ml_M_508 rfl rfl (by decide) (Nat.le_of_ble_eq_true rfl) rfl rfl (fun v1 => ?_)
  refine sm_putI (pc' := 17) d_M_moveOf_14 rfl fl_M_84 (Or.inl rfl) rfl (sm_aload_n (i := 0) (j := 0) (pc' := 18) d_M_moveOf_17 rfl rfl rfl ?_)
  refine sm_getI (pc' := 21) d_M_moveOf_18 rfl fl_M_84 rfl ⟨by decide, by decide⟩ (fun v2 => ?_)
  refine sm_if_le (tgt := 26) (pc' := 24) d_M_moveOf_21 rfl rfl ?_ ?_
  · refine sm_aload_n (i := 0) (j := 0) (pc' := 27) d_M_moveOf_26 rfl rfl rfl (sm_iload_n (i := 1) (j := 1) (pc' := 28) d_M_moveOf_27 rfl rfl rfl (sm_iload_n (i := 2) (j := 2) (pc' := 29) d_M_moveOf_28 rfl rfl rfl (sm_iconst (pc' := 30) d_M_moveOf_29 rfl ic_0 (sm_iload_n (i := 3) (j := 3) (pc' := 31) d_M_moveOf_30 rfl rfl rfl ?_))))
    refine sm_callVi (ci := 11) (x := x0) (av := [.inl x1, .inl x2, .inl 0, .inl x3]) (st := []) (mc := 0) (ms := 0) (pc' := 34) d_M_moveOf_31 rfl (sd_M_plays 8 x0 x1 x2 0 x3) (lv_M_plays 8 x0 x1 x2 0 x3) rfl cv_M_plays w_ml_M_498 rfl rfl (by decide) (Nat.le_of_ble_eq_true rfl) rfl rfl (fun v3 => ?_)
    refine sm_pop (pc' := 35) d_M_moveOf_34 rfl rfl (sm_aload_n (i := 0) (j := 0) (pc' := 36) d_M_moveOf_35 rfl rfl rfl ?_)
    refine sm_getI (pc' := 39) d_M_moveOf_36 rfl fl_M_505 rfl ⟨by decide, by decide⟩ (fun v4 => ?_)
    exact sm_ireturn d_M_moveOf_39 rfl rfl
  · refine sm_iconst (pc' := 25) d_M_moveOf_24 rfl ic_m1 ?_
    exact sm_ireturn d_M_moveOf_25 rfl rfl
