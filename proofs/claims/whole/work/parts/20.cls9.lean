/-! 20.cls9, laid by wip/whole/gen.py -/
theorem d_C_mark_0 : m_D k_C_mark 0 (.aload_n 0) 1 := (by decide +kernel : decode prog_1_method_72_code 0 = .ok (.aload_n 0, 1))
theorem d_C_mark_1 : m_D k_C_mark 1 (.aload_n 0) 1 := (by decide +kernel : decode prog_1_method_72_code 1 = .ok (.aload_n 0, 1))
theorem d_C_mark_2 : m_D k_C_mark 2 (.getfield 55) 3 := (by decide +kernel : decode prog_1_method_72_code 2 = .ok (.getfield 55, 3))
theorem d_C_mark_5 : m_D k_C_mark 5 (.iconst 3) 1 := (by decide +kernel : decode prog_1_method_72_code 5 = .ok (.iconst 3, 1))
theorem d_C_mark_6 : m_D k_C_mark 6 (.if_icmp .lt 8) 3 := (by decide +kernel : decode prog_1_method_72_code 6 = .ok (.if_icmp .lt 8, 3))
theorem d_C_mark_9 : m_D k_C_mark 9 (.bipush 7) 2 := (by decide +kernel : decode prog_1_method_72_code 9 = .ok (.bipush 7, 2))
theorem d_C_mark_11 : m_D k_C_mark 11 (.goto 4) 3 := (by decide +kernel : decode prog_1_method_72_code 11 = .ok (.goto 4, 3))
theorem d_C_mark_14 : m_D k_C_mark 14 (.iconst 0) 1 := (by decide +kernel : decode prog_1_method_72_code 14 = .ok (.iconst 0, 1))
theorem d_C_mark_15 : m_D k_C_mark 15 (.putfield 9) 3 := (by decide +kernel : decode prog_1_method_72_code 15 = .ok (.putfield 9, 3))
theorem d_C_mark_18 : m_D k_C_mark 18 (.aload_n 0) 1 := (by decide +kernel : decode prog_1_method_72_code 18 = .ok (.aload_n 0, 1))
theorem d_C_mark_19 : m_D k_C_mark 19 (.getfield 9) 3 := (by decide +kernel : decode prog_1_method_72_code 19 = .ok (.getfield 9, 3))
theorem d_C_mark_22 : m_D k_C_mark 22 (.ifCond .eq 5) 3 := (by decide +kernel : decode prog_1_method_72_code 22 = .ok (.ifCond .eq 5, 3))
theorem d_C_mark_25 : m_D k_C_mark 25 (.iconst (-1)) 1 := (by decide +kernel : decode prog_1_method_72_code 25 = .ok (.iconst (-1), 1))
theorem d_C_mark_26 : m_D k_C_mark 26 (.ireturn) 1 := (by decide +kernel : decode prog_1_method_72_code 26 = .ok (.ireturn, 1))
theorem d_C_mark_27 : m_D k_C_mark 27 (.aload_n 0) 1 := (by decide +kernel : decode prog_1_method_72_code 27 = .ok (.aload_n 0, 1))
theorem d_C_mark_28 : m_D k_C_mark 28 (.getfield 51) 3 := (by decide +kernel : decode prog_1_method_72_code 28 = .ok (.getfield 51, 3))
theorem d_C_mark_31 : m_D k_C_mark 31 (.aload_n 0) 1 := (by decide +kernel : decode prog_1_method_72_code 31 = .ok (.aload_n 0, 1))
theorem d_C_mark_32 : m_D k_C_mark 32 (.getfield 55) 3 := (by decide +kernel : decode prog_1_method_72_code 32 = .ok (.getfield 55, 3))
theorem d_C_mark_35 : m_D k_C_mark 35 (.aaload) 1 := (by decide +kernel : decode prog_1_method_72_code 35 = .ok (.aaload, 1))
theorem d_C_mark_36 : m_D k_C_mark 36 (.ifnonnull 19) 3 := (by decide +kernel : decode prog_1_method_72_code 36 = .ok (.ifnonnull 19, 3))
theorem d_C_mark_39 : m_D k_C_mark 39 (.aload_n 0) 1 := (by decide +kernel : decode prog_1_method_72_code 39 = .ok (.aload_n 0, 1))
theorem d_C_mark_40 : m_D k_C_mark 40 (.getfield 51) 3 := (by decide +kernel : decode prog_1_method_72_code 40 = .ok (.getfield 51, 3))
theorem d_C_mark_43 : m_D k_C_mark 43 (.aload_n 0) 1 := (by decide +kernel : decode prog_1_method_72_code 43 = .ok (.aload_n 0, 1))
theorem d_C_mark_44 : m_D k_C_mark 44 (.getfield 55) 3 := (by decide +kernel : decode prog_1_method_72_code 44 = .ok (.getfield 55, 3))
theorem d_C_mark_47 : m_D k_C_mark 47 (.new 34) 3 := (by decide +kernel : decode prog_1_method_72_code 47 = .ok (.new 34, 3))
theorem d_C_mark_50 : m_D k_C_mark 50 (.dup) 1 := (by decide +kernel : decode prog_1_method_72_code 50 = .ok (.dup, 1))
theorem d_C_mark_51 : m_D k_C_mark 51 (.invokespecial 36) 3 := (by decide +kernel : decode prog_1_method_72_code 51 = .ok (.invokespecial 36, 3))
theorem d_C_mark_54 : m_D k_C_mark 54 (.aastore) 1 := (by decide +kernel : decode prog_1_method_72_code 54 = .ok (.aastore, 1))
theorem d_C_mark_55 : m_D k_C_mark 55 (.aload_n 0) 1 := (by decide +kernel : decode prog_1_method_72_code 55 = .ok (.aload_n 0, 1))
theorem d_C_mark_56 : m_D k_C_mark 56 (.getfield 51) 3 := (by decide +kernel : decode prog_1_method_72_code 56 = .ok (.getfield 51, 3))
theorem d_C_mark_59 : m_D k_C_mark 59 (.aload_n 0) 1 := (by decide +kernel : decode prog_1_method_72_code 59 = .ok (.aload_n 0, 1))
theorem d_C_mark_60 : m_D k_C_mark 60 (.getfield 55) 3 := (by decide +kernel : decode prog_1_method_72_code 60 = .ok (.getfield 55, 3))
theorem d_C_mark_63 : m_D k_C_mark 63 (.aaload) 1 := (by decide +kernel : decode prog_1_method_72_code 63 = .ok (.aaload, 1))
theorem d_C_mark_64 : m_D k_C_mark 64 (.aload_n 0) 1 := (by decide +kernel : decode prog_1_method_72_code 64 = .ok (.aload_n 0, 1))
theorem d_C_mark_65 : m_D k_C_mark 65 (.getfield 37) 3 := (by decide +kernel : decode prog_1_method_72_code 65 = .ok (.getfield 37, 3))
theorem d_C_mark_68 : m_D k_C_mark 68 (.invokevirtual 434) 3 := (by decide +kernel : decode prog_1_method_72_code 68 = .ok (.invokevirtual 434, 3))
theorem d_C_mark_71 : m_D k_C_mark 71 (.aload_n 0) 1 := (by decide +kernel : decode prog_1_method_72_code 71 = .ok (.aload_n 0, 1))
theorem d_C_mark_72 : m_D k_C_mark 72 (.getfield 51) 3 := (by decide +kernel : decode prog_1_method_72_code 72 = .ok (.getfield 51, 3))
theorem d_C_mark_75 : m_D k_C_mark 75 (.aload_n 0) 1 := (by decide +kernel : decode prog_1_method_72_code 75 = .ok (.aload_n 0, 1))
theorem d_C_mark_76 : m_D k_C_mark 76 (.getfield 55) 3 := (by decide +kernel : decode prog_1_method_72_code 76 = .ok (.getfield 55, 3))
theorem d_C_mark_79 : m_D k_C_mark 79 (.aaload) 1 := (by decide +kernel : decode prog_1_method_72_code 79 = .ok (.aaload, 1))
theorem d_C_mark_80 : m_D k_C_mark 80 (.getfield 163) 3 := (by decide +kernel : decode prog_1_method_72_code 80 = .ok (.getfield 163, 3))
theorem d_C_mark_83 : m_D k_C_mark 83 (.aload_n 0) 1 := (by decide +kernel : decode prog_1_method_72_code 83 = .ok (.aload_n 0, 1))
theorem d_C_mark_84 : m_D k_C_mark 84 (.getfield 37) 3 := (by decide +kernel : decode prog_1_method_72_code 84 = .ok (.getfield 37, 3))
theorem d_C_mark_87 : m_D k_C_mark 87 (.getfield 163) 3 := (by decide +kernel : decode prog_1_method_72_code 87 = .ok (.getfield 163, 3))
theorem d_C_mark_90 : m_D k_C_mark 90 (.invokevirtual 438) 3 := (by decide +kernel : decode prog_1_method_72_code 90 = .ok (.invokevirtual 438, 3))
theorem d_C_mark_93 : m_D k_C_mark 93 (.aload_n 0) 1 := (by decide +kernel : decode prog_1_method_72_code 93 = .ok (.aload_n 0, 1))
theorem d_C_mark_94 : m_D k_C_mark 94 (.dup) 1 := (by decide +kernel : decode prog_1_method_72_code 94 = .ok (.dup, 1))
theorem d_C_mark_95 : m_D k_C_mark 95 (.getfield 55) 3 := (by decide +kernel : decode prog_1_method_72_code 95 = .ok (.getfield 55, 3))
theorem d_C_mark_98 : m_D k_C_mark 98 (.iconst 1) 1 := (by decide +kernel : decode prog_1_method_72_code 98 = .ok (.iconst 1, 1))
theorem d_C_mark_99 : m_D k_C_mark 99 (.iadd) 1 := (by decide +kernel : decode prog_1_method_72_code 99 = .ok (.iadd, 1))
theorem d_C_mark_100 : m_D k_C_mark 100 (.putfield 55) 3 := (by decide +kernel : decode prog_1_method_72_code 100 = .ok (.putfield 55, 3))
theorem d_C_mark_103 : m_D k_C_mark 103 (.aload_n 0) 1 := (by decide +kernel : decode prog_1_method_72_code 103 = .ok (.aload_n 0, 1))
theorem d_C_mark_104 : m_D k_C_mark 104 (.getfield 55) 3 := (by decide +kernel : decode prog_1_method_72_code 104 = .ok (.getfield 55, 3))
theorem d_C_mark_107 : m_D k_C_mark 107 (.ireturn) 1 := (by decide +kernel : decode prog_1_method_72_code 107 = .ok (.ireturn, 1))
def fn_C_mark (x0 : Option mA) : mP Int32 :=
  m_th 0 x0 <|
  m_bd (m_gI 0 9 x0) fun v1 =>
  if v1 < 3 then
    m_bd (m_pI 0 0 x0 0) fun _ =>
    m_bd (m_gI 0 0 x0) fun v2 =>
    if v2 = 0 then
      m_bd (m_gR 0 8 x0) fun v3 =>
      m_bd (m_gI 0 9 x0) fun v4 =>
      m_bd (m_aR 5 v3 v4) fun v5 =>
      if (v5).isSome = true then
        m_bd (m_gR 0 8 x0) fun v6 =>
        m_bd (m_gI 0 9 x0) fun v7 =>
        m_bd (m_aR 5 v6 v7) fun v8 =>
        m_bd (m_gR 0 5 x0) fun v9 =>
        m_bd (fn_Fa_copyPeopleAndThings v8 v9) fun _ =>
        m_bd (m_gR 0 8 x0) fun v10 =>
        m_bd (m_gI 0 9 x0) fun v11 =>
        m_bd (m_aR 5 v10 v11) fun v12 =>
        m_bd (m_gR 3 9 v12) fun v13 =>
        m_bd (m_gR 0 5 x0) fun v14 =>
        m_bd (m_gR 3 9 v14) fun v15 =>
        m_bd (fn_Pl_copyFrom v13 v15) fun _ =>
        m_bd (m_gI 0 9 x0) fun v16 =>
        m_bd (m_pI 0 9 x0 (v16 + 1)) fun _ =>
        m_bd (m_gI 0 9 x0) fun v17 =>
        m_rt v17
      else
        m_bd (m_gR 0 8 x0) fun v18 =>
        m_bd (m_gI 0 9 x0) fun v19 =>
        m_bd (m_new 3) fun a20 =>
        m_bd (fn_Fa_init a20) fun _ =>
        m_bd (m_tR 5 3 v18 v19 (some a20)) fun _ =>
        m_bd (m_gR 0 8 x0) fun v21 =>
        m_bd (m_gI 0 9 x0) fun v22 =>
        m_bd (m_aR 5 v21 v22) fun v23 =>
        m_bd (m_gR 0 5 x0) fun v24 =>
        m_bd (fn_Fa_copyPeopleAndThings v23 v24) fun _ =>
        m_bd (m_gR 0 8 x0) fun v25 =>
        m_bd (m_gI 0 9 x0) fun v26 =>
        m_bd (m_aR 5 v25 v26) fun v27 =>
        m_bd (m_gR 3 9 v27) fun v28 =>
        m_bd (m_gR 0 5 x0) fun v29 =>
        m_bd (m_gR 3 9 v29) fun v30 =>
        m_bd (fn_Pl_copyFrom v28 v30) fun _ =>
        m_bd (m_gI 0 9 x0) fun v31 =>
        m_bd (m_pI 0 9 x0 (v31 + 1)) fun _ =>
        m_bd (m_gI 0 9 x0) fun v32 =>
        m_rt v32
    else
      m_rt (-1)
  else
    m_bd (m_pI 0 0 x0 7) fun _ =>
    m_bd (m_gI 0 0 x0) fun v33 =>
    if v33 = 0 then
      m_bd (m_gR 0 8 x0) fun v34 =>
      m_bd (m_gI 0 9 x0) fun v35 =>
      m_bd (m_aR 5 v34 v35) fun v36 =>
      if (v36).isSome = true then
        m_bd (m_gR 0 8 x0) fun v37 =>
        m_bd (m_gI 0 9 x0) fun v38 =>
        m_bd (m_aR 5 v37 v38) fun v39 =>
        m_bd (m_gR 0 5 x0) fun v40 =>
        m_bd (fn_Fa_copyPeopleAndThings v39 v40) fun _ =>
        m_bd (m_gR 0 8 x0) fun v41 =>
        m_bd (m_gI 0 9 x0) fun v42 =>
        m_bd (m_aR 5 v41 v42) fun v43 =>
        m_bd (m_gR 3 9 v43) fun v44 =>
        m_bd (m_gR 0 5 x0) fun v45 =>
        m_bd (m_gR 3 9 v45) fun v46 =>
        m_bd (fn_Pl_copyFrom v44 v46) fun _ =>
        m_bd (m_gI 0 9 x0) fun v47 =>
        m_bd (m_pI 0 9 x0 (v47 + 1)) fun _ =>
        m_bd (m_gI 0 9 x0) fun v48 =>
        m_rt v48
      else
        m_bd (m_gR 0 8 x0) fun v49 =>
        m_bd (m_gI 0 9 x0) fun v50 =>
        m_bd (m_new 3) fun a51 =>
        m_bd (fn_Fa_init a51) fun _ =>
        m_bd (m_tR 5 3 v49 v50 (some a51)) fun _ =>
        m_bd (m_gR 0 8 x0) fun v52 =>
        m_bd (m_gI 0 9 x0) fun v53 =>
        m_bd (m_aR 5 v52 v53) fun v54 =>
        m_bd (m_gR 0 5 x0) fun v55 =>
        m_bd (fn_Fa_copyPeopleAndThings v54 v55) fun _ =>
        m_bd (m_gR 0 8 x0) fun v56 =>
        m_bd (m_gI 0 9 x0) fun v57 =>
        m_bd (m_aR 5 v56 v57) fun v58 =>
        m_bd (m_gR 3 9 v58) fun v59 =>
        m_bd (m_gR 0 5 x0) fun v60 =>
        m_bd (m_gR 3 9 v60) fun v61 =>
        m_bd (fn_Pl_copyFrom v59 v61) fun _ =>
        m_bd (m_gI 0 9 x0) fun v62 =>
        m_bd (m_pI 0 9 x0 (v62 + 1)) fun _ =>
        m_bd (m_gI 0 9 x0) fun v63 =>
        m_rt v63
    else
      m_rt (-1)
set_option maxHeartbeats 4000000 in
set_option maxRecDepth 100000 in
theorem sd_C_mark (x0 : Option mA) : m_Sm k_C_mark 3 31 312 [.inr (.inr x0)] (fn_C_mark x0) (fun b => some (.inl b)) := by
  refine ⟨Nat.le_of_ble_eq_true rfl, ?_⟩
  refine sm_th ?_
  refine sm_aload_n (i := 0) (j := 0) (pc' := 1) d_C_mark_0 rfl rfl rfl (sm_aload_n (i := 0) (j := 0) (pc' := 2) d_C_mark_1 rfl rfl rfl ?_)
  refine sm_getI (pc' := 5) d_C_mark_2 rfl fl_C_55 rfl ⟨by decide, by decide⟩ (fun v1 => ?_)
  refine sm_iconst (pc' := 6) d_C_mark_5 rfl ic_3 ?_
  refine sm_icmp_lt (tgt := 14) (pc' := 9) d_C_mark_6 rfl rfl ?_ ?_
  · refine sm_iconst (pc' := 15) d_C_mark_14 rfl ic_0 (sm_putI (pc' := 18) d_C_mark_15 rfl fl_C_9 (Or.inl rfl) rfl (sm_aload_n (i := 0) (j := 0) (pc' := 19) d_C_mark_18 rfl rfl rfl ?_))
    refine sm_getI (pc' := 22) d_C_mark_19 rfl fl_C_9 rfl ⟨by decide, by decide⟩ (fun v2 => ?_)
    refine sm_if_eq (tgt := 27) (pc' := 25) d_C_mark_22 rfl rfl ?_ ?_
    · refine sm_aload_n (i := 0) (j := 0) (pc' := 28) d_C_mark_27 rfl rfl rfl ?_
      refine sm_getR (pc' := 31) d_C_mark_28 rfl fl_C_51 rfl rfl (fun v3 => ?_)
      refine sm_aload_n (i := 0) (j := 0) (pc' := 32) d_C_mark_31 rfl rfl rfl ?_
      refine sm_getI (pc' := 35) d_C_mark_32 rfl fl_C_55 rfl ⟨by decide, by decide⟩ (fun v4 => ?_)
      refine sm_aald (t := 5) ⟨by decide, by decide⟩ rfl (pc' := 36) d_C_mark_35 rfl (fun v5 => ?_)
      refine sm_ifnonnull (tgt := 55) (pc' := 39) d_C_mark_36 rfl rfl ?_ ?_
      · refine sm_wid (mc' := 0) (ms' := 0) (by decide) (by decide) ?_
        refine sm_aload_n (i := 0) (j := 0) (pc' := 56) d_C_mark_55 rfl rfl rfl ?_
        refine sm_getR (pc' := 59) d_C_mark_56 rfl fl_C_51 rfl rfl (fun v6 => ?_)
        refine sm_aload_n (i := 0) (j := 0) (pc' := 60) d_C_mark_59 rfl rfl rfl ?_
        refine sm_getI (pc' := 63) d_C_mark_60 rfl fl_C_55 rfl ⟨by decide, by decide⟩ (fun v7 => ?_)
        refine sm_aald (t := 5) ⟨by decide, by decide⟩ rfl (pc' := 64) d_C_mark_63 rfl (fun v8 => ?_)
        refine sm_aload_n (i := 0) (j := 0) (pc' := 65) d_C_mark_64 rfl rfl rfl ?_
        refine sm_getR (pc' := 68) d_C_mark_65 rfl fl_C_37 rfl rfl (fun v9 => ?_)
        refine sm_callVv (ci := 3) (x := v8) (av := [.inr (.inr v9)]) (st := []) (mc := 0) (ms := 0) (pc' := 71) d_C_mark_68 rfl (sd_Fa_copyPeopleAndThings v8 v9) m_lv rfl cv_Fa_copyPeopleAndThings w_ml_C_434 rfl rfl (by decide) (Nat.le_of_ble_eq_true rfl) rfl rfl ?_
        refine sm_aload_n (i := 0) (j := 0) (pc' := 72) d_C_mark_71 rfl rfl rfl ?_
        refine sm_getR (pc' := 75) d_C_mark_72 rfl fl_C_51 rfl rfl (fun v10 => ?_)
        refine sm_aload_n (i := 0) (j := 0) (pc' := 76) d_C_mark_75 rfl rfl rfl ?_
        refine sm_getI (pc' := 79) d_C_mark_76 rfl fl_C_55 rfl ⟨by decide, by decide⟩ (fun v11 => ?_)
        refine sm_aald (t := 5) ⟨by decide, by decide⟩ rfl (pc' := 80) d_C_mark_79 rfl (fun v12 => ?_)
        refine sm_getR (pc' := 83) d_C_mark_80 rfl fl_C_163 rfl rfl (fun v13 => ?_)
        refine sm_aload_n (i := 0) (j := 0) (pc' := 84) d_C_mark_83 rfl rfl rfl ?_
        refine sm_getR (pc' := 87) d_C_mark_84 rfl fl_C_37 rfl rfl (fun v14 => ?_)
        refine sm_getR (pc' := 90) d_C_mark_87 rfl fl_C_163 rfl rfl (fun v15 => ?_)
        refine sm_callVv (ci := 6) (x := v13) (av := [.inr (.inr v15)]) (st := []) (mc := 0) (ms := 0) (pc' := 93) d_C_mark_90 rfl (sd_Pl_copyFrom v13 v15) m_lv rfl cv_Pl_copyFrom w_ml_C_438 rfl rfl (by decide) (Nat.le_of_ble_eq_true rfl) rfl rfl ?_
        refine sm_aload_n (i := 0) (j := 0) (pc' := 94) d_C_mark_93 rfl rfl rfl (sm_dup (pc' := 95) d_C_mark_94 rfl rfl ?_)
        refine sm_getI (pc' := 98) d_C_mark_95 rfl fl_C_55 rfl ⟨by decide, by decide⟩ (fun v16 => ?_)
        refine sm_iconst (pc' := 99) d_C_mark_98 rfl ic_1 (sm_iadd (pc' := 100) d_C_mark_99 rfl (sm_putI (pc' := 103) d_C_mark_100 rfl fl_C_55 (Or.inl rfl) rfl (sm_aload_n (i := 0) (j := 0) (pc' := 104) d_C_mark_103 rfl rfl rfl ?_)))
        refine sm_getI (pc' := 107) d_C_mark_104 rfl fl_C_55 rfl ⟨by decide, by decide⟩ (fun v17 => ?_)
        exact sm_ireturn d_C_mark_107 rfl rfl
      · refine sm_aload_n (i := 0) (j := 0) (pc' := 40) d_C_mark_39 rfl rfl rfl ?_
        refine sm_getR (pc' := 43) d_C_mark_40 rfl fl_C_51 rfl rfl (fun v18 => ?_)
        refine sm_aload_n (i := 0) (j := 0) (pc' := 44) d_C_mark_43 rfl rfl rfl ?_
        refine sm_getI (pc' := 47) d_C_mark_44 rfl fl_C_55 rfl ⟨by decide, by decide⟩ (fun v19 => ?_)
        refine sm_new (mc := 30) (ms := 302) (pc' := 50) d_C_mark_47 rfl nw_C_34 rfl rfl (fun a20 => ?_)
        refine sm_dup (pc' := 51) d_C_mark_50 rfl rfl (sm_callI (av := []) (x := (some a20)) (st := [.inr (.inr (some a20)), .inl v19, .inr (.inr v18)]) (mc := 0) (ms := 0) (pc' := 54) d_C_mark_51 rfl (sd_Fa_init a20) (fun _ _ _ => rfl) ci_Fa_init (Or.inl w_ml_C_36) rfl rfl (by decide) (Nat.le_of_ble_eq_true rfl) rfl rfl (sm_aast (t := 5) (ci := 3) ⟨by decide, by decide⟩ rfl rfl rfl (pc' := 55) d_C_mark_54 rfl (sm_aload_n (i := 0) (j := 0) (pc' := 56) d_C_mark_55 rfl rfl rfl ?_)))
        refine sm_getR (pc' := 59) d_C_mark_56 rfl fl_C_51 rfl rfl (fun v21 => ?_)
        refine sm_aload_n (i := 0) (j := 0) (pc' := 60) d_C_mark_59 rfl rfl rfl ?_
        refine sm_getI (pc' := 63) d_C_mark_60 rfl fl_C_55 rfl ⟨by decide, by decide⟩ (fun v22 => ?_)
        refine sm_aald (t := 5) ⟨by decide, by decide⟩ rfl (pc' := 64) d_C_mark_63 rfl (fun v23 => ?_)
        refine sm_aload_n (i := 0) (j := 0) (pc' := 65) d_C_mark_64 rfl rfl rfl ?_
        refine sm_getR (pc' := 68) d_C_mark_65 rfl fl_C_37 rfl rfl (fun v24 => ?_)
        refine sm_callVv (ci := 3) (x := v23) (av := [.inr (.inr v24)]) (st := []) (mc := 0) (ms := 0) (pc' := 71) d_C_mark_68 rfl (sd_Fa_copyPeopleAndThings v23 v24) m_lv rfl cv_Fa_copyPeopleAndThings w_ml_C_434 rfl rfl (by decide) (Nat.le_of_ble_eq_true rfl) rfl rfl ?_
        refine sm_aload_n (i := 0) (j := 0) (pc' := 72) d_C_mark_71 rfl rfl rfl ?_
        refine sm_getR (pc' := 75) d_C_mark_72 rfl fl_C_51 rfl rfl (fun v25 => ?_)
        refine sm_aload_n (i := 0) (j := 0) (pc' := 76) d_C_mark_75 rfl rfl rfl ?_
        refine sm_getI (pc' := 79) d_C_mark_76 rfl fl_C_55 rfl ⟨by decide, by decide⟩ (fun v26 => ?_)
        refine sm_aald (t := 5) ⟨by decide, by decide⟩ rfl (pc' := 80) d_C_mark_79 rfl (fun v27 => ?_)
        refine sm_getR (pc' := 83) d_C_mark_80 rfl fl_C_163 rfl rfl (fun v28 => ?_)
        refine sm_aload_n (i := 0) (j := 0) (pc' := 84) d_C_mark_83 rfl rfl rfl ?_
        refine sm_getR (pc' := 87) d_C_mark_84 rfl fl_C_37 rfl rfl (fun v29 => ?_)
        refine sm_getR (pc' := 90) d_C_mark_87 rfl fl_C_163 rfl rfl (fun v30 => ?_)
        refine sm_callVv (ci := 6) (x := v28) (av := [.inr (.inr v30)]) (st := []) (mc := 0) (ms := 0) (pc' := 93) d_C_mark_90 rfl (sd_Pl_copyFrom v28 v30) m_lv rfl cv_Pl_copyFrom w_ml_C_438 rfl rfl (by decide) (Nat.le_of_ble_eq_true rfl) rfl rfl ?_
        refine sm_aload_n (i := 0) (j := 0) (pc' := 94) d_C_mark_93 rfl rfl rfl (sm_dup (pc' := 95) d_C_mark_94 rfl rfl ?_)
        refine sm_getI (pc' := 98) d_C_mark_95 rfl fl_C_55 rfl ⟨by decide, by decide⟩ (fun v31 => ?_)
        refine sm_iconst (pc' := 99) d_C_mark_98 rfl ic_1 (sm_iadd (pc' := 100) d_C_mark_99 rfl (sm_putI (pc' := 103) d_C_mark_100 rfl fl_C_55 (Or.inl rfl) rfl (sm_aload_n (i := 0) (j := 0) (pc' := 104) d_C_mark_103 rfl rfl rfl ?_)))
        refine sm_getI (pc' := 107) d_C_mark_104 rfl fl_C_55 rfl ⟨by decide, by decide⟩ (fun v32 => ?_)
        exact sm_ireturn d_C_mark_107 rfl rfl
    · refine sm_wid (mc' := 0) (ms' := 0) (by decide) (by decide) ?_
      refine sm_iconst (pc' := 26) d_C_mark_25 rfl ic_m1 ?_
      exact sm_ireturn d_C_mark_26 rfl rfl
  · refine sm_bipush (pc' := 11) d_C_mark_9 rfl ib_7 (sm_goto (tgt := 15) d_C_mark_11 rfl (sm_putI (pc' := 18) d_C_mark_15 rfl fl_C_9 (Or.inl rfl) rfl (sm_aload_n (i := 0) (j := 0) (pc' := 19) d_C_mark_18 rfl rfl rfl ?_)))
    refine sm_getI (pc' := 22) d_C_mark_19 rfl fl_C_9 rfl ⟨by decide, by decide⟩ (fun v33 => ?_)
    refine sm_if_eq (tgt := 27) (pc' := 25) d_C_mark_22 rfl rfl ?_ ?_
    · refine sm_aload_n (i := 0) (j := 0) (pc' := 28) d_C_mark_27 rfl rfl rfl ?_
      refine sm_getR (pc' := 31) d_C_mark_28 rfl fl_C_51 rfl rfl (fun v34 => ?_)
      refine sm_aload_n (i := 0) (j := 0) (pc' := 32) d_C_mark_31 rfl rfl rfl ?_
      refine sm_getI (pc' := 35) d_C_mark_32 rfl fl_C_55 rfl ⟨by decide, by decide⟩ (fun v35 => ?_)
      refine sm_aald (t := 5) ⟨by decide, by decide⟩ rfl (pc' := 36) d_C_mark_35 rfl (fun v36 => ?_)
      refine sm_ifnonnull (tgt := 55) (pc' := 39) d_C_mark_36 rfl rfl ?_ ?_
      · refine sm_wid (mc' := 0) (ms' := 0) (by decide) (by decide) ?_
        refine sm_aload_n (i := 0) (j := 0) (pc' := 56) d_C_mark_55 rfl rfl rfl ?_
        refine sm_getR (pc' := 59) d_C_mark_56 rfl fl_C_51 rfl rfl (fun v37 => ?_)
        refine sm_aload_n (i := 0) (j := 0) (pc' := 60) d_C_mark_59 rfl rfl rfl ?_
        refine sm_getI (pc' := 63) d_C_mark_60 rfl fl_C_55 rfl ⟨by decide, by decide⟩ (fun v38 => ?_)
        refine sm_aald (t := 5) ⟨by decide, by decide⟩ rfl (pc' := 64) d_C_mark_63 rfl (fun v39 => ?_)
        refine sm_aload_n (i := 0) (j := 0) (pc' := 65) d_C_mark_64 rfl rfl rfl ?_
        refine sm_getR (pc' := 68) d_C_mark_65 rfl fl_C_37 rfl rfl (fun v40 => ?_)
        refine sm_callVv (ci := 3) (x := v39) (av := [.inr (.inr v40)]) (st := []) (mc := 0) (ms := 0) (pc' := 71) d_C_mark_68 rfl (sd_Fa_copyPeopleAndThings v39 v40) m_lv rfl cv_Fa_copyPeopleAndThings w_ml_C_434 rfl rfl (by decide) (Nat.le_of_ble_eq_true rfl) rfl rfl ?_
        refine sm_aload_n (i := 0) (j := 0) (pc' := 72) d_C_mark_71 rfl rfl rfl ?_
        refine sm_getR (pc' := 75) d_C_mark_72 rfl fl_C_51 rfl rfl (fun v41 => ?_)
        refine sm_aload_n (i := 0) (j := 0) (pc' := 76) d_C_mark_75 rfl rfl rfl ?_
        refine sm_getI (pc' := 79) d_C_mark_76 rfl fl_C_55 rfl ⟨by decide, by decide⟩ (fun v42 => ?_)
        refine sm_aald (t := 5) ⟨by decide, by decide⟩ rfl (pc' := 80) d_C_mark_79 rfl (fun v43 => ?_)
        refine sm_getR (pc' := 83) d_C_mark_80 rfl fl_C_163 rfl rfl (fun v44 => ?_)
        refine sm_aload_n (i := 0) (j := 0) (pc' := 84) d_C_mark_83 rfl rfl rfl ?_
        refine sm_getR (pc' := 87) d_C_mark_84 rfl fl_C_37 rfl rfl (fun v45 => ?_)
        refine sm_getR (pc' := 90) d_C_mark_87 rfl fl_C_163 rfl rfl (fun v46 => ?_)
        refine sm_callVv (ci := 6) (x := v44) (av := [.inr (.inr v46)]) (st := []) (mc := 0) (ms := 0) (pc' := 93) d_C_mark_90 rfl (sd_Pl_copyFrom v44 v46) m_lv rfl cv_Pl_copyFrom w_ml_C_438 rfl rfl (by decide) (Nat.le_of_ble_eq_true rfl) rfl rfl ?_
        refine sm_aload_n (i := 0) (j := 0) (pc' := 94) d_C_mark_93 rfl rfl rfl (sm_dup (pc' := 95) d_C_mark_94 rfl rfl ?_)
        refine sm_getI (pc' := 98) d_C_mark_95 rfl fl_C_55 rfl ⟨by decide, by decide⟩ (fun v47 => ?_)
        refine sm_iconst (pc' := 99) d_C_mark_98 rfl ic_1 (sm_iadd (pc' := 100) d_C_mark_99 rfl (sm_putI (pc' := 103) d_C_mark_100 rfl fl_C_55 (Or.inl rfl) rfl (sm_aload_n (i := 0) (j := 0) (pc' := 104) d_C_mark_103 rfl rfl rfl ?_)))
        refine sm_getI (pc' := 107) d_C_mark_104 rfl fl_C_55 rfl ⟨by decide, by decide⟩ (fun v48 => ?_)
        exact sm_ireturn d_C_mark_107 rfl rfl
      · refine sm_aload_n (i := 0) (j := 0) (pc' := 40) d_C_mark_39 rfl rfl rfl ?_
        refine sm_getR (pc' := 43) d_C_mark_40 rfl fl_C_51 rfl rfl (fun v49 => ?_)
        refine sm_aload_n (i := 0) (j := 0) (pc' := 44) d_C_mark_43 rfl rfl rfl ?_
        refine sm_getI (pc' := 47) d_C_mark_44 rfl fl_C_55 rfl ⟨by decide, by decide⟩ (fun v50 => ?_)
        refine sm_new (mc := 30) (ms := 302) (pc' := 50) d_C_mark_47 rfl nw_C_34 rfl rfl (fun a51 => ?_)
        refine sm_dup (pc' := 51) d_C_mark_50 rfl rfl (sm_callI (av := []) (x := (some a51)) (st := [.inr (.inr (some a51)), .inl v50, .inr (.inr v49)]) (mc := 0) (ms := 0) (pc' := 54) d_C_mark_51 rfl (sd_Fa_init a51) (fun _ _ _ => rfl) ci_Fa_init (Or.inl w_ml_C_36) rfl rfl (by decide) (Nat.le_of_ble_eq_true rfl) rfl rfl (sm_aast (t := 5) (ci := 3) ⟨by decide, by decide⟩ rfl rfl rfl (pc' := 55) d_C_mark_54 rfl (sm_aload_n (i := 0) (j := 0) (pc' := 56) d_C_mark_55 rfl rfl rfl ?_)))
        refine sm_getR (pc' := 59) d_C_mark_56 rfl fl_C_51 rfl rfl (fun v52 => ?_)
        refine sm_aload_n (i := 0) (j := 0) (pc' := 60) d_C_mark_59 rfl rfl rfl ?_
        refine sm_getI (pc' := 63) d_C_mark_60 rfl fl_C_55 rfl ⟨by decide, by decide⟩ (fun v53 => ?_)
        refine sm_aald (t := 5) ⟨by decide, by decide⟩ rfl (pc' := 64) d_C_mark_63 rfl (fun v54 => ?_)
        refine sm_aload_n (i := 0) (j := 0) (pc' := 65) d_C_mark_64 rfl rfl rfl ?_
        refine sm_getR (pc' := 68) d_C_mark_65 rfl fl_C_37 rfl rfl (fun v55 => ?_)
        refine sm_callVv (ci := 3) (x := v54) (av := [.inr (.inr v55)]) (st := []) (mc := 0) (ms := 0) (pc' := 71) d_C_mark_68 rfl (sd_Fa_copyPeopleAndThings v54 v55) m_lv rfl cv_Fa_copyPeopleAndThings w_ml_C_434 rfl rfl (by decide) (Nat.le_of_ble_eq_true rfl) rfl rfl ?_
        refine sm_aload_n (i := 0) (j := 0) (pc' := 72) d_C_mark_71 rfl rfl rfl ?_
        refine sm_getR (pc' := 75) d_C_mark_72 rfl fl_C_51 rfl rfl (fun v56 => ?_)
        refine sm_aload_n (i := 0) (j := 0) (pc' := 76) d_C_mark_75 rfl rfl rfl ?_
        refine sm_getI (pc' := 79) d_C_mark_76 rfl fl_C_55 rfl ⟨by decide, by decide⟩ (fun v57 => ?_)
        refine sm_aald (t := 5) ⟨by decide, by decide⟩ rfl (pc' := 80) d_C_mark_79 rfl (fun v58 => ?_)
        refine sm_getR (pc' := 83) d_C_mark_80 rfl fl_C_163 rfl rfl (fun v59 => ?_)
        refine sm_aload_n (i := 0) (j := 0) (pc' := 84) d_C_mark_83 rfl rfl rfl ?_
        refine sm_getR (pc' := 87) d_C_mark_84 rfl fl_C_37 rfl rfl (fun v60 => ?_)
        refine sm_getR (pc' := 90) d_C_mark_87 rfl fl_C_163 rfl rfl (fun v61 => ?_)
        refine sm_callVv (ci := 6) (x := v59) (av := [.inr (.inr v61)]) (st := []) (mc := 0) (ms := 0) (pc' := 93) d_C_mark_90 rfl (sd_Pl_copyFrom v59 v61) m_lv rfl cv_Pl_copyFrom w_ml_C_438 rfl rfl (by decide) (Nat.le_of_ble_eq_true rfl) rfl rfl ?_
        refine sm_aload_n (i := 0) (j := 0) (pc' := 94) d_C_mark_93 rfl rfl rfl (sm_dup (pc' := 95) d_C_mark_94 rfl rfl ?_)
        refine sm_getI (pc' := 98) d_C_mark_95 rfl fl_C_55 rfl ⟨by decide, by decide⟩ (fun v62 => ?_)
        refine sm_iconst (pc' := 99) d_C_mark_98 rfl ic_1 (sm_iadd (pc' := 100) d_C_mark_99 rfl (sm_putI (pc' := 103) d_C_mark_100 rfl fl_C_55 (Or.inl rfl) rfl (sm_aload_n (i := 0) (j := 0) (pc' := 104) d_C_mark_103 rfl rfl rfl ?_)))
        refine sm_getI (pc' := 107) d_C_mark_104 rfl fl_C_55 rfl ⟨by decide, by decide⟩ (fun v63 => ?_)
        exact sm_ireturn d_C_mark_107 rfl rfl
    · refine sm_wid (mc' := 0) (ms' := 0) (by decide) (by decide) ?_
      refine sm_iconst (pc' := 26) d_C_mark_25 rfl ic_m1 ?_
      exact sm_ireturn d_C_mark_26 rfl rfl
theorem d_C_back_0 : m_D k_C_back 0 (.aload_n 0) 1 := (by decide +kernel : decode prog_1_method_73_code 0 = .ok (.aload_n 0, 1))
theorem d_C_back_1 : m_D k_C_back 1 (.getfield 55) 3 := (by decide +kernel : decode prog_1_method_73_code 1 = .ok (.getfield 55, 3))
theorem d_C_back_4 : m_D k_C_back 4 (.ifCond .le 17) 3 := (by decide +kernel : decode prog_1_method_73_code 4 = .ok (.ifCond .le 17, 3))
theorem d_C_back_7 : m_D k_C_back 7 (.aload_n 0) 1 := (by decide +kernel : decode prog_1_method_73_code 7 = .ok (.aload_n 0, 1))
theorem d_C_back_8 : m_D k_C_back 8 (.getfield 51) 3 := (by decide +kernel : decode prog_1_method_73_code 8 = .ok (.getfield 51, 3))
theorem d_C_back_11 : m_D k_C_back 11 (.aload_n 0) 1 := (by decide +kernel : decode prog_1_method_73_code 11 = .ok (.aload_n 0, 1))
theorem d_C_back_12 : m_D k_C_back 12 (.getfield 55) 3 := (by decide +kernel : decode prog_1_method_73_code 12 = .ok (.getfield 55, 3))
theorem d_C_back_15 : m_D k_C_back 15 (.iconst 1) 1 := (by decide +kernel : decode prog_1_method_73_code 15 = .ok (.iconst 1, 1))
theorem d_C_back_16 : m_D k_C_back 16 (.isub) 1 := (by decide +kernel : decode prog_1_method_73_code 16 = .ok (.isub, 1))
theorem d_C_back_17 : m_D k_C_back 17 (.aaload) 1 := (by decide +kernel : decode prog_1_method_73_code 17 = .ok (.aaload, 1))
theorem d_C_back_18 : m_D k_C_back 18 (.goto 4) 3 := (by decide +kernel : decode prog_1_method_73_code 18 = .ok (.goto 4, 3))
theorem d_C_back_21 : m_D k_C_back 21 (.aconst_null) 1 := (by decide +kernel : decode prog_1_method_73_code 21 = .ok (.aconst_null, 1))
theorem d_C_back_22 : m_D k_C_back 22 (.astore_n 1) 1 := (by decide +kernel : decode prog_1_method_73_code 22 = .ok (.astore_n 1, 1))
theorem d_C_back_23 : m_D k_C_back 23 (.aload_n 1) 1 := (by decide +kernel : decode prog_1_method_73_code 23 = .ok (.aload_n 1, 1))
theorem d_C_back_24 : m_D k_C_back 24 (.ifnonnull 9) 3 := (by decide +kernel : decode prog_1_method_73_code 24 = .ok (.ifnonnull 9, 3))
theorem d_C_back_27 : m_D k_C_back 27 (.aload_n 0) 1 := (by decide +kernel : decode prog_1_method_73_code 27 = .ok (.aload_n 0, 1))
theorem d_C_back_28 : m_D k_C_back 28 (.iconst (-1)) 1 := (by decide +kernel : decode prog_1_method_73_code 28 = .ok (.iconst (-1), 1))
theorem d_C_back_29 : m_D k_C_back 29 (.invokevirtual 310) 3 := (by decide +kernel : decode prog_1_method_73_code 29 = .ok (.invokevirtual 310, 3))
theorem d_C_back_32 : m_D k_C_back 32 (.ireturn) 1 := (by decide +kernel : decode prog_1_method_73_code 32 = .ok (.ireturn, 1))
theorem d_C_back_33 : m_D k_C_back 33 (.aload_n 0) 1 := (by decide +kernel : decode prog_1_method_73_code 33 = .ok (.aload_n 0, 1))
theorem d_C_back_34 : m_D k_C_back 34 (.iconst 0) 1 := (by decide +kernel : decode prog_1_method_73_code 34 = .ok (.iconst 0, 1))
theorem d_C_back_35 : m_D k_C_back 35 (.putfield 9) 3 := (by decide +kernel : decode prog_1_method_73_code 35 = .ok (.putfield 9, 3))
theorem d_C_back_38 : m_D k_C_back 38 (.aload_n 0) 1 := (by decide +kernel : decode prog_1_method_73_code 38 = .ok (.aload_n 0, 1))
theorem d_C_back_39 : m_D k_C_back 39 (.dup) 1 := (by decide +kernel : decode prog_1_method_73_code 39 = .ok (.dup, 1))
theorem d_C_back_40 : m_D k_C_back 40 (.getfield 55) 3 := (by decide +kernel : decode prog_1_method_73_code 40 = .ok (.getfield 55, 3))
theorem d_C_back_43 : m_D k_C_back 43 (.iconst 1) 1 := (by decide +kernel : decode prog_1_method_73_code 43 = .ok (.iconst 1, 1))
theorem d_C_back_44 : m_D k_C_back 44 (.isub) 1 := (by decide +kernel : decode prog_1_method_73_code 44 = .ok (.isub, 1))
theorem d_C_back_45 : m_D k_C_back 45 (.putfield 55) 3 := (by decide +kernel : decode prog_1_method_73_code 45 = .ok (.putfield 55, 3))
theorem d_C_back_48 : m_D k_C_back 48 (.aload_n 0) 1 := (by decide +kernel : decode prog_1_method_73_code 48 = .ok (.aload_n 0, 1))
theorem d_C_back_49 : m_D k_C_back 49 (.getfield 51) 3 := (by decide +kernel : decode prog_1_method_73_code 49 = .ok (.getfield 51, 3))
theorem d_C_back_52 : m_D k_C_back 52 (.aload_n 0) 1 := (by decide +kernel : decode prog_1_method_73_code 52 = .ok (.aload_n 0, 1))
theorem d_C_back_53 : m_D k_C_back 53 (.getfield 55) 3 := (by decide +kernel : decode prog_1_method_73_code 53 = .ok (.getfield 55, 3))
theorem d_C_back_56 : m_D k_C_back 56 (.aload_n 0) 1 := (by decide +kernel : decode prog_1_method_73_code 56 = .ok (.aload_n 0, 1))
theorem d_C_back_57 : m_D k_C_back 57 (.getfield 37) 3 := (by decide +kernel : decode prog_1_method_73_code 57 = .ok (.getfield 37, 3))
theorem d_C_back_60 : m_D k_C_back 60 (.aastore) 1 := (by decide +kernel : decode prog_1_method_73_code 60 = .ok (.aastore, 1))
theorem d_C_back_61 : m_D k_C_back 61 (.aload_n 0) 1 := (by decide +kernel : decode prog_1_method_73_code 61 = .ok (.aload_n 0, 1))
theorem d_C_back_62 : m_D k_C_back 62 (.aload_n 1) 1 := (by decide +kernel : decode prog_1_method_73_code 62 = .ok (.aload_n 1, 1))
theorem d_C_back_63 : m_D k_C_back 63 (.putfield 37) 3 := (by decide +kernel : decode prog_1_method_73_code 63 = .ok (.putfield 37, 3))
theorem d_C_back_66 : m_D k_C_back 66 (.aload_n 0) 1 := (by decide +kernel : decode prog_1_method_73_code 66 = .ok (.aload_n 0, 1))
theorem d_C_back_67 : m_D k_C_back 67 (.getfield 55) 3 := (by decide +kernel : decode prog_1_method_73_code 67 = .ok (.getfield 55, 3))
theorem d_C_back_70 : m_D k_C_back 70 (.ireturn) 1 := (by decide +kernel : decode prog_1_method_73_code 70 = .ok (.ireturn, 1))
def fn_C_back (x0 : Option mA) : mP Int32 :=
  m_th 0 x0 <|
  m_bd (m_gI 0 9 x0) fun v1 =>
  m_bd (α := Option mA) (
    if v1 ≤ 0 then
      m_rt none
    else
      m_bd (m_gR 0 8 x0) fun v2 =>
      m_bd (m_gI 0 9 x0) fun v3 =>
      m_bd (m_aR 5 v2 (v3 - 1)) fun v4 =>
      m_rt v4
    ) fun (t5 : Option mA) =>
  if (t5).isSome = true then
    m_bd (m_pI 0 0 x0 0) fun _ =>
    m_bd (m_gI 0 9 x0) fun v6 =>
    m_bd (m_pI 0 9 x0 (v6 - 1)) fun _ =>
    m_bd (m_gR 0 8 x0) fun v7 =>
    m_bd (m_gI 0 9 x0) fun v8 =>
    m_bd (m_gR 0 5 x0) fun v9 =>
    m_bd (m_tR 5 3 v7 v8 v9) fun _ =>
    m_bd (m_pR 0 5 x0 t5) fun _ =>
    m_bd (m_gI 0 9 x0) fun v10 =>
    m_rt v10
  else
    m_bd (fn_C_orNone x0 (-1)) fun v11 =>
    m_rt v11
set_option maxHeartbeats 4000000 in
set_option maxRecDepth 100000 in
theorem sd_C_back (x0 : Option mA) : m_Sm k_C_back 2 0 0 [.inr (.inr x0)] (fn_C_back x0) (fun b => some (.inl b)) := by
  refine ⟨Nat.le_of_ble_eq_true rfl, ?_⟩
  refine sm_th ?_
  refine sm_aload_n (i := 0) (j := 0) (pc' := 1) d_C_back_0 rfl rfl rfl ?_
  refine sm_getI (pc' := 4) d_C_back_1 rfl fl_C_55 rfl ⟨by decide, by decide⟩ (fun v1 => ?_)
  refine sm_bd (mid := fun (t5 : Option mA) => .inl (22, [(0, .inr (.inr x0))], [.inr (.inr t5)])) ?_ (fun t5 => ?_)
  · refine sm_if_le (tgt := 21) (pc' := 7) d_C_back_4 rfl rfl ?_ ?_
    · refine sm_null (pc' := 22) d_C_back_21 rfl (sm_sub [0] rfl ?_)
      exact sm_rt rfl
    · refine sm_aload_n (i := 0) (j := 0) (pc' := 8) d_C_back_7 rfl rfl rfl ?_
      refine sm_getR (pc' := 11) d_C_back_8 rfl fl_C_51 rfl rfl (fun v2 => ?_)
      refine sm_aload_n (i := 0) (j := 0) (pc' := 12) d_C_back_11 rfl rfl rfl ?_
      refine sm_getI (pc' := 15) d_C_back_12 rfl fl_C_55 rfl ⟨by decide, by decide⟩ (fun v3 => ?_)
      refine sm_iconst (pc' := 16) d_C_back_15 rfl ic_1 (sm_isub (pc' := 17) d_C_back_16 rfl ?_)
      refine sm_aald (t := 5) ⟨by decide, by decide⟩ rfl (pc' := 18) d_C_back_17 rfl (fun v4 => ?_)
      refine sm_goto (tgt := 22) d_C_back_18 rfl (sm_sub [0] rfl ?_)
      exact sm_rt rfl
  · refine sm_astore_n (i := 1) (L' := [(1, .inr (.inr t5)), (0, .inr (.inr x0))]) (pc' := 23) d_C_back_22 rfl rfl (Nat.le_of_ble_eq_true rfl) rfl (sm_aload_n (i := 1) (j := 0) (pc' := 24) d_C_back_23 rfl rfl rfl ?_)
    refine sm_ifnonnull (tgt := 33) (pc' := 27) d_C_back_24 rfl rfl ?_ ?_
    · refine sm_aload_n (i := 0) (j := 1) (pc' := 34) d_C_back_33 rfl rfl rfl (sm_iconst (pc' := 35) d_C_back_34 rfl ic_0 (sm_putI (pc' := 38) d_C_back_35 rfl fl_C_9 (Or.inl rfl) rfl (sm_aload_n (i := 0) (j := 1) (pc' := 39) d_C_back_38 rfl rfl rfl (sm_dup (pc' := 40) d_C_back_39 rfl rfl ?_))))
      refine sm_getI (pc' := 43) d_C_back_40 rfl fl_C_55 rfl ⟨by decide, by decide⟩ (fun v6 => ?_)
      refine sm_iconst (pc' := 44) d_C_back_43 rfl ic_1 (sm_isub (pc' := 45) d_C_back_44 rfl (sm_putI (pc' := 48) d_C_back_45 rfl fl_C_55 (Or.inl rfl) rfl (sm_aload_n (i := 0) (j := 1) (pc' := 49) d_C_back_48 rfl rfl rfl ?_)))
      refine sm_getR (pc' := 52) d_C_back_49 rfl fl_C_51 rfl rfl (fun v7 => ?_)
      refine sm_aload_n (i := 0) (j := 1) (pc' := 53) d_C_back_52 rfl rfl rfl ?_
      refine sm_getI (pc' := 56) d_C_back_53 rfl fl_C_55 rfl ⟨by decide, by decide⟩ (fun v8 => ?_)
      refine sm_aload_n (i := 0) (j := 1) (pc' := 57) d_C_back_56 rfl rfl rfl ?_
      refine sm_getR (pc' := 60) d_C_back_57 rfl fl_C_37 rfl rfl (fun v9 => ?_)
      refine sm_aast (t := 5) (ci := 3) ⟨by decide, by decide⟩ rfl rfl rfl (pc' := 61) d_C_back_60 rfl (sm_aload_n (i := 0) (j := 1) (pc' := 62) d_C_back_61 rfl rfl rfl (sm_aload_n (i := 1) (j := 0) (pc' := 63) d_C_back_62 rfl rfl rfl (sm_putR (pc' := 66) d_C_back_63 rfl fl_C_37 rfl (Or.inl rfl) rfl (sm_aload_n (i := 0) (j := 1) (pc' := 67) d_C_back_66 rfl rfl rfl ?_))))
      refine sm_getI (pc' := 70) d_C_back_67 rfl fl_C_55 rfl ⟨by decide, by decide⟩ (fun v10 => ?_)
      exact sm_ireturn d_C_back_70 rfl rfl
    · refine sm_aload_n (i := 0) (j := 1) (pc' := 28) d_C_back_27 rfl rfl rfl (sm_iconst (pc' := 29) d_C_back_28 rfl ic_m1 ?_)
      refine sm_callVi (ci := 0) (x := x0) (av := [.inl (-1)]) (st := []) (mc := 0) (ms := 0) (pc' := 32) d_C_back_29 rfl (sd_C_orNone x0 (-1)) m_lv rfl cv_C_orNone w_ml_C_310 rfl rfl (by decide) (Nat.le_of_ble_eq_true rfl) rfl rfl (fun v11 => ?_)
      exact sm_ireturn d_C_back_32 rfl rfl
