/-! 10.ref0, laid by wip/whole/gen.py -/
theorem d_M_empties_0 : m_D k_M_empties 0 (.sipush 377) 3 := (by decide +kernel : decode prog_14_method_56_code 0 = .ok (.sipush 377, 3))
theorem d_M_empties_3 : m_D k_M_empties 3 (.iload_n 1) 1 := (by decide +kernel : decode prog_14_method_56_code 3 = .ok (.iload_n 1, 1))
theorem d_M_empties_4 : m_D k_M_empties 4 (.imul) 1 := (by decide +kernel : decode prog_14_method_56_code 4 = .ok (.imul, 1))
theorem d_M_empties_5 : m_D k_M_empties 5 (.istore_n 2) 1 := (by decide +kernel : decode prog_14_method_56_code 5 = .ok (.istore_n 2, 1))
theorem d_M_empties_6 : m_D k_M_empties 6 (.iconst 0) 1 := (by decide +kernel : decode prog_14_method_56_code 6 = .ok (.iconst 0, 1))
theorem d_M_empties_7 : m_D k_M_empties 7 (.istore_n 3) 1 := (by decide +kernel : decode prog_14_method_56_code 7 = .ok (.istore_n 3, 1))
theorem d_M_empties_8 : m_D k_M_empties 8 (.iload_n 3) 1 := (by decide +kernel : decode prog_14_method_56_code 8 = .ok (.iload_n 3, 1))
theorem d_M_empties_9 : m_D k_M_empties 9 (.sipush 377) 3 := (by decide +kernel : decode prog_14_method_56_code 9 = .ok (.sipush 377, 3))
theorem d_M_empties_12 : m_D k_M_empties 12 (.if_icmp .ge 18) 3 := (by decide +kernel : decode prog_14_method_56_code 12 = .ok (.if_icmp .ge 18, 3))
theorem d_M_empties_15 : m_D k_M_empties 15 (.aload_n 0) 1 := (by decide +kernel : decode prog_14_method_56_code 15 = .ok (.aload_n 0, 1))
theorem d_M_empties_16 : m_D k_M_empties 16 (.getfield 35) 3 := (by decide +kernel : decode prog_14_method_56_code 16 = .ok (.getfield 35, 3))
theorem d_M_empties_19 : m_D k_M_empties 19 (.iload_n 2) 1 := (by decide +kernel : decode prog_14_method_56_code 19 = .ok (.iload_n 2, 1))
theorem d_M_empties_20 : m_D k_M_empties 20 (.iload_n 3) 1 := (by decide +kernel : decode prog_14_method_56_code 20 = .ok (.iload_n 3, 1))
theorem d_M_empties_21 : m_D k_M_empties 21 (.iadd) 1 := (by decide +kernel : decode prog_14_method_56_code 21 = .ok (.iadd, 1))
theorem d_M_empties_22 : m_D k_M_empties 22 (.iconst 0) 1 := (by decide +kernel : decode prog_14_method_56_code 22 = .ok (.iconst 0, 1))
theorem d_M_empties_23 : m_D k_M_empties 23 (.iastore) 1 := (by decide +kernel : decode prog_14_method_56_code 23 = .ok (.iastore, 1))
theorem d_M_empties_24 : m_D k_M_empties 24 (.iinc 3 1) 3 := (by decide +kernel : decode prog_14_method_56_code 24 = .ok (.iinc 3 1, 3))
theorem d_M_empties_27 : m_D k_M_empties 27 (.goto (-19)) 3 := (by decide +kernel : decode prog_14_method_56_code 27 = .ok (.goto (-19), 3))
theorem d_M_empties_30 : m_D k_M_empties 30 (.aload_n 0) 1 := (by decide +kernel : decode prog_14_method_56_code 30 = .ok (.aload_n 0, 1))
theorem d_M_empties_31 : m_D k_M_empties 31 (.getfield 35) 3 := (by decide +kernel : decode prog_14_method_56_code 31 = .ok (.getfield 35, 3))
theorem d_M_empties_34 : m_D k_M_empties 34 (.iload_n 2) 1 := (by decide +kernel : decode prog_14_method_56_code 34 = .ok (.iload_n 2, 1))
theorem d_M_empties_35 : m_D k_M_empties 35 (.iconst 2) 1 := (by decide +kernel : decode prog_14_method_56_code 35 = .ok (.iconst 2, 1))
theorem d_M_empties_36 : m_D k_M_empties 36 (.iadd) 1 := (by decide +kernel : decode prog_14_method_56_code 36 = .ok (.iadd, 1))
theorem d_M_empties_37 : m_D k_M_empties 37 (.bipush 40) 2 := (by decide +kernel : decode prog_14_method_56_code 37 = .ok (.bipush 40, 2))
theorem d_M_empties_39 : m_D k_M_empties 39 (.iastore) 1 := (by decide +kernel : decode prog_14_method_56_code 39 = .ok (.iastore, 1))
theorem d_M_empties_40 : m_D k_M_empties 40 (.aload_n 0) 1 := (by decide +kernel : decode prog_14_method_56_code 40 = .ok (.aload_n 0, 1))
theorem d_M_empties_41 : m_D k_M_empties 41 (.getfield 35) 3 := (by decide +kernel : decode prog_14_method_56_code 41 = .ok (.getfield 35, 3))
theorem d_M_empties_44 : m_D k_M_empties 44 (.iload_n 2) 1 := (by decide +kernel : decode prog_14_method_56_code 44 = .ok (.iload_n 2, 1))
theorem d_M_empties_45 : m_D k_M_empties 45 (.iconst 3) 1 := (by decide +kernel : decode prog_14_method_56_code 45 = .ok (.iconst 3, 1))
theorem d_M_empties_46 : m_D k_M_empties 46 (.iadd) 1 := (by decide +kernel : decode prog_14_method_56_code 46 = .ok (.iadd, 1))
theorem d_M_empties_47 : m_D k_M_empties 47 (.bipush 70) 2 := (by decide +kernel : decode prog_14_method_56_code 47 = .ok (.bipush 70, 2))
theorem d_M_empties_49 : m_D k_M_empties 49 (.iastore) 1 := (by decide +kernel : decode prog_14_method_56_code 49 = .ok (.iastore, 1))
theorem d_M_empties_50 : m_D k_M_empties 50 (.aload_n 0) 1 := (by decide +kernel : decode prog_14_method_56_code 50 = .ok (.aload_n 0, 1))
theorem d_M_empties_51 : m_D k_M_empties 51 (.getfield 35) 3 := (by decide +kernel : decode prog_14_method_56_code 51 = .ok (.getfield 35, 3))
theorem d_M_empties_54 : m_D k_M_empties 54 (.iload_n 2) 1 := (by decide +kernel : decode prog_14_method_56_code 54 = .ok (.iload_n 2, 1))
theorem d_M_empties_55 : m_D k_M_empties 55 (.iconst 4) 1 := (by decide +kernel : decode prog_14_method_56_code 55 = .ok (.iconst 4, 1))
theorem d_M_empties_56 : m_D k_M_empties 56 (.iadd) 1 := (by decide +kernel : decode prog_14_method_56_code 56 = .ok (.iadd, 1))
theorem d_M_empties_57 : m_D k_M_empties 57 (.iconst 4) 1 := (by decide +kernel : decode prog_14_method_56_code 57 = .ok (.iconst 4, 1))
theorem d_M_empties_58 : m_D k_M_empties 58 (.iastore) 1 := (by decide +kernel : decode prog_14_method_56_code 58 = .ok (.iastore, 1))
theorem d_M_empties_59 : m_D k_M_empties 59 (.aload_n 0) 1 := (by decide +kernel : decode prog_14_method_56_code 59 = .ok (.aload_n 0, 1))
theorem d_M_empties_60 : m_D k_M_empties 60 (.getfield 35) 3 := (by decide +kernel : decode prog_14_method_56_code 60 = .ok (.getfield 35, 3))
theorem d_M_empties_63 : m_D k_M_empties 63 (.iload_n 2) 1 := (by decide +kernel : decode prog_14_method_56_code 63 = .ok (.iload_n 2, 1))
theorem d_M_empties_64 : m_D k_M_empties 64 (.iconst 5) 1 := (by decide +kernel : decode prog_14_method_56_code 64 = .ok (.iconst 5, 1))
theorem d_M_empties_65 : m_D k_M_empties 65 (.iadd) 1 := (by decide +kernel : decode prog_14_method_56_code 65 = .ok (.iadd, 1))
theorem d_M_empties_66 : m_D k_M_empties 66 (.iconst 3) 1 := (by decide +kernel : decode prog_14_method_56_code 66 = .ok (.iconst 3, 1))
theorem d_M_empties_67 : m_D k_M_empties 67 (.iastore) 1 := (by decide +kernel : decode prog_14_method_56_code 67 = .ok (.iastore, 1))
theorem d_M_empties_68 : m_D k_M_empties 68 (.return_) 1 := (by decide +kernel : decode prog_14_method_56_code 68 = .ok (.return_, 1))
def fn_M_empties_l8 (x0 : Option mA) (x1 : Int32) (t1 : Int32) : mP ((Int32) ⊕ (Unit)) :=
  if 377 ≤ t1 then
    m_rt (.inr ())
  else
    m_bd (m_gR 11 20 x0) fun v2 =>
    m_bd (m_tI 0 v2 ((377 * x1) + t1) 0) fun _ =>
    m_rt (.inl (t1 + 1))
def fn_M_empties (x0 : Option mA) (x1 : Int32) : mP Unit :=
  m_th 11 x0 <|
  m_bd (m_lp (fn_M_empties_l8 x0 x1) m_F 0) fun (t3 : Unit) =>
  m_bd (m_gR 11 20 x0) fun v4 =>
  m_bd (m_tI 0 v4 ((377 * x1) + 2) 40) fun _ =>
  m_bd (m_gR 11 20 x0) fun v5 =>
  m_bd (m_tI 0 v5 ((377 * x1) + 3) 70) fun _ =>
  m_bd (m_gR 11 20 x0) fun v6 =>
  m_bd (m_tI 0 v6 ((377 * x1) + 4) 4) fun _ =>
  m_bd (m_gR 11 20 x0) fun v7 =>
  m_bd (m_tI 0 v7 ((377 * x1) + 5) 3) fun _ =>
  m_rt ()
set_option maxHeartbeats 4000000 in
set_option maxRecDepth 100000 in
theorem sd_M_empties (x0 : Option mA) (x1 : Int32) : m_Sm k_M_empties 1 0 0 [.inr (.inr x0), .inl x1] (fn_M_empties x0 x1) (fun _ => none) := by
  refine ⟨Nat.le_of_ble_eq_true rfl, ?_⟩
  refine sm_th ?_
  refine sm_sipush (pc' := 3) d_M_empties_0 rfl is_377 (sm_iload_n (i := 1) (j := 1) (pc' := 4) d_M_empties_3 rfl rfl rfl (sm_imul (pc' := 5) d_M_empties_4 rfl (sm_istore_n (i := 2) (L' := [(2, .inl (377 * x1)), (0, .inr (.inr x0)), (1, .inl x1)]) (pc' := 6) d_M_empties_5 rfl rfl (Nat.le_of_ble_eq_true rfl) rfl (sm_iconst (pc' := 7) d_M_empties_6 rfl ic_0 (sm_istore_n (i := 3) (L' := [(3, .inl 0), (2, .inl (377 * x1)), (0, .inr (.inr x0)), (1, .inl x1)]) (pc' := 8) d_M_empties_7 rfl rfl (Nat.le_of_ble_eq_true rfl) rfl ?_)))))
  refine sm_sub [0, 2, 1] rfl ?_
  refine sm_bd (mid := fun (t3 : Unit) => .inl (30, [(0, .inr (.inr x0)), (2, .inl (377 * x1))], [])) (sm_lp (hd := fun (t1 : Int32) => (.inl (8, [(3, .inl t1), (0, .inr (.inr x0)), (2, .inl (377 * x1))], []) : mC)) (fun t1 => ?_) m_F 0) (fun t3 => ?_)
  · refine sm_iload_n (i := 3) (j := 0) (pc' := 9) d_M_empties_8 rfl rfl rfl (sm_sipush (pc' := 12) d_M_empties_9 rfl is_377 ?_)
    refine sm_icmp_ge (tgt := 30) (pc' := 15) d_M_empties_12 rfl rfl ?_ ?_
    · refine sm_sub [1, 2] rfl ?_
      exact sm_rt rfl
    · refine sm_aload_n (i := 0) (j := 1) (pc' := 16) d_M_empties_15 rfl rfl rfl ?_
      refine sm_getR (pc' := 19) d_M_empties_16 rfl fl_M_35 rfl rfl (fun v2 => ?_)
      refine sm_iload_n (i := 2) (j := 2) (pc' := 20) d_M_empties_19 rfl rfl rfl (sm_iload_n (i := 3) (j := 0) (pc' := 21) d_M_empties_20 rfl rfl rfl (sm_iadd (pc' := 22) d_M_empties_21 rfl (sm_iconst (pc' := 23) d_M_empties_22 rfl ic_0 (sm_iast (pc' := 24) d_M_empties_23 rfl (sm_iinc (j := 0) (L' := [(3, .inl (t1 + 1)), (0, .inr (.inr x0)), (2, .inl (377 * x1))]) (pc' := 27) d_M_empties_24 rfl (v := (t1 + 1)) rfl (ix_1 _) (Nat.le_of_ble_eq_true rfl) rfl (sm_goto (tgt := 8) d_M_empties_27 rfl (sm_sub [0, 1, 2] rfl ?_)))))))
      exact sm_rt rfl
  · refine sm_aload_n (i := 0) (j := 0) (pc' := 31) d_M_empties_30 rfl rfl rfl ?_
    refine sm_getR (pc' := 34) d_M_empties_31 rfl fl_M_35 rfl rfl (fun v4 => ?_)
    refine sm_iload_n (i := 2) (j := 1) (pc' := 35) d_M_empties_34 rfl rfl rfl (sm_iconst (pc' := 36) d_M_empties_35 rfl ic_2 (sm_iadd (pc' := 37) d_M_empties_36 rfl (sm_bipush (pc' := 39) d_M_empties_37 rfl ib_40 (sm_iast (pc' := 40) d_M_empties_39 rfl (sm_aload_n (i := 0) (j := 0) (pc' := 41) d_M_empties_40 rfl rfl rfl ?_)))))
    refine sm_getR (pc' := 44) d_M_empties_41 rfl fl_M_35 rfl rfl (fun v5 => ?_)
    refine sm_iload_n (i := 2) (j := 1) (pc' := 45) d_M_empties_44 rfl rfl rfl (sm_iconst (pc' := 46) d_M_empties_45 rfl ic_3 (sm_iadd (pc' := 47) d_M_empties_46 rfl (sm_bipush (pc' := 49) d_M_empties_47 rfl ib_70 (sm_iast (pc' := 50) d_M_empties_49 rfl (sm_aload_n (i := 0) (j := 0) (pc' := 51) d_M_empties_50 rfl rfl rfl ?_)))))
    refine sm_getR (pc' := 54) d_M_empties_51 rfl fl_M_35 rfl rfl (fun v6 => ?_)
    refine sm_iload_n (i := 2) (j := 1) (pc' := 55) d_M_empties_54 rfl rfl rfl (sm_iconst (pc' := 56) d_M_empties_55 rfl ic_4 (sm_iadd (pc' := 57) d_M_empties_56 rfl (sm_iconst (pc' := 58) d_M_empties_57 rfl ic_4 (sm_iast (pc' := 59) d_M_empties_58 rfl (sm_aload_n (i := 0) (j := 0) (pc' := 60) d_M_empties_59 rfl rfl rfl ?_)))))
    refine sm_getR (pc' := 63) d_M_empties_60 rfl fl_M_35 rfl rfl (fun v7 => ?_)
    refine sm_iload_n (i := 2) (j := 1) (pc' := 64) d_M_empties_63 rfl rfl rfl (sm_iconst (pc' := 65) d_M_empties_64 rfl ic_5 (sm_iadd (pc' := 66) d_M_empties_65 rfl (sm_iconst (pc' := 67) d_M_empties_66 rfl ic_3 (sm_iast (pc' := 68) d_M_empties_67 rfl ?_))))
    exact sm_return d_M_empties_68 rfl rfl
theorem d_M_init_0 : m_D k_M_init 0 (.aload_n 0) 1 := (by decide +kernel : decode prog_14_method_1_code 0 = .ok (.aload_n 0, 1))
theorem d_M_init_1 : m_D k_M_init 1 (.invokespecial 1) 3 := (by decide +kernel : decode prog_14_method_1_code 1 = .ok (.invokespecial 1, 3))
theorem d_M_init_4 : m_D k_M_init 4 (.aload_n 0) 1 := (by decide +kernel : decode prog_14_method_1_code 4 = .ok (.aload_n 0, 1))
theorem d_M_init_5 : m_D k_M_init 5 (.lconst 1) 1 := (by decide +kernel : decode prog_14_method_1_code 5 = .ok (.lconst 1, 1))
theorem d_M_init_6 : m_D k_M_init 6 (.putfield 7) 3 := (by decide +kernel : decode prog_14_method_1_code 6 = .ok (.putfield 7, 3))
theorem d_M_init_9 : m_D k_M_init 9 (.aload_n 0) 1 := (by decide +kernel : decode prog_14_method_1_code 9 = .ok (.aload_n 0, 1))
theorem d_M_init_10 : m_D k_M_init 10 (.iconst 4) 1 := (by decide +kernel : decode prog_14_method_1_code 10 = .ok (.iconst 4, 1))
theorem d_M_init_11 : m_D k_M_init 11 (.newarray .int) 2 := (by decide +kernel : decode prog_14_method_1_code 11 = .ok (.newarray .int, 2))
theorem d_M_init_13 : m_D k_M_init 13 (.putfield 13) 3 := (by decide +kernel : decode prog_14_method_1_code 13 = .ok (.putfield 13, 3))
theorem d_M_init_16 : m_D k_M_init 16 (.aload_n 0) 1 := (by decide +kernel : decode prog_14_method_1_code 16 = .ok (.aload_n 0, 1))
theorem d_M_init_17 : m_D k_M_init 17 (.iconst 4) 1 := (by decide +kernel : decode prog_14_method_1_code 17 = .ok (.iconst 4, 1))
theorem d_M_init_18 : m_D k_M_init 18 (.newarray .int) 2 := (by decide +kernel : decode prog_14_method_1_code 18 = .ok (.newarray .int, 2))
theorem d_M_init_20 : m_D k_M_init 20 (.putfield 17) 3 := (by decide +kernel : decode prog_14_method_1_code 20 = .ok (.putfield 17, 3))
theorem d_M_init_23 : m_D k_M_init 23 (.aload_n 0) 1 := (by decide +kernel : decode prog_14_method_1_code 23 = .ok (.aload_n 0, 1))
theorem d_M_init_24 : m_D k_M_init 24 (.sipush 240) 3 := (by decide +kernel : decode prog_14_method_1_code 24 = .ok (.sipush 240, 3))
theorem d_M_init_27 : m_D k_M_init 27 (.newarray .long) 2 := (by decide +kernel : decode prog_14_method_1_code 27 = .ok (.newarray .long, 2))
theorem d_M_init_29 : m_D k_M_init 29 (.putfield 20) 3 := (by decide +kernel : decode prog_14_method_1_code 29 = .ok (.putfield 20, 3))
theorem d_M_init_32 : m_D k_M_init 32 (.aload_n 0) 1 := (by decide +kernel : decode prog_14_method_1_code 32 = .ok (.aload_n 0, 1))
theorem d_M_init_33 : m_D k_M_init 33 (.sipush 900) 3 := (by decide +kernel : decode prog_14_method_1_code 33 = .ok (.sipush 900, 3))
theorem d_M_init_36 : m_D k_M_init 36 (.newarray .byte) 2 := (by decide +kernel : decode prog_14_method_1_code 36 = .ok (.newarray .byte, 2))
theorem d_M_init_38 : m_D k_M_init 38 (.putfield 24) 3 := (by decide +kernel : decode prog_14_method_1_code 38 = .ok (.putfield 24, 3))
theorem d_M_init_41 : m_D k_M_init 41 (.aload_n 0) 1 := (by decide +kernel : decode prog_14_method_1_code 41 = .ok (.aload_n 0, 1))
theorem d_M_init_42 : m_D k_M_init 42 (.iconst (-1)) 1 := (by decide +kernel : decode prog_14_method_1_code 42 = .ok (.iconst (-1), 1))
theorem d_M_init_43 : m_D k_M_init 43 (.putfield 28) 3 := (by decide +kernel : decode prog_14_method_1_code 43 = .ok (.putfield 28, 3))
theorem d_M_init_46 : m_D k_M_init 46 (.aload_n 0) 1 := (by decide +kernel : decode prog_14_method_1_code 46 = .ok (.aload_n 0, 1))
theorem d_M_init_47 : m_D k_M_init 47 (.iconst (-1)) 1 := (by decide +kernel : decode prog_14_method_1_code 47 = .ok (.iconst (-1), 1))
theorem d_M_init_48 : m_D k_M_init 48 (.putfield 32) 3 := (by decide +kernel : decode prog_14_method_1_code 48 = .ok (.putfield 32, 3))
theorem d_M_init_51 : m_D k_M_init 51 (.aload_n 0) 1 := (by decide +kernel : decode prog_14_method_1_code 51 = .ok (.aload_n 0, 1))
theorem d_M_init_52 : m_D k_M_init 52 (.sipush 1885) 3 := (by decide +kernel : decode prog_14_method_1_code 52 = .ok (.sipush 1885, 3))
theorem d_M_init_55 : m_D k_M_init 55 (.newarray .int) 2 := (by decide +kernel : decode prog_14_method_1_code 55 = .ok (.newarray .int, 2))
theorem d_M_init_57 : m_D k_M_init 57 (.putfield 35) 3 := (by decide +kernel : decode prog_14_method_1_code 57 = .ok (.putfield 35, 3))
theorem d_M_init_60 : m_D k_M_init 60 (.aload_n 0) 1 := (by decide +kernel : decode prog_14_method_1_code 60 = .ok (.aload_n 0, 1))
theorem d_M_init_61 : m_D k_M_init 61 (.bipush 105) 2 := (by decide +kernel : decode prog_14_method_1_code 61 = .ok (.bipush 105, 2))
theorem d_M_init_63 : m_D k_M_init 63 (.newarray .int) 2 := (by decide +kernel : decode prog_14_method_1_code 63 = .ok (.newarray .int, 2))
theorem d_M_init_65 : m_D k_M_init 65 (.putfield 38) 3 := (by decide +kernel : decode prog_14_method_1_code 65 = .ok (.putfield 38, 3))
theorem d_M_init_68 : m_D k_M_init 68 (.aload_n 0) 1 := (by decide +kernel : decode prog_14_method_1_code 68 = .ok (.aload_n 0, 1))
theorem d_M_init_69 : m_D k_M_init 69 (.bipush 105) 2 := (by decide +kernel : decode prog_14_method_1_code 69 = .ok (.bipush 105, 2))
theorem d_M_init_71 : m_D k_M_init 71 (.newarray .int) 2 := (by decide +kernel : decode prog_14_method_1_code 71 = .ok (.newarray .int, 2))
theorem d_M_init_73 : m_D k_M_init 73 (.putfield 41) 3 := (by decide +kernel : decode prog_14_method_1_code 73 = .ok (.putfield 41, 3))
theorem d_M_init_76 : m_D k_M_init 76 (.aload_n 0) 1 := (by decide +kernel : decode prog_14_method_1_code 76 = .ok (.aload_n 0, 1))
theorem d_M_init_77 : m_D k_M_init 77 (.bipush 70) 2 := (by decide +kernel : decode prog_14_method_1_code 77 = .ok (.bipush 70, 2))
theorem d_M_init_79 : m_D k_M_init 79 (.newarray .long) 2 := (by decide +kernel : decode prog_14_method_1_code 79 = .ok (.newarray .long, 2))
theorem d_M_init_81 : m_D k_M_init 81 (.putfield 44) 3 := (by decide +kernel : decode prog_14_method_1_code 81 = .ok (.putfield 44, 3))
theorem d_M_init_84 : m_D k_M_init 84 (.aload_n 0) 1 := (by decide +kernel : decode prog_14_method_1_code 84 = .ok (.aload_n 0, 1))
theorem d_M_init_85 : m_D k_M_init 85 (.bipush 6) 2 := (by decide +kernel : decode prog_14_method_1_code 85 = .ok (.bipush 6, 2))
theorem d_M_init_87 : m_D k_M_init 87 (.newarray .int) 2 := (by decide +kernel : decode prog_14_method_1_code 87 = .ok (.newarray .int, 2))
theorem d_M_init_89 : m_D k_M_init 89 (.putfield 47) 3 := (by decide +kernel : decode prog_14_method_1_code 89 = .ok (.putfield 47, 3))
theorem d_M_init_92 : m_D k_M_init 92 (.aload_n 0) 1 := (by decide +kernel : decode prog_14_method_1_code 92 = .ok (.aload_n 0, 1))
theorem d_M_init_93 : m_D k_M_init 93 (.bipush 19) 2 := (by decide +kernel : decode prog_14_method_1_code 93 = .ok (.bipush 19, 2))
theorem d_M_init_95 : m_D k_M_init 95 (.newarray .int) 2 := (by decide +kernel : decode prog_14_method_1_code 95 = .ok (.newarray .int, 2))
theorem d_M_init_97 : m_D k_M_init 97 (.putfield 50) 3 := (by decide +kernel : decode prog_14_method_1_code 97 = .ok (.putfield 50, 3))
theorem d_M_init_100 : m_D k_M_init 100 (.aload_n 0) 1 := (by decide +kernel : decode prog_14_method_1_code 100 = .ok (.aload_n 0, 1))
theorem d_M_init_101 : m_D k_M_init 101 (.bipush 6) 2 := (by decide +kernel : decode prog_14_method_1_code 101 = .ok (.bipush 6, 2))
theorem d_M_init_103 : m_D k_M_init 103 (.newarray .int) 2 := (by decide +kernel : decode prog_14_method_1_code 103 = .ok (.newarray .int, 2))
theorem d_M_init_105 : m_D k_M_init 105 (.putfield 53) 3 := (by decide +kernel : decode prog_14_method_1_code 105 = .ok (.putfield 53, 3))
theorem d_M_init_108 : m_D k_M_init 108 (.aload_n 0) 1 := (by decide +kernel : decode prog_14_method_1_code 108 = .ok (.aload_n 0, 1))
theorem d_M_init_109 : m_D k_M_init 109 (.bipush 6) 2 := (by decide +kernel : decode prog_14_method_1_code 109 = .ok (.bipush 6, 2))
theorem d_M_init_111 : m_D k_M_init 111 (.newarray .int) 2 := (by decide +kernel : decode prog_14_method_1_code 111 = .ok (.newarray .int, 2))
theorem d_M_init_113 : m_D k_M_init 113 (.putfield 56) 3 := (by decide +kernel : decode prog_14_method_1_code 113 = .ok (.putfield 56, 3))
theorem d_M_init_116 : m_D k_M_init 116 (.aload_n 0) 1 := (by decide +kernel : decode prog_14_method_1_code 116 = .ok (.aload_n 0, 1))
theorem d_M_init_117 : m_D k_M_init 117 (.bipush 8) 2 := (by decide +kernel : decode prog_14_method_1_code 117 = .ok (.bipush 8, 2))
theorem d_M_init_119 : m_D k_M_init 119 (.newarray .int) 2 := (by decide +kernel : decode prog_14_method_1_code 119 = .ok (.newarray .int, 2))
theorem d_M_init_121 : m_D k_M_init 121 (.putfield 59) 3 := (by decide +kernel : decode prog_14_method_1_code 121 = .ok (.putfield 59, 3))
theorem d_M_init_124 : m_D k_M_init 124 (.aload_n 0) 1 := (by decide +kernel : decode prog_14_method_1_code 124 = .ok (.aload_n 0, 1))
theorem d_M_init_125 : m_D k_M_init 125 (.bipush 6) 2 := (by decide +kernel : decode prog_14_method_1_code 125 = .ok (.bipush 6, 2))
theorem d_M_init_127 : m_D k_M_init 127 (.newarray .int) 2 := (by decide +kernel : decode prog_14_method_1_code 127 = .ok (.newarray .int, 2))
theorem d_M_init_129 : m_D k_M_init 129 (.putfield 62) 3 := (by decide +kernel : decode prog_14_method_1_code 129 = .ok (.putfield 62, 3))
theorem d_M_init_132 : m_D k_M_init 132 (.aload_n 0) 1 := (by decide +kernel : decode prog_14_method_1_code 132 = .ok (.aload_n 0, 1))
theorem d_M_init_133 : m_D k_M_init 133 (.sipush 525) 3 := (by decide +kernel : decode prog_14_method_1_code 133 = .ok (.sipush 525, 3))
theorem d_M_init_136 : m_D k_M_init 136 (.newarray .int) 2 := (by decide +kernel : decode prog_14_method_1_code 136 = .ok (.newarray .int, 2))
theorem d_M_init_138 : m_D k_M_init 138 (.putfield 65) 3 := (by decide +kernel : decode prog_14_method_1_code 138 = .ok (.putfield 65, 3))
theorem d_M_init_141 : m_D k_M_init 141 (.aload_n 0) 1 := (by decide +kernel : decode prog_14_method_1_code 141 = .ok (.aload_n 0, 1))
theorem d_M_init_142 : m_D k_M_init 142 (.sipush 800) 3 := (by decide +kernel : decode prog_14_method_1_code 142 = .ok (.sipush 800, 3))
theorem d_M_init_145 : m_D k_M_init 145 (.newarray .long) 2 := (by decide +kernel : decode prog_14_method_1_code 145 = .ok (.newarray .long, 2))
theorem d_M_init_147 : m_D k_M_init 147 (.putfield 68) 3 := (by decide +kernel : decode prog_14_method_1_code 147 = .ok (.putfield 68, 3))
theorem d_M_init_150 : m_D k_M_init 150 (.aload_n 0) 1 := (by decide +kernel : decode prog_14_method_1_code 150 = .ok (.aload_n 0, 1))
theorem d_M_init_151 : m_D k_M_init 151 (.sipush 800) 3 := (by decide +kernel : decode prog_14_method_1_code 151 = .ok (.sipush 800, 3))
theorem d_M_init_154 : m_D k_M_init 154 (.newarray .long) 2 := (by decide +kernel : decode prog_14_method_1_code 154 = .ok (.newarray .long, 2))
theorem d_M_init_156 : m_D k_M_init 156 (.putfield 71) 3 := (by decide +kernel : decode prog_14_method_1_code 156 = .ok (.putfield 71, 3))
theorem d_M_init_159 : m_D k_M_init 159 (.aload_n 0) 1 := (by decide +kernel : decode prog_14_method_1_code 159 = .ok (.aload_n 0, 1))
theorem d_M_init_160 : m_D k_M_init 160 (.iconst 5) 1 := (by decide +kernel : decode prog_14_method_1_code 160 = .ok (.iconst 5, 1))
theorem d_M_init_161 : m_D k_M_init 161 (.newarray .int) 2 := (by decide +kernel : decode prog_14_method_1_code 161 = .ok (.newarray .int, 2))
theorem d_M_init_163 : m_D k_M_init 163 (.putfield 74) 3 := (by decide +kernel : decode prog_14_method_1_code 163 = .ok (.putfield 74, 3))
theorem d_M_init_166 : m_D k_M_init 166 (.iconst 0) 1 := (by decide +kernel : decode prog_14_method_1_code 166 = .ok (.iconst 0, 1))
theorem d_M_init_167 : m_D k_M_init 167 (.istore_n 1) 1 := (by decide +kernel : decode prog_14_method_1_code 167 = .ok (.istore_n 1, 1))
theorem d_M_init_168 : m_D k_M_init 168 (.iload_n 1) 1 := (by decide +kernel : decode prog_14_method_1_code 168 = .ok (.iload_n 1, 1))
theorem d_M_init_169 : m_D k_M_init 169 (.iconst 4) 1 := (by decide +kernel : decode prog_14_method_1_code 169 = .ok (.iconst 4, 1))
theorem d_M_init_170 : m_D k_M_init 170 (.if_icmp .ge 16) 3 := (by decide +kernel : decode prog_14_method_1_code 170 = .ok (.if_icmp .ge 16, 3))
theorem d_M_init_173 : m_D k_M_init 173 (.aload_n 0) 1 := (by decide +kernel : decode prog_14_method_1_code 173 = .ok (.aload_n 0, 1))
theorem d_M_init_174 : m_D k_M_init 174 (.getfield 17) 3 := (by decide +kernel : decode prog_14_method_1_code 174 = .ok (.getfield 17, 3))
theorem d_M_init_177 : m_D k_M_init 177 (.iload_n 1) 1 := (by decide +kernel : decode prog_14_method_1_code 177 = .ok (.iload_n 1, 1))
theorem d_M_init_178 : m_D k_M_init 178 (.iconst (-1)) 1 := (by decide +kernel : decode prog_14_method_1_code 178 = .ok (.iconst (-1), 1))
theorem d_M_init_179 : m_D k_M_init 179 (.iastore) 1 := (by decide +kernel : decode prog_14_method_1_code 179 = .ok (.iastore, 1))
theorem d_M_init_180 : m_D k_M_init 180 (.iinc 1 1) 3 := (by decide +kernel : decode prog_14_method_1_code 180 = .ok (.iinc 1 1, 3))
theorem d_M_init_183 : m_D k_M_init 183 (.goto (-15)) 3 := (by decide +kernel : decode prog_14_method_1_code 183 = .ok (.goto (-15), 3))
theorem d_M_init_186 : m_D k_M_init 186 (.aload_n 0) 1 := (by decide +kernel : decode prog_14_method_1_code 186 = .ok (.aload_n 0, 1))
theorem d_M_init_187 : m_D k_M_init 187 (.iconst 0) 1 := (by decide +kernel : decode prog_14_method_1_code 187 = .ok (.iconst 0, 1))
theorem d_M_init_188 : m_D k_M_init 188 (.invokevirtual 77) 3 := (by decide +kernel : decode prog_14_method_1_code 188 = .ok (.invokevirtual 77, 3))
theorem d_M_init_191 : m_D k_M_init 191 (.return_) 1 := (by decide +kernel : decode prog_14_method_1_code 191 = .ok (.return_, 1))
def fn_M_init (a0 : mA) : mP Unit :=
  m_th 11 (some a0) <|
  m_bd (m_pJ 11 3 (some a0) 1) fun _ =>
  m_bd (m_nea 0 4) fun a1 =>
  m_bd (m_pR 11 4 (some a0) (some a1)) fun _ =>
  m_bd (m_nea 0 4) fun a2 =>
  m_bd (m_pR 11 5 (some a0) (some a2)) fun _ =>
  m_bd (m_nea 1 240) fun a3 =>
  m_bd (m_pR 11 6 (some a0) (some a3)) fun _ =>
  m_bd (m_nea 2 900) fun a4 =>
  m_bd (m_pR 11 7 (some a0) (some a4)) fun _ =>
  m_bd (m_pI 11 10 (some a0) (-1)) fun _ =>
  m_bd (m_pI 11 11 (some a0) (-1)) fun _ =>
  m_bd (m_nea 0 1885) fun a5 =>
  m_bd (m_pR 11 20 (some a0) (some a5)) fun _ =>
  m_bd (m_nea 0 105) fun a6 =>
  m_bd (m_pR 11 21 (some a0) (some a6)) fun _ =>
  m_bd (m_nea 0 105) fun a7 =>
  m_bd (m_pR 11 22 (some a0) (some a7)) fun _ =>
  m_bd (m_nea 1 70) fun a8 =>
  m_bd (m_pR 11 23 (some a0) (some a8)) fun _ =>
  m_bd (m_nea 0 6) fun a9 =>
  m_bd (m_pR 11 30 (some a0) (some a9)) fun _ =>
  m_bd (m_nea 0 19) fun a10 =>
  m_bd (m_pR 11 31 (some a0) (some a10)) fun _ =>
  m_bd (m_nea 0 6) fun a11 =>
  m_bd (m_pR 11 32 (some a0) (some a11)) fun _ =>
  m_bd (m_nea 0 6) fun a12 =>
  m_bd (m_pR 11 33 (some a0) (some a12)) fun _ =>
  m_bd (m_nea 0 8) fun a13 =>
  m_bd (m_pR 11 35 (some a0) (some a13)) fun _ =>
  m_bd (m_nea 0 6) fun a14 =>
  m_bd (m_pR 11 36 (some a0) (some a14)) fun _ =>
  m_bd (m_nea 0 525) fun a15 =>
  m_bd (m_pR 11 37 (some a0) (some a15)) fun _ =>
  m_bd (m_nea 1 800) fun a16 =>
  m_bd (m_pR 11 39 (some a0) (some a16)) fun _ =>
  m_bd (m_nea 1 800) fun a17 =>
  m_bd (m_pR 11 40 (some a0) (some a17)) fun _ =>
  m_bd (m_nea 0 5) fun a18 =>
  m_bd (m_pR 11 42 (some a0) (some a18)) fun _ =>
  m_bd (m_gR 11 5 (some a0)) fun v19 =>
  m_bd (m_tI 0 v19 0 (-1)) fun _ =>
  m_bd (m_gR 11 5 (some a0)) fun v20 =>
  m_bd (m_tI 0 v20 1 (-1)) fun _ =>
  m_bd (m_gR 11 5 (some a0)) fun v21 =>
  m_bd (m_tI 0 v21 2 (-1)) fun _ =>
  m_bd (m_gR 11 5 (some a0)) fun v22 =>
  m_bd (m_tI 0 v22 3 (-1)) fun _ =>
  m_bd (fn_M_empties (some a0) 0) fun _ =>
  m_rt ()
set_option maxHeartbeats 4000000 in
set_option maxRecDepth 100000 in
theorem sd_M_init (a0 : mA) : m_Sm k_M_init 2 18 5494 [.inr (.inr (some a0))] (fn_M_init a0) (fun _ => none) := by
  refine ⟨Nat.le_of_ble_eq_true rfl, ?_⟩
  refine sm_th ?_
  refine sm_aload_n (i := 0) (j := 0) (pc' := 1) d_M_init_0 rfl rfl rfl (sm_objInit (pc' := 4) d_M_init_1 rfl w_ml_M_1 w_im_java_lang_Object__init_ w_co_java_lang_Object__init_ (by decide) rfl (sm_aload_n (i := 0) (j := 0) (pc' := 5) d_M_init_4 rfl rfl rfl (sm_lconst (pc' := 6) (v := 1) d_M_init_5 rfl rfl (sm_putJ (pc' := 9) d_M_init_6 rfl fl_M_7 (Or.inl rfl) rfl (sm_aload_n (i := 0) (j := 0) (pc' := 10) d_M_init_9 rfl rfl rfl (sm_iconst (pc' := 11) d_M_init_10 rfl ic_4 ?_))))))
  refine sm_nea (t := 0) (mc := 17) (ms := 5490) (pc' := 13) d_M_init_11 rfl rfl (by decide) w_ac_int (by decide) (by decide) (by decide) rfl rfl (fun a1 => ?_)
  refine sm_putR (pc' := 16) d_M_init_13 rfl fl_M_13 rfl (Or.inr ⟨rfl, rfl⟩) rfl (sm_aload_n (i := 0) (j := 0) (pc' := 17) d_M_init_16 rfl rfl rfl (sm_iconst (pc' := 18) d_M_init_17 rfl ic_4 ?_))
  refine sm_nea (t := 0) (mc := 16) (ms := 5486) (pc' := 20) d_M_init_18 rfl rfl (by decide) w_ac_int (by decide) (by decide) (by decide) rfl rfl (fun a2 => ?_)
  refine sm_putR (pc' := 23) d_M_init_20 rfl fl_M_17 rfl (Or.inr ⟨rfl, rfl⟩) rfl (sm_aload_n (i := 0) (j := 0) (pc' := 24) d_M_init_23 rfl rfl rfl (sm_sipush (pc' := 27) d_M_init_24 rfl is_240 ?_))
  refine sm_nea (t := 1) (mc := 15) (ms := 5246) (pc' := 29) d_M_init_27 rfl rfl (by decide) w_ac_long (by decide) (by decide) (by decide) rfl rfl (fun a3 => ?_)
  refine sm_putR (pc' := 32) d_M_init_29 rfl fl_M_20 rfl (Or.inr ⟨rfl, rfl⟩) rfl (sm_aload_n (i := 0) (j := 0) (pc' := 33) d_M_init_32 rfl rfl rfl (sm_sipush (pc' := 36) d_M_init_33 rfl is_900 ?_))
  refine sm_nea (t := 2) (mc := 14) (ms := 4346) (pc' := 38) d_M_init_36 rfl rfl (by decide) w_ac_byte (by decide) (by decide) (by decide) rfl rfl (fun a4 => ?_)
  refine sm_putR (pc' := 41) d_M_init_38 rfl fl_M_24 rfl (Or.inr ⟨rfl, rfl⟩) rfl (sm_aload_n (i := 0) (j := 0) (pc' := 42) d_M_init_41 rfl rfl rfl (sm_iconst (pc' := 43) d_M_init_42 rfl ic_m1 (sm_putI (pc' := 46) d_M_init_43 rfl fl_M_28 (Or.inl rfl) rfl (sm_aload_n (i := 0) (j := 0) (pc' := 47) d_M_init_46 rfl rfl rfl (sm_iconst (pc' := 48) d_M_init_47 rfl ic_m1 (sm_putI (pc' := 51) d_M_init_48 rfl fl_M_32 (Or.inl rfl) rfl (sm_aload_n (i := 0) (j := 0) (pc' := 52) d_M_init_51 rfl rfl rfl (sm_sipush (pc' := 55) d_M_init_52 rfl is_1885 ?_))))))))
  refine sm_nea (t := 0) (mc := 13) (ms := 2461) (pc' := 57) d_M_init_55 rfl rfl (by decide) w_ac_int (by decide) (by decide) (by decide) rfl rfl (fun a5 => ?_)
  refine sm_putR (pc' := 60) d_M_init_57 rfl fl_M_35 rfl (Or.inr ⟨rfl, rfl⟩) rfl (sm_aload_n (i := 0) (j := 0) (pc' := 61) d_M_init_60 rfl rfl rfl (sm_bipush (pc' := 63) d_M_init_61 rfl ib_105 ?_))
  refine sm_nea (t := 0) (mc := 12) (ms := 2356) (pc' := 65) d_M_init_63 rfl rfl (by decide) w_ac_int (by decide) (by decide) (by decide) rfl rfl (fun a6 => ?_)
  refine sm_putR (pc' := 68) d_M_init_65 rfl fl_M_38 rfl (Or.inr ⟨rfl, rfl⟩) rfl (sm_aload_n (i := 0) (j := 0) (pc' := 69) d_M_init_68 rfl rfl rfl (sm_bipush (pc' := 71) d_M_init_69 rfl ib_105 ?_))
  refine sm_nea (t := 0) (mc := 11) (ms := 2251) (pc' := 73) d_M_init_71 rfl rfl (by decide) w_ac_int (by decide) (by decide) (by decide) rfl rfl (fun a7 => ?_)
  refine sm_putR (pc' := 76) d_M_init_73 rfl fl_M_41 rfl (Or.inr ⟨rfl, rfl⟩) rfl (sm_aload_n (i := 0) (j := 0) (pc' := 77) d_M_init_76 rfl rfl rfl (sm_bipush (pc' := 79) d_M_init_77 rfl ib_70 ?_))
  refine sm_nea (t := 1) (mc := 10) (ms := 2181) (pc' := 81) d_M_init_79 rfl rfl (by decide) w_ac_long (by decide) (by decide) (by decide) rfl rfl (fun a8 => ?_)
  refine sm_putR (pc' := 84) d_M_init_81 rfl fl_M_44 rfl (Or.inr ⟨rfl, rfl⟩) rfl (sm_aload_n (i := 0) (j := 0) (pc' := 85) d_M_init_84 rfl rfl rfl (sm_bipush (pc' := 87) d_M_init_85 rfl ib_6 ?_))
  refine sm_nea (t := 0) (mc := 9) (ms := 2175) (pc' := 89) d_M_init_87 rfl rfl (by decide) w_ac_int (by decide) (by decide) (by decide) rfl rfl (fun a9 => ?_)
  refine sm_putR (pc' := 92) d_M_init_89 rfl fl_M_47 rfl (Or.inr ⟨rfl, rfl⟩) rfl (sm_aload_n (i := 0) (j := 0) (pc' := 93) d_M_init_92 rfl rfl rfl (sm_bipush (pc' := 95) d_M_init_93 rfl ib_19 ?_))
  refine sm_nea (t := 0) (mc := 8) (ms := 2156) (pc' := 97) d_M_init_95 rfl rfl (by decide) w_ac_int (by decide) (by decide) (by decide) rfl rfl (fun a10 => ?_)
  refine sm_putR (pc' := 100) d_M_init_97 rfl fl_M_50 rfl (Or.inr ⟨rfl, rfl⟩) rfl (sm_aload_n (i := 0) (j := 0) (pc' := 101) d_M_init_100 rfl rfl rfl (sm_bipush (pc' := 103) d_M_init_101 rfl ib_6 ?_))
  refine sm_nea (t := 0) (mc := 7) (ms := 2150) (pc' := 105) d_M_init_103 rfl rfl (by decide) w_ac_int (by decide) (by decide) (by decide) rfl rfl (fun a11 => ?_)
  refine sm_putR (pc' := 108) d_M_init_105 rfl fl_M_53 rfl (Or.inr ⟨rfl, rfl⟩) rfl (sm_aload_n (i := 0) (j := 0) (pc' := 109) d_M_init_108 rfl rfl rfl (sm_bipush (pc' := 111) d_M_init_109 rfl ib_6 ?_))
  refine sm_nea (t := 0) (mc := 6) (ms := 2144) (pc' := 113) d_M_init_111 rfl rfl (by decide) w_ac_int (by decide) (by decide) (by decide) rfl rfl (fun a12 => ?_)
  refine sm_putR (pc' := 116) d_M_init_113 rfl fl_M_56 rfl (Or.inr ⟨rfl, rfl⟩) rfl (sm_aload_n (i := 0) (j := 0) (pc' := 117) d_M_init_116 rfl rfl rfl (sm_bipush (pc' := 119) d_M_init_117 rfl ib_8 ?_))
  refine sm_nea (t := 0) (mc := 5) (ms := 2136) (pc' := 121) d_M_init_119 rfl rfl (by decide) w_ac_int (by decide) (by decide) (by decide) rfl rfl (fun a13 => ?_)
  refine sm_putR (pc' := 124) d_M_init_121 rfl fl_M_59 rfl (Or.inr ⟨rfl, rfl⟩) rfl (sm_aload_n (i := 0) (j := 0) (pc' := 125) d_M_init_124 rfl rfl rfl (sm_bipush (pc' := 127) d_M_init_125 rfl ib_6 ?_))
  refine sm_nea (t := 0) (mc := 4) (ms := 2130) (pc' := 129) d_M_init_127 rfl rfl (by decide) w_ac_int (by decide) (by decide) (by decide) rfl rfl (fun a14 => ?_)
  refine sm_putR (pc' := 132) d_M_init_129 rfl fl_M_62 rfl (Or.inr ⟨rfl, rfl⟩) rfl (sm_aload_n (i := 0) (j := 0) (pc' := 133) d_M_init_132 rfl rfl rfl (sm_sipush (pc' := 136) d_M_init_133 rfl is_525 ?_))
  refine sm_nea (t := 0) (mc := 3) (ms := 1605) (pc' := 138) d_M_init_136 rfl rfl (by decide) w_ac_int (by decide) (by decide) (by decide) rfl rfl (fun a15 => ?_)
  refine sm_putR (pc' := 141) d_M_init_138 rfl fl_M_65 rfl (Or.inr ⟨rfl, rfl⟩) rfl (sm_aload_n (i := 0) (j := 0) (pc' := 142) d_M_init_141 rfl rfl rfl (sm_sipush (pc' := 145) d_M_init_142 rfl is_800 ?_))
  refine sm_nea (t := 1) (mc := 2) (ms := 805) (pc' := 147) d_M_init_145 rfl rfl (by decide) w_ac_long (by decide) (by decide) (by decide) rfl rfl (fun a16 => ?_)
  refine sm_putR (pc' := 150) d_M_init_147 rfl fl_M_68 rfl (Or.inr ⟨rfl, rfl⟩) rfl (sm_aload_n (i := 0) (j := 0) (pc' := 151) d_M_init_150 rfl rfl rfl (sm_sipush (pc' := 154) d_M_init_151 rfl is_800 ?_))
  refine sm_nea (t := 1) (mc := 1) (ms := 5) (pc' := 156) d_M_init_154 rfl rfl (by decide) w_ac_long (by decide) (by decide) (by decide) rfl rfl (fun a17 => ?_)
  refine sm_putR (pc' := 159) d_M_init_156 rfl fl_M_71 rfl (Or.inr ⟨rfl, rfl⟩) rfl (sm_aload_n (i := 0) (j := 0) (pc' := 160) d_M_init_159 rfl rfl rfl (sm_iconst (pc' := 161) d_M_init_160 rfl ic_5 ?_))
  refine sm_nea (t := 0) (mc := 0) (ms := 0) (pc' := 163) d_M_init_161 rfl rfl (by decide) w_ac_int (by decide) (by decide) (by decide) rfl rfl (fun a18 => ?_)
  refine sm_putR (pc' := 166) d_M_init_163 rfl fl_M_74 rfl (Or.inr ⟨rfl, rfl⟩) rfl (sm_iconst (pc' := 167) d_M_init_166 rfl ic_0 (sm_istore_n (i := 1) (L' := [(1, .inl 0), (0, .inr (.inr (some a0)))]) (pc' := 168) d_M_init_167 rfl rfl (Nat.le_of_ble_eq_true rfl) rfl (sm_iload_n (i := 1) (j := 0) (pc' := 169) d_M_init_168 rfl rfl rfl (sm_iconst (pc' := 170) d_M_init_169 rfl ic_4 (sm_icmp_ge_f (tgt := 186) (pc' := 173) d_M_init_170 rfl rfl (by decide) (sm_aload_n (i := 0) (j := 1) (pc' := 174) d_M_init_173 rfl rfl rfl ?_))))))
  refine sm_getR (pc' := 177) d_M_init_174 rfl fl_M_17 rfl rfl (fun v19 => ?_)
  refine sm_iload_n (i := 1) (j := 0) (pc' := 178) d_M_init_177 rfl rfl rfl (sm_iconst (pc' := 179) d_M_init_178 rfl ic_m1 (sm_iast (pc' := 180) d_M_init_179 rfl (sm_iinc (j := 0) (L' := [(1, .inl 1), (0, .inr (.inr (some a0)))]) (pc' := 183) d_M_init_180 rfl (v := 1) rfl (by decide) (Nat.le_of_ble_eq_true rfl) rfl (sm_goto (tgt := 168) d_M_init_183 rfl (sm_iload_n (i := 1) (j := 0) (pc' := 169) d_M_init_168 rfl rfl rfl (sm_iconst (pc' := 170) d_M_init_169 rfl ic_4 (sm_icmp_ge_f (tgt := 186) (pc' := 173) d_M_init_170 rfl rfl (by decide) (sm_aload_n (i := 0) (j := 1) (pc' := 174) d_M_init_173 rfl rfl rfl ?_))))))))
  refine sm_getR (pc' := 177) d_M_init_174 rfl fl_M_17 rfl rfl (fun v20 => ?_)
  refine sm_iload_n (i := 1) (j := 0) (pc' := 178) d_M_init_177 rfl rfl rfl (sm_iconst (pc' := 179) d_M_init_178 rfl ic_m1 (sm_iast (pc' := 180) d_M_init_179 rfl (sm_iinc (j := 0) (L' := [(1, .inl 2), (0, .inr (.inr (some a0)))]) (pc' := 183) d_M_init_180 rfl (v := 2) rfl (by decide) (Nat.le_of_ble_eq_true rfl) rfl (sm_goto (tgt := 168) d_M_init_183 rfl (sm_iload_n (i := 1) (j := 0) (pc' := 169) d_M_init_168 rfl rfl rfl (sm_iconst (pc' := 170) d_M_init_169 rfl ic_4 (sm_icmp_ge_f (tgt := 186) (pc' := 173) d_M_init_170 rfl rfl (by decide) (sm_aload_n (i := 0) (j := 1) (pc' := 174) d_M_init_173 rfl rfl rfl ?_))))))))
  refine sm_getR (pc' := 177) d_M_init_174 rfl fl_M_17 rfl rfl (fun v21 => ?_)
  refine sm_iload_n (i := 1) (j := 0) (pc' := 178) d_M_init_177 rfl rfl rfl (sm_iconst (pc' := 179) d_M_init_178 rfl ic_m1 (sm_iast (pc' := 180) d_M_init_179 rfl (sm_iinc (j := 0) (L' := [(1, .inl 3), (0, .inr (.inr (some a0)))]) (pc' := 183) d_M_init_180 rfl (v := 3) rfl (by decide) (Nat.le_of_ble_eq_true rfl) rfl (sm_goto (tgt := 168) d_M_init_183 rfl (sm_iload_n (i := 1) (j := 0) (pc' := 169) d_M_init_168 rfl rfl rfl (sm_iconst (pc' := 170) d_M_init_169 rfl ic_4 (sm_icmp_ge_f (tgt := 186) (pc' := 173) d_M_init_170 rfl rfl (by decide) (sm_aload_n (i := 0) (j := 1) (pc' := 174) d_M_init_173 rfl rfl rfl ?_))))))))
  refine sm_getR (pc' := 177) d_M_init_174 rfl fl_M_17 rfl rfl (fun v22 => ?_)
  refine sm_iload_n (i := 1) (j := 0) (pc' := 178) d_M_init_177 rfl rfl rfl (sm_iconst (pc' := 179) d_M_init_178 rfl ic_m1 (sm_iast (pc' := 180) d_M_init_179 rfl (sm_iinc (j := 0) (L' := [(1, .inl 4), (0, .inr (.inr (some a0)))]) (pc' := 183) d_M_init_180 rfl (v := 4) rfl (by decide) (Nat.le_of_ble_eq_true rfl) rfl (sm_goto (tgt := 168) d_M_init_183 rfl (sm_iload_n (i := 1) (j := 0) (pc' := 169) d_M_init_168 rfl rfl rfl (sm_iconst (pc' := 170) d_M_init_169 rfl ic_4 (sm_icmp_ge_t (tgt := 186) d_M_init_170 rfl (by decide) (sm_aload_n (i := 0) (j := 1) (pc' := 187) d_M_init_186 rfl rfl rfl (sm_iconst (pc' := 188) d_M_init_187 rfl ic_0 ?_)))))))))
  refine sm_callVv (ci := 11) (x := (some a0)) (av := [.inl 0]) (st := []) (mc := 0) (ms := 0) (pc' := 191) d_M_init_188 rfl (sd_M_empties (some a0) 0) m_lv rfl cv_M_empties w_ml_M_77 rfl rfl (by decide) (Nat.le_of_ble_eq_true rfl) rfl rfl ?_
  exact sm_return d_M_init_191 rfl rfl
theorem d_M_status_0 : m_D k_M_status 0 (.aload_n 0) 1 := (by decide +kernel : decode prog_14_method_3_code 0 = .ok (.aload_n 0, 1))
theorem d_M_status_1 : m_D k_M_status 1 (.iconst 0) 1 := (by decide +kernel : decode prog_14_method_3_code 1 = .ok (.iconst 0, 1))
theorem d_M_status_2 : m_D k_M_status 2 (.putfield 81) 3 := (by decide +kernel : decode prog_14_method_3_code 2 = .ok (.putfield 81, 3))
theorem d_M_status_5 : m_D k_M_status 5 (.aload_n 0) 1 := (by decide +kernel : decode prog_14_method_3_code 5 = .ok (.aload_n 0, 1))
theorem d_M_status_6 : m_D k_M_status 6 (.getfield 84) 3 := (by decide +kernel : decode prog_14_method_3_code 6 = .ok (.getfield 84, 3))
theorem d_M_status_9 : m_D k_M_status 9 (.ireturn) 1 := (by decide +kernel : decode prog_14_method_3_code 9 = .ok (.ireturn, 1))
def fn_M_status (x0 : Option mA) : mP Int32 :=
  m_th 11 x0 <|
  m_bd (m_pI 11 1 x0 0) fun _ =>
  m_bd (m_gI 11 0 x0) fun v1 =>
  m_rt v1
set_option maxHeartbeats 4000000 in
set_option maxRecDepth 100000 in
theorem sd_M_status (x0 : Option mA) : m_Sm k_M_status 1 0 0 [.inr (.inr x0)] (fn_M_status x0) (fun b => some (.inl b)) := by
  refine ⟨Nat.le_of_ble_eq_true rfl, ?_⟩
  refine sm_th ?_
  refine sm_aload_n (i := 0) (j := 0) (pc' := 1) d_M_status_0 rfl rfl rfl (sm_iconst (pc' := 2) d_M_status_1 rfl ic_0 (sm_putI (pc' := 5) d_M_status_2 rfl fl_M_81 (Or.inl rfl) rfl (sm_aload_n (i := 0) (j := 0) (pc' := 6) d_M_status_5 rfl rfl rfl ?_)))
  refine sm_getI (pc' := 9) d_M_status_6 rfl fl_M_84 rfl ⟨by decide, by decide⟩ (fun v1 => ?_)
  exact sm_ireturn d_M_status_9 rfl rfl
theorem d_M_top_0 : m_D k_M_top 0 (.aload_n 0) 1 := (by decide +kernel : decode prog_14_method_4_code 0 = .ok (.aload_n 0, 1))
theorem d_M_top_1 : m_D k_M_top 1 (.iconst 0) 1 := (by decide +kernel : decode prog_14_method_4_code 1 = .ok (.iconst 0, 1))
theorem d_M_top_2 : m_D k_M_top 2 (.putfield 81) 3 := (by decide +kernel : decode prog_14_method_4_code 2 = .ok (.putfield 81, 3))
theorem d_M_top_5 : m_D k_M_top 5 (.aload_n 0) 1 := (by decide +kernel : decode prog_14_method_4_code 5 = .ok (.aload_n 0, 1))
theorem d_M_top_6 : m_D k_M_top 6 (.getfield 87) 3 := (by decide +kernel : decode prog_14_method_4_code 6 = .ok (.getfield 87, 3))
theorem d_M_top_9 : m_D k_M_top 9 (.lreturn) 1 := (by decide +kernel : decode prog_14_method_4_code 9 = .ok (.lreturn, 1))
def fn_M_top (x0 : Option mA) : mP Int64 :=
  m_th 11 x0 <|
  m_bd (m_pI 11 1 x0 0) fun _ =>
  m_bd (m_gJ 11 2 x0) fun v1 =>
  m_rt v1
set_option maxHeartbeats 4000000 in
set_option maxRecDepth 100000 in
theorem sd_M_top (x0 : Option mA) : m_Sm k_M_top 1 0 0 [.inr (.inr x0)] (fn_M_top x0) (fun b => some (.inr (.inl b))) := by
  refine ⟨Nat.le_of_ble_eq_true rfl, ?_⟩
  refine sm_th ?_
  refine sm_aload_n (i := 0) (j := 0) (pc' := 1) d_M_top_0 rfl rfl rfl (sm_iconst (pc' := 2) d_M_top_1 rfl ic_0 (sm_putI (pc' := 5) d_M_top_2 rfl fl_M_81 (Or.inl rfl) rfl (sm_aload_n (i := 0) (j := 0) (pc' := 6) d_M_top_5 rfl rfl rfl ?_)))
  refine sm_getJ (pc' := 9) d_M_top_6 rfl fl_M_87 rfl rfl (fun v1 => ?_)
  exact sm_lreturn d_M_top_9 rfl rfl
theorem d_M_bottom_0 : m_D k_M_bottom 0 (.aload_n 0) 1 := (by decide +kernel : decode prog_14_method_5_code 0 = .ok (.aload_n 0, 1))
theorem d_M_bottom_1 : m_D k_M_bottom 1 (.iconst 0) 1 := (by decide +kernel : decode prog_14_method_5_code 1 = .ok (.iconst 0, 1))
theorem d_M_bottom_2 : m_D k_M_bottom 2 (.putfield 81) 3 := (by decide +kernel : decode prog_14_method_5_code 2 = .ok (.putfield 81, 3))
theorem d_M_bottom_5 : m_D k_M_bottom 5 (.aload_n 0) 1 := (by decide +kernel : decode prog_14_method_5_code 5 = .ok (.aload_n 0, 1))
theorem d_M_bottom_6 : m_D k_M_bottom 6 (.getfield 7) 3 := (by decide +kernel : decode prog_14_method_5_code 6 = .ok (.getfield 7, 3))
theorem d_M_bottom_9 : m_D k_M_bottom 9 (.lreturn) 1 := (by decide +kernel : decode prog_14_method_5_code 9 = .ok (.lreturn, 1))
def fn_M_bottom (x0 : Option mA) : mP Int64 :=
  m_th 11 x0 <|
  m_bd (m_pI 11 1 x0 0) fun _ =>
  m_bd (m_gJ 11 3 x0) fun v1 =>
  m_rt v1
set_option maxHeartbeats 4000000 in
set_option maxRecDepth 100000 in
theorem sd_M_bottom (x0 : Option mA) : m_Sm k_M_bottom 1 0 0 [.inr (.inr x0)] (fn_M_bottom x0) (fun b => some (.inr (.inl b))) := by
  refine ⟨Nat.le_of_ble_eq_true rfl, ?_⟩
  refine sm_th ?_
  refine sm_aload_n (i := 0) (j := 0) (pc' := 1) d_M_bottom_0 rfl rfl rfl (sm_iconst (pc' := 2) d_M_bottom_1 rfl ic_0 (sm_putI (pc' := 5) d_M_bottom_2 rfl fl_M_81 (Or.inl rfl) rfl (sm_aload_n (i := 0) (j := 0) (pc' := 6) d_M_bottom_5 rfl rfl rfl ?_)))
  refine sm_getJ (pc' := 9) d_M_bottom_6 rfl fl_M_7 rfl rfl (fun v1 => ?_)
  exact sm_lreturn d_M_bottom_9 rfl rfl
theorem d_M_no_0 : m_D k_M_no 0 (.aload_n 0) 1 := (by decide +kernel : decode prog_14_method_7_code 0 = .ok (.aload_n 0, 1))
theorem d_M_no_1 : m_D k_M_no 1 (.iload_n 1) 1 := (by decide +kernel : decode prog_14_method_7_code 1 = .ok (.iload_n 1, 1))
theorem d_M_no_2 : m_D k_M_no 2 (.putfield 84) 3 := (by decide +kernel : decode prog_14_method_7_code 2 = .ok (.putfield 84, 3))
theorem d_M_no_5 : m_D k_M_no 5 (.iconst 0) 1 := (by decide +kernel : decode prog_14_method_7_code 5 = .ok (.iconst 0, 1))
theorem d_M_no_6 : m_D k_M_no 6 (.ireturn) 1 := (by decide +kernel : decode prog_14_method_7_code 6 = .ok (.ireturn, 1))
def fn_M_no (x0 : Option mA) (x1 : Int32) : mP Int32 :=
  m_th 11 x0 <|
  m_bd (m_pI 11 0 x0 x1) fun _ =>
  m_rt 0
set_option maxHeartbeats 4000000 in
set_option maxRecDepth 100000 in
theorem sd_M_no (x0 : Option mA) (x1 : Int32) : m_Sm k_M_no 1 0 0 [.inr (.inr x0), .inl x1] (fn_M_no x0 x1) (fun b => some (.inl b)) := by
  refine ⟨Nat.le_of_ble_eq_true rfl, ?_⟩
  refine sm_th ?_
  refine sm_aload_n (i := 0) (j := 0) (pc' := 1) d_M_no_0 rfl rfl rfl (sm_iload_n (i := 1) (j := 1) (pc' := 2) d_M_no_1 rfl rfl rfl (sm_putI (pc' := 5) d_M_no_2 rfl fl_M_84 (Or.inl rfl) rfl (sm_iconst (pc' := 6) d_M_no_5 rfl ic_0 ?_)))
  exact sm_zreturn d_M_no_6 rfl (by decide) rfl
theorem d_M_tray_0 : m_D k_M_tray 0 (.aload_n 0) 1 := (by decide +kernel : decode prog_14_method_11_code 0 = .ok (.aload_n 0, 1))
theorem d_M_tray_1 : m_D k_M_tray 1 (.iconst 0) 1 := (by decide +kernel : decode prog_14_method_11_code 1 = .ok (.iconst 0, 1))
theorem d_M_tray_2 : m_D k_M_tray 2 (.putfield 81) 3 := (by decide +kernel : decode prog_14_method_11_code 2 = .ok (.putfield 81, 3))
theorem d_M_tray_5 : m_D k_M_tray 5 (.aload_n 0) 1 := (by decide +kernel : decode prog_14_method_11_code 5 = .ok (.aload_n 0, 1))
theorem d_M_tray_6 : m_D k_M_tray 6 (.iconst 0) 1 := (by decide +kernel : decode prog_14_method_11_code 6 = .ok (.iconst 0, 1))
theorem d_M_tray_7 : m_D k_M_tray 7 (.putfield 84) 3 := (by decide +kernel : decode prog_14_method_11_code 7 = .ok (.putfield 84, 3))
theorem d_M_tray_10 : m_D k_M_tray 10 (.iload_n 1) 1 := (by decide +kernel : decode prog_14_method_11_code 10 = .ok (.iload_n 1, 1))
theorem d_M_tray_11 : m_D k_M_tray 11 (.ifCond .lt 17) 3 := (by decide +kernel : decode prog_14_method_11_code 11 = .ok (.ifCond .lt 17, 3))
theorem d_M_tray_14 : m_D k_M_tray 14 (.iload_n 1) 1 := (by decide +kernel : decode prog_14_method_11_code 14 = .ok (.iload_n 1, 1))
theorem d_M_tray_15 : m_D k_M_tray 15 (.iconst 4) 1 := (by decide +kernel : decode prog_14_method_11_code 15 = .ok (.iconst 4, 1))
theorem d_M_tray_16 : m_D k_M_tray 16 (.if_icmp .ge 12) 3 := (by decide +kernel : decode prog_14_method_11_code 16 = .ok (.if_icmp .ge 12, 3))
theorem d_M_tray_19 : m_D k_M_tray 19 (.iload_n 2) 1 := (by decide +kernel : decode prog_14_method_11_code 19 = .ok (.iload_n 2, 1))
theorem d_M_tray_20 : m_D k_M_tray 20 (.ifCond .lt 8) 3 := (by decide +kernel : decode prog_14_method_11_code 20 = .ok (.ifCond .lt 8, 3))
theorem d_M_tray_23 : m_D k_M_tray 23 (.iload_n 2) 1 := (by decide +kernel : decode prog_14_method_11_code 23 = .ok (.iload_n 2, 1))
theorem d_M_tray_24 : m_D k_M_tray 24 (.iconst 3) 1 := (by decide +kernel : decode prog_14_method_11_code 24 = .ok (.iconst 3, 1))
theorem d_M_tray_25 : m_D k_M_tray 25 (.if_icmp .le 9) 3 := (by decide +kernel : decode prog_14_method_11_code 25 = .ok (.if_icmp .le 9, 3))
theorem d_M_tray_28 : m_D k_M_tray 28 (.aload_n 0) 1 := (by decide +kernel : decode prog_14_method_11_code 28 = .ok (.aload_n 0, 1))
theorem d_M_tray_29 : m_D k_M_tray 29 (.iconst 1) 1 := (by decide +kernel : decode prog_14_method_11_code 29 = .ok (.iconst 1, 1))
theorem d_M_tray_30 : m_D k_M_tray 30 (.invokevirtual 96) 3 := (by decide +kernel : decode prog_14_method_11_code 30 = .ok (.invokevirtual 96, 3))
theorem d_M_tray_33 : m_D k_M_tray 33 (.ireturn) 1 := (by decide +kernel : decode prog_14_method_11_code 33 = .ok (.ireturn, 1))
theorem d_M_tray_34 : m_D k_M_tray 34 (.iload_n 3) 1 := (by decide +kernel : decode prog_14_method_11_code 34 = .ok (.iload_n 3, 1))
theorem d_M_tray_35 : m_D k_M_tray 35 (.bipush 60) 2 := (by decide +kernel : decode prog_14_method_11_code 35 = .ok (.bipush 60, 2))
theorem d_M_tray_37 : m_D k_M_tray 37 (.if_icmp .le 9) 3 := (by decide +kernel : decode prog_14_method_11_code 37 = .ok (.if_icmp .le 9, 3))
theorem d_M_tray_40 : m_D k_M_tray 40 (.aload_n 0) 1 := (by decide +kernel : decode prog_14_method_11_code 40 = .ok (.aload_n 0, 1))
theorem d_M_tray_41 : m_D k_M_tray 41 (.iconst 5) 1 := (by decide +kernel : decode prog_14_method_11_code 41 = .ok (.iconst 5, 1))
theorem d_M_tray_42 : m_D k_M_tray 42 (.invokevirtual 96) 3 := (by decide +kernel : decode prog_14_method_11_code 42 = .ok (.invokevirtual 96, 3))
theorem d_M_tray_45 : m_D k_M_tray 45 (.ireturn) 1 := (by decide +kernel : decode prog_14_method_11_code 45 = .ok (.ireturn, 1))
theorem d_M_tray_46 : m_D k_M_tray 46 (.iload_n 3) 1 := (by decide +kernel : decode prog_14_method_11_code 46 = .ok (.iload_n 3, 1))
theorem d_M_tray_47 : m_D k_M_tray 47 (.ifCond .ge 10) 3 := (by decide +kernel : decode prog_14_method_11_code 47 = .ok (.ifCond .ge 10, 3))
theorem d_M_tray_50 : m_D k_M_tray 50 (.aload_n 0) 1 := (by decide +kernel : decode prog_14_method_11_code 50 = .ok (.aload_n 0, 1))
theorem d_M_tray_51 : m_D k_M_tray 51 (.bipush 6) 2 := (by decide +kernel : decode prog_14_method_11_code 51 = .ok (.bipush 6, 2))
theorem d_M_tray_53 : m_D k_M_tray 53 (.invokevirtual 96) 3 := (by decide +kernel : decode prog_14_method_11_code 53 = .ok (.invokevirtual 96, 3))
theorem d_M_tray_56 : m_D k_M_tray 56 (.ireturn) 1 := (by decide +kernel : decode prog_14_method_11_code 56 = .ok (.ireturn, 1))
theorem d_M_tray_57 : m_D k_M_tray 57 (.aload_n 0) 1 := (by decide +kernel : decode prog_14_method_11_code 57 = .ok (.aload_n 0, 1))
theorem d_M_tray_58 : m_D k_M_tray 58 (.getfield 13) 3 := (by decide +kernel : decode prog_14_method_11_code 58 = .ok (.getfield 13, 3))
theorem d_M_tray_61 : m_D k_M_tray 61 (.iload_n 1) 1 := (by decide +kernel : decode prog_14_method_11_code 61 = .ok (.iload_n 1, 1))
theorem d_M_tray_62 : m_D k_M_tray 62 (.iload_n 2) 1 := (by decide +kernel : decode prog_14_method_11_code 62 = .ok (.iload_n 2, 1))
theorem d_M_tray_63 : m_D k_M_tray 63 (.iastore) 1 := (by decide +kernel : decode prog_14_method_11_code 63 = .ok (.iastore, 1))
theorem d_M_tray_64 : m_D k_M_tray 64 (.aload_n 0) 1 := (by decide +kernel : decode prog_14_method_11_code 64 = .ok (.aload_n 0, 1))
theorem d_M_tray_65 : m_D k_M_tray 65 (.getfield 17) 3 := (by decide +kernel : decode prog_14_method_11_code 65 = .ok (.getfield 17, 3))
theorem d_M_tray_68 : m_D k_M_tray 68 (.iload_n 1) 1 := (by decide +kernel : decode prog_14_method_11_code 68 = .ok (.iload_n 1, 1))
theorem d_M_tray_69 : m_D k_M_tray 69 (.iload_n 3) 1 := (by decide +kernel : decode prog_14_method_11_code 69 = .ok (.iload_n 3, 1))
theorem d_M_tray_70 : m_D k_M_tray 70 (.iastore) 1 := (by decide +kernel : decode prog_14_method_11_code 70 = .ok (.iastore, 1))
theorem d_M_tray_71 : m_D k_M_tray 71 (.iconst 0) 1 := (by decide +kernel : decode prog_14_method_11_code 71 = .ok (.iconst 0, 1))
theorem d_M_tray_72 : m_D k_M_tray 72 (.istore 4) 2 := (by decide +kernel : decode prog_14_method_11_code 72 = .ok (.istore 4, 2))
theorem d_M_tray_74 : m_D k_M_tray 74 (.iload 4) 2 := (by decide +kernel : decode prog_14_method_11_code 74 = .ok (.iload 4, 2))
theorem d_M_tray_76 : m_D k_M_tray 76 (.iload_n 3) 1 := (by decide +kernel : decode prog_14_method_11_code 76 = .ok (.iload_n 3, 1))
theorem d_M_tray_77 : m_D k_M_tray 77 (.if_icmp .ge 22) 3 := (by decide +kernel : decode prog_14_method_11_code 77 = .ok (.if_icmp .ge 22, 3))
theorem d_M_tray_80 : m_D k_M_tray 80 (.aload_n 0) 1 := (by decide +kernel : decode prog_14_method_11_code 80 = .ok (.aload_n 0, 1))
theorem d_M_tray_81 : m_D k_M_tray 81 (.getfield 20) 3 := (by decide +kernel : decode prog_14_method_11_code 81 = .ok (.getfield 20, 3))
theorem d_M_tray_84 : m_D k_M_tray 84 (.bipush 60) 2 := (by decide +kernel : decode prog_14_method_11_code 84 = .ok (.bipush 60, 2))
theorem d_M_tray_86 : m_D k_M_tray 86 (.iload_n 1) 1 := (by decide +kernel : decode prog_14_method_11_code 86 = .ok (.iload_n 1, 1))
theorem d_M_tray_87 : m_D k_M_tray 87 (.imul) 1 := (by decide +kernel : decode prog_14_method_11_code 87 = .ok (.imul, 1))
theorem d_M_tray_88 : m_D k_M_tray 88 (.iload 4) 2 := (by decide +kernel : decode prog_14_method_11_code 88 = .ok (.iload 4, 2))
theorem d_M_tray_90 : m_D k_M_tray 90 (.iadd) 1 := (by decide +kernel : decode prog_14_method_11_code 90 = .ok (.iadd, 1))
theorem d_M_tray_91 : m_D k_M_tray 91 (.lconst 0) 1 := (by decide +kernel : decode prog_14_method_11_code 91 = .ok (.lconst 0, 1))
theorem d_M_tray_92 : m_D k_M_tray 92 (.lastore) 1 := (by decide +kernel : decode prog_14_method_11_code 92 = .ok (.lastore, 1))
theorem d_M_tray_93 : m_D k_M_tray 93 (.iinc 4 1) 3 := (by decide +kernel : decode prog_14_method_11_code 93 = .ok (.iinc 4 1, 3))
theorem d_M_tray_96 : m_D k_M_tray 96 (.goto (-22)) 3 := (by decide +kernel : decode prog_14_method_11_code 96 = .ok (.goto (-22), 3))
theorem d_M_tray_99 : m_D k_M_tray 99 (.iconst 1) 1 := (by decide +kernel : decode prog_14_method_11_code 99 = .ok (.iconst 1, 1))
theorem d_M_tray_100 : m_D k_M_tray 100 (.ireturn) 1 := (by decide +kernel : decode prog_14_method_11_code 100 = .ok (.ireturn, 1))
def fn_M_tray_l74 (x0 : Option mA) (x1 : Int32) (x3 : Int32) (t6 : Int32) : mP ((Int32) ⊕ (Unit)) :=
  if x3 ≤ t6 then
    m_rt (.inr ())
  else
    m_bd (m_gR 11 6 x0) fun v7 =>
    m_bd (m_tJ v7 ((60 * x1) + t6) 0) fun _ =>
    m_rt (.inl (t6 + 1))
def fn_M_tray (x0 : Option mA) (x1 : Int32) (x2 : Int32) (x3 : Int32) : mP Int32 :=
  m_th 11 x0 <|
  m_bd (m_pI 11 1 x0 0) fun _ =>
  m_bd (m_pI 11 0 x0 0) fun _ =>
  if x1 < 0 then
    m_bd (fn_M_no x0 1) fun v1 =>
    m_bd (m_cz v1) fun _ => m_rt v1
  else
    if 4 ≤ x1 then
      m_bd (fn_M_no x0 1) fun v2 =>
      m_bd (m_cz v2) fun _ => m_rt v2
    else
      if x2 < 0 then
        m_bd (fn_M_no x0 1) fun v3 =>
        m_bd (m_cz v3) fun _ => m_rt v3
      else
        if x2 ≤ 3 then
          if x3 ≤ 60 then
            if 0 ≤ x3 then
              m_bd (m_gR 11 4 x0) fun v4 =>
              m_bd (m_tI 0 v4 x1 x2) fun _ =>
              m_bd (m_gR 11 5 x0) fun v5 =>
              m_bd (m_tI 0 v5 x1 x3) fun _ =>
              m_bd (m_lp (fn_M_tray_l74 x0 x1 x3) m_F 0) fun (t8 : Unit) =>
              m_rt 1
            else
              m_bd (fn_M_no x0 6) fun v9 =>
              m_bd (m_cz v9) fun _ => m_rt v9
          else
            m_bd (fn_M_no x0 5) fun v10 =>
            m_bd (m_cz v10) fun _ => m_rt v10
        else
          m_bd (fn_M_no x0 1) fun v11 =>
          m_bd (m_cz v11) fun _ => m_rt v11
set_option maxHeartbeats 4000000 in
set_option maxRecDepth 100000 in
theorem sd_M_tray (x0 : Option mA) (x1 : Int32) (x2 : Int32) (x3 : Int32) : m_Sm k_M_tray 2 0 0 [.inr (.inr x0), .inl x1, .inl x2, .inl x3] (fn_M_tray x0 x1 x2 x3) (fun b => some (.inl b)) := by
  refine ⟨Nat.le_of_ble_eq_true rfl, ?_⟩
  refine sm_th ?_
  refine sm_aload_n (i := 0) (j := 0) (pc' := 1) d_M_tray_0 rfl rfl rfl (sm_iconst (pc' := 2) d_M_tray_1 rfl ic_0 (sm_putI (pc' := 5) d_M_tray_2 rfl fl_M_81 (Or.inl rfl) rfl (sm_aload_n (i := 0) (j := 0) (pc' := 6) d_M_tray_5 rfl rfl rfl (sm_iconst (pc' := 7) d_M_tray_6 rfl ic_0 (sm_putI (pc' := 10) d_M_tray_7 rfl fl_M_84 (Or.inl rfl) rfl (sm_iload_n (i := 1) (j := 1) (pc' := 11) d_M_tray_10 rfl rfl rfl ?_))))))
  refine sm_if_lt (tgt := 28) (pc' := 14) d_M_tray_11 rfl rfl ?_ ?_
  · refine sm_aload_n (i := 0) (j := 0) (pc' := 29) d_M_tray_28 rfl rfl rfl (sm_iconst (pc' := 30) d_M_tray_29 rfl ic_1 ?_)
    refine sm_callVi (ci := 11) (x := x0) (av := [.inl 1]) (st := []) (mc := 0) (ms := 0) (pc' := 33) d_M_tray_30 rfl (sd_M_no x0 1) m_lv rfl cv_M_no w_ml_M_96 rfl rfl (by decide) (Nat.le_of_ble_eq_true rfl) rfl rfl (fun v1 => ?_)
    exact sm_zretC d_M_tray_33 rfl rfl
  · refine sm_iload_n (i := 1) (j := 1) (pc' := 15) d_M_tray_14 rfl rfl rfl (sm_iconst (pc' := 16) d_M_tray_15 rfl ic_4 ?_)
    refine sm_icmp_ge (tgt := 28) (pc' := 19) d_M_tray_16 rfl rfl ?_ ?_
    · refine sm_aload_n (i := 0) (j := 0) (pc' := 29) d_M_tray_28 rfl rfl rfl (sm_iconst (pc' := 30) d_M_tray_29 rfl ic_1 ?_)
      refine sm_callVi (ci := 11) (x := x0) (av := [.inl 1]) (st := []) (mc := 0) (ms := 0) (pc' := 33) d_M_tray_30 rfl (sd_M_no x0 1) m_lv rfl cv_M_no w_ml_M_96 rfl rfl (by decide) (Nat.le_of_ble_eq_true rfl) rfl rfl (fun v2 => ?_)
      exact sm_zretC d_M_tray_33 rfl rfl
    · refine sm_iload_n (i := 2) (j := 2) (pc' := 20) d_M_tray_19 rfl rfl rfl ?_
      refine sm_if_lt (tgt := 28) (pc' := 23) d_M_tray_20 rfl rfl ?_ ?_
      · refine sm_aload_n (i := 0) (j := 0) (pc' := 29) d_M_tray_28 rfl rfl rfl (sm_iconst (pc' := 30) d_M_tray_29 rfl ic_1 ?_)
        refine sm_callVi (ci := 11) (x := x0) (av := [.inl 1]) (st := []) (mc := 0) (ms := 0) (pc' := 33) d_M_tray_30 rfl (sd_M_no x0 1) m_lv rfl cv_M_no w_ml_M_96 rfl rfl (by decide) (Nat.le_of_ble_eq_true rfl) rfl rfl (fun v3 => ?_)
        exact sm_zretC d_M_tray_33 rfl rfl
      · refine sm_iload_n (i := 2) (j := 2) (pc' := 24) d_M_tray_23 rfl rfl rfl (sm_iconst (pc' := 25) d_M_tray_24 rfl ic_3 ?_)
        refine sm_icmp_le (tgt := 34) (pc' := 28) d_M_tray_25 rfl rfl ?_ ?_
        · refine sm_iload_n (i := 3) (j := 3) (pc' := 35) d_M_tray_34 rfl rfl rfl (sm_bipush (pc' := 37) d_M_tray_35 rfl ib_60 ?_)
          refine sm_icmp_le (tgt := 46) (pc' := 40) d_M_tray_37 rfl rfl ?_ ?_
          · refine sm_iload_n (i := 3) (j := 3) (pc' := 47) d_M_tray_46 rfl rfl rfl ?_
            refine sm_if_ge (tgt := 57) (pc' := 50) d_M_tray_47 rfl rfl ?_ ?_
            · refine sm_aload_n (i := 0) (j := 0) (pc' := 58) d_M_tray_57 rfl rfl rfl ?_
              refine sm_getR (pc' := 61) d_M_tray_58 rfl fl_M_13 rfl rfl (fun v4 => ?_)
              refine sm_iload_n (i := 1) (j := 1) (pc' := 62) d_M_tray_61 rfl rfl rfl (sm_iload_n (i := 2) (j := 2) (pc' := 63) d_M_tray_62 rfl rfl rfl (sm_iast (pc' := 64) d_M_tray_63 rfl (sm_aload_n (i := 0) (j := 0) (pc' := 65) d_M_tray_64 rfl rfl rfl ?_)))
              refine sm_getR (pc' := 68) d_M_tray_65 rfl fl_M_17 rfl rfl (fun v5 => ?_)
              refine sm_iload_n (i := 1) (j := 1) (pc' := 69) d_M_tray_68 rfl rfl rfl (sm_iload_n (i := 3) (j := 3) (pc' := 70) d_M_tray_69 rfl rfl rfl (sm_iast (pc' := 71) d_M_tray_70 rfl (sm_iconst (pc' := 72) d_M_tray_71 rfl ic_0 (sm_istore (L' := [(4, .inl 0), (0, .inr (.inr x0)), (1, .inl x1), (2, .inl x2), (3, .inl x3)]) (pc' := 74) d_M_tray_72 rfl (Nat.le_of_ble_eq_true rfl) rfl ?_))))
              refine sm_sub [0, 1, 2, 4] rfl ?_
              refine sm_bd (mid := fun (t8 : Unit) => .inl (99, [], [])) (sm_lp (hd := fun (t6 : Int32) => (.inl (74, [(4, .inl t6), (0, .inr (.inr x0)), (1, .inl x1), (3, .inl x3)], []) : mC)) (fun t6 => ?_) m_F 0) (fun t8 => ?_)
              · refine sm_iload (j := 0) (pc' := 76) d_M_tray_74 rfl rfl (sm_iload_n (i := 3) (j := 3) (pc' := 77) d_M_tray_76 rfl rfl rfl ?_)
                refine sm_icmp_ge (tgt := 99) (pc' := 80) d_M_tray_77 rfl rfl ?_ ?_
                · refine sm_sub [] rfl ?_
                  exact sm_rt rfl
                · refine sm_aload_n (i := 0) (j := 1) (pc' := 81) d_M_tray_80 rfl rfl rfl ?_
                  refine sm_getR (pc' := 84) d_M_tray_81 rfl fl_M_20 rfl rfl (fun v7 => ?_)
                  refine sm_bipush (pc' := 86) d_M_tray_84 rfl ib_60 (sm_iload_n (i := 1) (j := 2) (pc' := 87) d_M_tray_86 rfl rfl rfl (sm_imul (pc' := 88) d_M_tray_87 rfl (sm_iload (j := 0) (pc' := 90) d_M_tray_88 rfl rfl (sm_iadd (pc' := 91) d_M_tray_90 rfl (sm_lconst (pc' := 92) (v := 0) d_M_tray_91 rfl rfl (sm_last (pc' := 93) d_M_tray_92 rfl (sm_iinc (j := 0) (L' := [(4, .inl (t6 + 1)), (0, .inr (.inr x0)), (1, .inl x1), (3, .inl x3)]) (pc' := 96) d_M_tray_93 rfl (v := (t6 + 1)) rfl (ix_1 _) (Nat.le_of_ble_eq_true rfl) rfl (sm_goto (tgt := 74) d_M_tray_96 rfl (sm_sub [0, 1, 2, 3] rfl ?_)))))))))
                  exact sm_rt rfl
              · refine sm_iconst (pc' := 100) d_M_tray_99 rfl ic_1 ?_
                exact sm_zreturn d_M_tray_100 rfl (by decide) rfl
            · refine sm_aload_n (i := 0) (j := 0) (pc' := 51) d_M_tray_50 rfl rfl rfl (sm_bipush (pc' := 53) d_M_tray_51 rfl ib_6 ?_)
              refine sm_callVi (ci := 11) (x := x0) (av := [.inl 6]) (st := []) (mc := 0) (ms := 0) (pc' := 56) d_M_tray_53 rfl (sd_M_no x0 6) m_lv rfl cv_M_no w_ml_M_96 rfl rfl (by decide) (Nat.le_of_ble_eq_true rfl) rfl rfl (fun v9 => ?_)
              exact sm_zretC d_M_tray_56 rfl rfl
          · refine sm_aload_n (i := 0) (j := 0) (pc' := 41) d_M_tray_40 rfl rfl rfl (sm_iconst (pc' := 42) d_M_tray_41 rfl ic_5 ?_)
            refine sm_callVi (ci := 11) (x := x0) (av := [.inl 5]) (st := []) (mc := 0) (ms := 0) (pc' := 45) d_M_tray_42 rfl (sd_M_no x0 5) m_lv rfl cv_M_no w_ml_M_96 rfl rfl (by decide) (Nat.le_of_ble_eq_true rfl) rfl rfl (fun v10 => ?_)
            exact sm_zretC d_M_tray_45 rfl rfl
        · refine sm_aload_n (i := 0) (j := 0) (pc' := 29) d_M_tray_28 rfl rfl rfl (sm_iconst (pc' := 30) d_M_tray_29 rfl ic_1 ?_)
          refine sm_callVi (ci := 11) (x := x0) (av := [.inl 1]) (st := []) (mc := 0) (ms := 0) (pc' := 33) d_M_tray_30 rfl (sd_M_no x0 1) m_lv rfl cv_M_no w_ml_M_96 rfl rfl (by decide) (Nat.le_of_ble_eq_true rfl) rfl rfl (fun v11 => ?_)
          exact sm_zretC d_M_tray_33 rfl rfl
theorem d_M_cut_0 : m_D k_M_cut 0 (.iload_n 0) 1 := (by decide +kernel : decode prog_14_method_10_code 0 = .ok (.iload_n 0, 1))
theorem d_M_cut_1 : m_D k_M_cut 1 (.ifCond .ne 10) 3 := (by decide +kernel : decode prog_14_method_10_code 1 = .ok (.ifCond .ne 10, 3))
theorem d_M_cut_4 : m_D k_M_cut 4 (.lload_n 1) 1 := (by decide +kernel : decode prog_14_method_10_code 4 = .ok (.lload_n 1, 1))
theorem d_M_cut_5 : m_D k_M_cut 5 (.l2i) 1 := (by decide +kernel : decode prog_14_method_10_code 5 = .ok (.l2i, 1))
theorem d_M_cut_6 : m_D k_M_cut 6 (.i2b) 1 := (by decide +kernel : decode prog_14_method_10_code 6 = .ok (.i2b, 1))
theorem d_M_cut_7 : m_D k_M_cut 7 (.i2l) 1 := (by decide +kernel : decode prog_14_method_10_code 7 = .ok (.i2l, 1))
theorem d_M_cut_8 : m_D k_M_cut 8 (.goto 27) 3 := (by decide +kernel : decode prog_14_method_10_code 8 = .ok (.goto 27, 3))
theorem d_M_cut_11 : m_D k_M_cut 11 (.iload_n 0) 1 := (by decide +kernel : decode prog_14_method_10_code 11 = .ok (.iload_n 0, 1))
theorem d_M_cut_12 : m_D k_M_cut 12 (.iconst 1) 1 := (by decide +kernel : decode prog_14_method_10_code 12 = .ok (.iconst 1, 1))
theorem d_M_cut_13 : m_D k_M_cut 13 (.if_icmp .ne 10) 3 := (by decide +kernel : decode prog_14_method_10_code 13 = .ok (.if_icmp .ne 10, 3))
theorem d_M_cut_16 : m_D k_M_cut 16 (.lload_n 1) 1 := (by decide +kernel : decode prog_14_method_10_code 16 = .ok (.lload_n 1, 1))
theorem d_M_cut_17 : m_D k_M_cut 17 (.l2i) 1 := (by decide +kernel : decode prog_14_method_10_code 17 = .ok (.l2i, 1))
theorem d_M_cut_18 : m_D k_M_cut 18 (.i2s) 1 := (by decide +kernel : decode prog_14_method_10_code 18 = .ok (.i2s, 1))
theorem d_M_cut_19 : m_D k_M_cut 19 (.i2l) 1 := (by decide +kernel : decode prog_14_method_10_code 19 = .ok (.i2l, 1))
theorem d_M_cut_20 : m_D k_M_cut 20 (.goto 15) 3 := (by decide +kernel : decode prog_14_method_10_code 20 = .ok (.goto 15, 3))
theorem d_M_cut_23 : m_D k_M_cut 23 (.iload_n 0) 1 := (by decide +kernel : decode prog_14_method_10_code 23 = .ok (.iload_n 0, 1))
theorem d_M_cut_24 : m_D k_M_cut 24 (.iconst 2) 1 := (by decide +kernel : decode prog_14_method_10_code 24 = .ok (.iconst 2, 1))
theorem d_M_cut_25 : m_D k_M_cut 25 (.if_icmp .ne 9) 3 := (by decide +kernel : decode prog_14_method_10_code 25 = .ok (.if_icmp .ne 9, 3))
theorem d_M_cut_28 : m_D k_M_cut 28 (.lload_n 1) 1 := (by decide +kernel : decode prog_14_method_10_code 28 = .ok (.lload_n 1, 1))
theorem d_M_cut_29 : m_D k_M_cut 29 (.l2i) 1 := (by decide +kernel : decode prog_14_method_10_code 29 = .ok (.l2i, 1))
theorem d_M_cut_30 : m_D k_M_cut 30 (.i2l) 1 := (by decide +kernel : decode prog_14_method_10_code 30 = .ok (.i2l, 1))
theorem d_M_cut_31 : m_D k_M_cut 31 (.goto 4) 3 := (by decide +kernel : decode prog_14_method_10_code 31 = .ok (.goto 4, 3))
theorem d_M_cut_34 : m_D k_M_cut 34 (.lload_n 1) 1 := (by decide +kernel : decode prog_14_method_10_code 34 = .ok (.lload_n 1, 1))
theorem d_M_cut_35 : m_D k_M_cut 35 (.lreturn) 1 := (by decide +kernel : decode prog_14_method_10_code 35 = .ok (.lreturn, 1))
def fn_M_cut (x0 : Int32) (x1 : Int64) : mP Int64 :=
  if x0 = 0 then
    m_rt (((x1).toInt32).toInt8.toInt32).toInt64
  else
    if x0 = 1 then
      m_rt (((x1).toInt32).toInt16.toInt32).toInt64
    else
      if x0 = 2 then
        m_rt ((x1).toInt32).toInt64
      else
        m_rt x1
set_option maxHeartbeats 4000000 in
set_option maxRecDepth 100000 in
theorem sd_M_cut (x0 : Int32) (x1 : Int64) : m_Sm k_M_cut 1 0 0 [.inl x0, .inr (.inl x1)] (fn_M_cut x0 x1) (fun b => some (.inr (.inl b))) := by
  refine ⟨Nat.le_of_ble_eq_true rfl, ?_⟩
  refine sm_iload_n (i := 0) (j := 0) (pc' := 1) d_M_cut_0 rfl rfl rfl ?_
  refine sm_if_ne (tgt := 11) (pc' := 4) d_M_cut_1 rfl rfl ?_ ?_
  · refine sm_iload_n (i := 0) (j := 0) (pc' := 12) d_M_cut_11 rfl rfl rfl (sm_iconst (pc' := 13) d_M_cut_12 rfl ic_1 ?_)
    refine sm_icmp_ne (tgt := 23) (pc' := 16) d_M_cut_13 rfl rfl ?_ ?_
    · refine sm_iload_n (i := 0) (j := 0) (pc' := 24) d_M_cut_23 rfl rfl rfl (sm_iconst (pc' := 25) d_M_cut_24 rfl ic_2 ?_)
      refine sm_icmp_ne (tgt := 34) (pc' := 28) d_M_cut_25 rfl rfl ?_ ?_
      · refine sm_lload_n (i := 1) (j := 1) (pc' := 35) d_M_cut_34 rfl rfl rfl ?_
        exact sm_lreturn d_M_cut_35 rfl rfl
      · refine sm_lload_n (i := 1) (j := 1) (pc' := 29) d_M_cut_28 rfl rfl rfl (sm_l2i (pc' := 30) d_M_cut_29 rfl (sm_i2l (pc' := 31) d_M_cut_30 rfl (sm_goto (tgt := 35) d_M_cut_31 rfl ?_)))
        exact sm_lreturn d_M_cut_35 rfl rfl
    · refine sm_lload_n (i := 1) (j := 1) (pc' := 17) d_M_cut_16 rfl rfl rfl (sm_l2i (pc' := 18) d_M_cut_17 rfl (sm_i2s (pc' := 19) d_M_cut_18 rfl (sm_i2l (pc' := 20) d_M_cut_19 rfl (sm_goto (tgt := 35) d_M_cut_20 rfl ?_))))
      exact sm_lreturn d_M_cut_35 rfl rfl
  · refine sm_lload_n (i := 1) (j := 1) (pc' := 5) d_M_cut_4 rfl rfl rfl (sm_l2i (pc' := 6) d_M_cut_5 rfl (sm_i2b (pc' := 7) d_M_cut_6 rfl (sm_i2l (pc' := 8) d_M_cut_7 rfl (sm_goto (tgt := 35) d_M_cut_8 rfl ?_))))
    exact sm_lreturn d_M_cut_35 rfl rfl
theorem d_M_trayed_0 : m_D k_M_trayed 0 (.iload_n 1) 1 := (by decide +kernel : decode prog_14_method_12_code 0 = .ok (.iload_n 1, 1))
theorem d_M_trayed_1 : m_D k_M_trayed 1 (.ifCond .lt 8) 3 := (by decide +kernel : decode prog_14_method_12_code 1 = .ok (.ifCond .lt 8, 3))
theorem d_M_trayed_4 : m_D k_M_trayed 4 (.iload_n 1) 1 := (by decide +kernel : decode prog_14_method_12_code 4 = .ok (.iload_n 1, 1))
theorem d_M_trayed_5 : m_D k_M_trayed 5 (.iconst 4) 1 := (by decide +kernel : decode prog_14_method_12_code 5 = .ok (.iconst 4, 1))
theorem d_M_trayed_6 : m_D k_M_trayed 6 (.if_icmp .lt 7) 3 := (by decide +kernel : decode prog_14_method_12_code 6 = .ok (.if_icmp .lt 7, 3))
theorem d_M_trayed_9 : m_D k_M_trayed 9 (.iconst 1) 1 := (by decide +kernel : decode prog_14_method_12_code 9 = .ok (.iconst 1, 1))
theorem d_M_trayed_10 : m_D k_M_trayed 10 (.goto 17) 3 := (by decide +kernel : decode prog_14_method_12_code 10 = .ok (.goto 17, 3))
theorem d_M_trayed_13 : m_D k_M_trayed 13 (.aload_n 0) 1 := (by decide +kernel : decode prog_14_method_12_code 13 = .ok (.aload_n 0, 1))
theorem d_M_trayed_14 : m_D k_M_trayed 14 (.getfield 17) 3 := (by decide +kernel : decode prog_14_method_12_code 14 = .ok (.getfield 17, 3))
theorem d_M_trayed_17 : m_D k_M_trayed 17 (.iload_n 1) 1 := (by decide +kernel : decode prog_14_method_12_code 17 = .ok (.iload_n 1, 1))
theorem d_M_trayed_18 : m_D k_M_trayed 18 (.iaload) 1 := (by decide +kernel : decode prog_14_method_12_code 18 = .ok (.iaload, 1))
theorem d_M_trayed_19 : m_D k_M_trayed 19 (.ifCond .ge 7) 3 := (by decide +kernel : decode prog_14_method_12_code 19 = .ok (.ifCond .ge 7, 3))
theorem d_M_trayed_22 : m_D k_M_trayed 22 (.iconst 3) 1 := (by decide +kernel : decode prog_14_method_12_code 22 = .ok (.iconst 3, 1))
theorem d_M_trayed_23 : m_D k_M_trayed 23 (.goto 4) 3 := (by decide +kernel : decode prog_14_method_12_code 23 = .ok (.goto 4, 3))
theorem d_M_trayed_26 : m_D k_M_trayed 26 (.iconst 0) 1 := (by decide +kernel : decode prog_14_method_12_code 26 = .ok (.iconst 0, 1))
theorem d_M_trayed_27 : m_D k_M_trayed 27 (.ireturn) 1 := (by decide +kernel : decode prog_14_method_12_code 27 = .ok (.ireturn, 1))
def fn_M_trayed (x0 : Option mA) (x1 : Int32) : mP Int32 :=
  m_th 11 x0 <|
  if x1 < 0 then
    m_rt 1
  else
    if x1 < 4 then
      m_bd (m_gR 11 5 x0) fun v1 =>
      m_bd (m_aI 0 v1 x1) fun v2 =>
      if 0 ≤ v2 then
        m_rt 0
      else
        m_rt 3
    else
      m_rt 1
set_option maxHeartbeats 4000000 in
set_option maxRecDepth 100000 in
theorem sd_M_trayed (x0 : Option mA) (x1 : Int32) : m_Sm k_M_trayed 1 0 0 [.inr (.inr x0), .inl x1] (fn_M_trayed x0 x1) (fun b => some (.inl b)) := by
  refine ⟨Nat.le_of_ble_eq_true rfl, ?_⟩
  refine sm_th ?_
  refine sm_iload_n (i := 1) (j := 1) (pc' := 1) d_M_trayed_0 rfl rfl rfl ?_
  refine sm_if_lt (tgt := 9) (pc' := 4) d_M_trayed_1 rfl rfl ?_ ?_
  · refine sm_iconst (pc' := 10) d_M_trayed_9 rfl ic_1 (sm_goto (tgt := 27) d_M_trayed_10 rfl ?_)
    exact sm_ireturn d_M_trayed_27 rfl rfl
  · refine sm_iload_n (i := 1) (j := 1) (pc' := 5) d_M_trayed_4 rfl rfl rfl (sm_iconst (pc' := 6) d_M_trayed_5 rfl ic_4 ?_)
    refine sm_icmp_lt (tgt := 13) (pc' := 9) d_M_trayed_6 rfl rfl ?_ ?_
    · refine sm_aload_n (i := 0) (j := 0) (pc' := 14) d_M_trayed_13 rfl rfl rfl ?_
      refine sm_getR (pc' := 17) d_M_trayed_14 rfl fl_M_17 rfl rfl (fun v1 => ?_)
      refine sm_iload_n (i := 1) (j := 1) (pc' := 18) d_M_trayed_17 rfl rfl rfl ?_
      refine sm_iald (pc' := 19) d_M_trayed_18 rfl (fun v2 => ?_)
      refine sm_if_ge (tgt := 26) (pc' := 22) d_M_trayed_19 rfl rfl ?_ ?_
      · refine sm_iconst (pc' := 27) d_M_trayed_26 rfl ic_0 ?_
        exact sm_ireturn d_M_trayed_27 rfl rfl
      · refine sm_iconst (pc' := 23) d_M_trayed_22 rfl ic_3 (sm_goto (tgt := 27) d_M_trayed_23 rfl ?_)
        exact sm_ireturn d_M_trayed_27 rfl rfl
    · refine sm_iconst (pc' := 10) d_M_trayed_9 rfl ic_1 (sm_goto (tgt := 27) d_M_trayed_10 rfl ?_)
      exact sm_ireturn d_M_trayed_27 rfl rfl
theorem d_M_placed_0 : m_D k_M_placed 0 (.aload_n 0) 1 := (by decide +kernel : decode prog_14_method_13_code 0 = .ok (.aload_n 0, 1))
theorem d_M_placed_1 : m_D k_M_placed 1 (.iload_n 1) 1 := (by decide +kernel : decode prog_14_method_13_code 1 = .ok (.iload_n 1, 1))
theorem d_M_placed_2 : m_D k_M_placed 2 (.invokevirtual 100) 3 := (by decide +kernel : decode prog_14_method_13_code 2 = .ok (.invokevirtual 100, 3))
theorem d_M_placed_5 : m_D k_M_placed 5 (.istore_n 3) 1 := (by decide +kernel : decode prog_14_method_13_code 5 = .ok (.istore_n 3, 1))
theorem d_M_placed_6 : m_D k_M_placed 6 (.iload_n 3) 1 := (by decide +kernel : decode prog_14_method_13_code 6 = .ok (.iload_n 3, 1))
theorem d_M_placed_7 : m_D k_M_placed 7 (.ifCond .le 7) 3 := (by decide +kernel : decode prog_14_method_13_code 7 = .ok (.ifCond .le 7, 3))
theorem d_M_placed_10 : m_D k_M_placed 10 (.iload_n 3) 1 := (by decide +kernel : decode prog_14_method_13_code 10 = .ok (.iload_n 3, 1))
theorem d_M_placed_11 : m_D k_M_placed 11 (.goto 22) 3 := (by decide +kernel : decode prog_14_method_13_code 11 = .ok (.goto 22, 3))
theorem d_M_placed_14 : m_D k_M_placed 14 (.iload_n 2) 1 := (by decide +kernel : decode prog_14_method_13_code 14 = .ok (.iload_n 2, 1))
theorem d_M_placed_15 : m_D k_M_placed 15 (.ifCond .lt 13) 3 := (by decide +kernel : decode prog_14_method_13_code 15 = .ok (.ifCond .lt 13, 3))
theorem d_M_placed_18 : m_D k_M_placed 18 (.iload_n 2) 1 := (by decide +kernel : decode prog_14_method_13_code 18 = .ok (.iload_n 2, 1))
theorem d_M_placed_19 : m_D k_M_placed 19 (.aload_n 0) 1 := (by decide +kernel : decode prog_14_method_13_code 19 = .ok (.aload_n 0, 1))
theorem d_M_placed_20 : m_D k_M_placed 20 (.getfield 17) 3 := (by decide +kernel : decode prog_14_method_13_code 20 = .ok (.getfield 17, 3))
theorem d_M_placed_23 : m_D k_M_placed 23 (.iload_n 1) 1 := (by decide +kernel : decode prog_14_method_13_code 23 = .ok (.iload_n 1, 1))
theorem d_M_placed_24 : m_D k_M_placed 24 (.iaload) 1 := (by decide +kernel : decode prog_14_method_13_code 24 = .ok (.iaload, 1))
theorem d_M_placed_25 : m_D k_M_placed 25 (.if_icmp .lt 7) 3 := (by decide +kernel : decode prog_14_method_13_code 25 = .ok (.if_icmp .lt 7, 3))
theorem d_M_placed_28 : m_D k_M_placed 28 (.iconst 4) 1 := (by decide +kernel : decode prog_14_method_13_code 28 = .ok (.iconst 4, 1))
theorem d_M_placed_29 : m_D k_M_placed 29 (.goto 4) 3 := (by decide +kernel : decode prog_14_method_13_code 29 = .ok (.goto 4, 3))
theorem d_M_placed_32 : m_D k_M_placed 32 (.iconst 0) 1 := (by decide +kernel : decode prog_14_method_13_code 32 = .ok (.iconst 0, 1))
theorem d_M_placed_33 : m_D k_M_placed 33 (.ireturn) 1 := (by decide +kernel : decode prog_14_method_13_code 33 = .ok (.ireturn, 1))
def fn_M_placed (x0 : Option mA) (x1 : Int32) (x2 : Int32) : mP Int32 :=
  m_th 11 x0 <|
  m_bd (fn_M_trayed x0 x1) fun v1 =>
  if v1 ≤ 0 then
    if x2 < 0 then
      m_rt 4
    else
      m_bd (m_gR 11 5 x0) fun v2 =>
      m_bd (m_aI 0 v2 x1) fun v3 =>
      if x2 < v3 then
        m_rt 0
      else
        m_rt 4
  else
    m_rt v1
set_option maxHeartbeats 4000000 in
set_option maxRecDepth 100000 in
theorem sd_M_placed (x0 : Option mA) (x1 : Int32) (x2 : Int32) : m_Sm k_M_placed 2 0 0 [.inr (.inr x0), .inl x1, .inl x2] (fn_M_placed x0 x1 x2) (fun b => some (.inl b)) := by
  refine ⟨Nat.le_of_ble_eq_true rfl, ?_⟩
  refine sm_th ?_
  refine sm_aload_n (i := 0) (j := 0) (pc' := 1) d_M_placed_0 rfl rfl rfl (sm_iload_n (i := 1) (j := 1) (pc' := 2) d_M_placed_1 rfl rfl rfl ?_)
  refine sm_callVi (ci := 11) (x := x0) (av := [.inl x1]) (st := []) (mc := 0) (ms := 0) (pc' := 5) d_M_placed_2 rfl (sd_M_trayed x0 x1) m_lv rfl cv_M_trayed w_ml_M_100 rfl rfl (by decide) (Nat.le_of_ble_eq_true rfl) rfl rfl (fun v1 => ?_)
  refine sm_istore_n (i := 3) (L' := [(3, .inl v1), (0, .inr (.inr x0)), (1, .inl x1), (2, .inl x2)]) (pc' := 6) d_M_placed_5 rfl rfl (Nat.le_of_ble_eq_true rfl) rfl (sm_iload_n (i := 3) (j := 0) (pc' := 7) d_M_placed_6 rfl rfl rfl ?_)
  refine sm_if_le (tgt := 14) (pc' := 10) d_M_placed_7 rfl rfl ?_ ?_
  · refine sm_iload_n (i := 2) (j := 3) (pc' := 15) d_M_placed_14 rfl rfl rfl ?_
    refine sm_if_lt (tgt := 28) (pc' := 18) d_M_placed_15 rfl rfl ?_ ?_
    · refine sm_iconst (pc' := 29) d_M_placed_28 rfl ic_4 (sm_goto (tgt := 33) d_M_placed_29 rfl ?_)
      exact sm_ireturn d_M_placed_33 rfl rfl
    · refine sm_iload_n (i := 2) (j := 3) (pc' := 19) d_M_placed_18 rfl rfl rfl (sm_aload_n (i := 0) (j := 1) (pc' := 20) d_M_placed_19 rfl rfl rfl ?_)
      refine sm_getR (pc' := 23) d_M_placed_20 rfl fl_M_17 rfl rfl (fun v2 => ?_)
      refine sm_iload_n (i := 1) (j := 2) (pc' := 24) d_M_placed_23 rfl rfl rfl ?_
      refine sm_iald (pc' := 25) d_M_placed_24 rfl (fun v3 => ?_)
      refine sm_icmp_lt (tgt := 32) (pc' := 28) d_M_placed_25 rfl rfl ?_ ?_
      · refine sm_iconst (pc' := 33) d_M_placed_32 rfl ic_0 ?_
        exact sm_ireturn d_M_placed_33 rfl rfl
      · refine sm_iconst (pc' := 29) d_M_placed_28 rfl ic_4 (sm_goto (tgt := 33) d_M_placed_29 rfl ?_)
        exact sm_ireturn d_M_placed_33 rfl rfl
  · refine sm_iload_n (i := 3) (j := 0) (pc' := 11) d_M_placed_10 rfl rfl rfl (sm_goto (tgt := 33) d_M_placed_11 rfl ?_)
    exact sm_ireturn d_M_placed_33 rfl rfl
theorem d_M_write_0 : m_D k_M_write 0 (.aload_n 0) 1 := (by decide +kernel : decode prog_14_method_14_code 0 = .ok (.aload_n 0, 1))
theorem d_M_write_1 : m_D k_M_write 1 (.iconst 0) 1 := (by decide +kernel : decode prog_14_method_14_code 1 = .ok (.iconst 0, 1))
theorem d_M_write_2 : m_D k_M_write 2 (.putfield 81) 3 := (by decide +kernel : decode prog_14_method_14_code 2 = .ok (.putfield 81, 3))
theorem d_M_write_5 : m_D k_M_write 5 (.aload_n 0) 1 := (by decide +kernel : decode prog_14_method_14_code 5 = .ok (.aload_n 0, 1))
theorem d_M_write_6 : m_D k_M_write 6 (.aload_n 0) 1 := (by decide +kernel : decode prog_14_method_14_code 6 = .ok (.aload_n 0, 1))
theorem d_M_write_7 : m_D k_M_write 7 (.iload_n 1) 1 := (by decide +kernel : decode prog_14_method_14_code 7 = .ok (.iload_n 1, 1))
theorem d_M_write_8 : m_D k_M_write 8 (.iload_n 2) 1 := (by decide +kernel : decode prog_14_method_14_code 8 = .ok (.iload_n 2, 1))
theorem d_M_write_9 : m_D k_M_write 9 (.invokevirtual 104) 3 := (by decide +kernel : decode prog_14_method_14_code 9 = .ok (.invokevirtual 104, 3))
theorem d_M_write_12 : m_D k_M_write 12 (.putfield 84) 3 := (by decide +kernel : decode prog_14_method_14_code 12 = .ok (.putfield 84, 3))
theorem d_M_write_15 : m_D k_M_write 15 (.aload_n 0) 1 := (by decide +kernel : decode prog_14_method_14_code 15 = .ok (.aload_n 0, 1))
theorem d_M_write_16 : m_D k_M_write 16 (.getfield 84) 3 := (by decide +kernel : decode prog_14_method_14_code 16 = .ok (.getfield 84, 3))
theorem d_M_write_19 : m_D k_M_write 19 (.ifCond .le 5) 3 := (by decide +kernel : decode prog_14_method_14_code 19 = .ok (.ifCond .le 5, 3))
theorem d_M_write_22 : m_D k_M_write 22 (.iconst 0) 1 := (by decide +kernel : decode prog_14_method_14_code 22 = .ok (.iconst 0, 1))
theorem d_M_write_23 : m_D k_M_write 23 (.ireturn) 1 := (by decide +kernel : decode prog_14_method_14_code 23 = .ok (.ireturn, 1))
theorem d_M_write_24 : m_D k_M_write 24 (.aload_n 0) 1 := (by decide +kernel : decode prog_14_method_14_code 24 = .ok (.aload_n 0, 1))
theorem d_M_write_25 : m_D k_M_write 25 (.getfield 20) 3 := (by decide +kernel : decode prog_14_method_14_code 25 = .ok (.getfield 20, 3))
theorem d_M_write_28 : m_D k_M_write 28 (.bipush 60) 2 := (by decide +kernel : decode prog_14_method_14_code 28 = .ok (.bipush 60, 2))
theorem d_M_write_30 : m_D k_M_write 30 (.iload_n 1) 1 := (by decide +kernel : decode prog_14_method_14_code 30 = .ok (.iload_n 1, 1))
theorem d_M_write_31 : m_D k_M_write 31 (.imul) 1 := (by decide +kernel : decode prog_14_method_14_code 31 = .ok (.imul, 1))
theorem d_M_write_32 : m_D k_M_write 32 (.iload_n 2) 1 := (by decide +kernel : decode prog_14_method_14_code 32 = .ok (.iload_n 2, 1))
theorem d_M_write_33 : m_D k_M_write 33 (.iadd) 1 := (by decide +kernel : decode prog_14_method_14_code 33 = .ok (.iadd, 1))
theorem d_M_write_34 : m_D k_M_write 34 (.aload_n 0) 1 := (by decide +kernel : decode prog_14_method_14_code 34 = .ok (.aload_n 0, 1))
theorem d_M_write_35 : m_D k_M_write 35 (.getfield 13) 3 := (by decide +kernel : decode prog_14_method_14_code 35 = .ok (.getfield 13, 3))
theorem d_M_write_38 : m_D k_M_write 38 (.iload_n 1) 1 := (by decide +kernel : decode prog_14_method_14_code 38 = .ok (.iload_n 1, 1))
theorem d_M_write_39 : m_D k_M_write 39 (.iaload) 1 := (by decide +kernel : decode prog_14_method_14_code 39 = .ok (.iaload, 1))
theorem d_M_write_40 : m_D k_M_write 40 (.lload_n 3) 1 := (by decide +kernel : decode prog_14_method_14_code 40 = .ok (.lload_n 3, 1))
theorem d_M_write_41 : m_D k_M_write 41 (.invokestatic 108) 3 := (by decide +kernel : decode prog_14_method_14_code 41 = .ok (.invokestatic 108, 3))
theorem d_M_write_44 : m_D k_M_write 44 (.lastore) 1 := (by decide +kernel : decode prog_14_method_14_code 44 = .ok (.lastore, 1))
theorem d_M_write_45 : m_D k_M_write 45 (.iconst 1) 1 := (by decide +kernel : decode prog_14_method_14_code 45 = .ok (.iconst 1, 1))
theorem d_M_write_46 : m_D k_M_write 46 (.ireturn) 1 := (by decide +kernel : decode prog_14_method_14_code 46 = .ok (.ireturn, 1))
def fn_M_write (x0 : Option mA) (x1 : Int32) (x2 : Int32) (x3 : Int64) : mP Int32 :=
  m_th 11 x0 <|
  m_bd (m_pI 11 1 x0 0) fun _ =>
  m_bd (fn_M_placed x0 x1 x2) fun v1 =>
  m_bd (m_pI 11 0 x0 v1) fun _ =>
  m_bd (m_gI 11 0 x0) fun v2 =>
  if v2 ≤ 0 then
    m_bd (m_gR 11 6 x0) fun v3 =>
    m_bd (m_gR 11 4 x0) fun v4 =>
    m_bd (m_aI 0 v4 x1) fun v5 =>
    m_bd (fn_M_cut v5 x3) fun v6 =>
    m_bd (m_tJ v3 ((60 * x1) + x2) v6) fun _ =>
    m_rt 1
  else
    m_rt 0
set_option maxHeartbeats 4000000 in
set_option maxRecDepth 100000 in
theorem sd_M_write (x0 : Option mA) (x1 : Int32) (x2 : Int32) (x3 : Int64) : m_Sm k_M_write 3 0 0 [.inr (.inr x0), .inl x1, .inl x2, .inr (.inl x3)] (fn_M_write x0 x1 x2 x3) (fun b => some (.inl b)) := by
  refine ⟨Nat.le_of_ble_eq_true rfl, ?_⟩
  refine sm_th ?_
  refine sm_aload_n (i := 0) (j := 0) (pc' := 1) d_M_write_0 rfl rfl rfl (sm_iconst (pc' := 2) d_M_write_1 rfl ic_0 (sm_putI (pc' := 5) d_M_write_2 rfl fl_M_81 (Or.inl rfl) rfl (sm_aload_n (i := 0) (j := 0) (pc' := 6) d_M_write_5 rfl rfl rfl (sm_aload_n (i := 0) (j := 0) (pc' := 7) d_M_write_6 rfl rfl rfl (sm_iload_n (i := 1) (j := 1) (pc' := 8) d_M_write_7 rfl rfl rfl (sm_iload_n (i := 2) (j := 2) (pc' := 9) d_M_write_8 rfl rfl rfl ?_))))))
  refine sm_callVi (ci := 11) (x := x0) (av := [.inl x1, .inl x2]) (st := [.inr (.inr x0)]) (mc := 0) (ms := 0) (pc' := 12) d_M_write_9 rfl (sd_M_placed x0 x1 x2) m_lv rfl cv_M_placed w_ml_M_104 rfl rfl (by decide) (Nat.le_of_ble_eq_true rfl) rfl rfl (fun v1 => ?_)
  refine sm_putI (pc' := 15) d_M_write_12 rfl fl_M_84 (Or.inl rfl) rfl (sm_aload_n (i := 0) (j := 0) (pc' := 16) d_M_write_15 rfl rfl rfl ?_)
  refine sm_getI (pc' := 19) d_M_write_16 rfl fl_M_84 rfl ⟨by decide, by decide⟩ (fun v2 => ?_)
  refine sm_if_le (tgt := 24) (pc' := 22) d_M_write_19 rfl rfl ?_ ?_
  · refine sm_aload_n (i := 0) (j := 0) (pc' := 25) d_M_write_24 rfl rfl rfl ?_
    refine sm_getR (pc' := 28) d_M_write_25 rfl fl_M_20 rfl rfl (fun v3 => ?_)
    refine sm_bipush (pc' := 30) d_M_write_28 rfl ib_60 (sm_iload_n (i := 1) (j := 1) (pc' := 31) d_M_write_30 rfl rfl rfl (sm_imul (pc' := 32) d_M_write_31 rfl (sm_iload_n (i := 2) (j := 2) (pc' := 33) d_M_write_32 rfl rfl rfl (sm_iadd (pc' := 34) d_M_write_33 rfl (sm_aload_n (i := 0) (j := 0) (pc' := 35) d_M_write_34 rfl rfl rfl ?_)))))
    refine sm_getR (pc' := 38) d_M_write_35 rfl fl_M_13 rfl rfl (fun v4 => ?_)
    refine sm_iload_n (i := 1) (j := 1) (pc' := 39) d_M_write_38 rfl rfl rfl ?_
    refine sm_iald (pc' := 40) d_M_write_39 rfl (fun v5 => ?_)
    refine sm_lload_n (i := 3) (j := 3) (pc' := 41) d_M_write_40 rfl rfl rfl ?_
    refine sm_callSj (av := [.inl v5, .inr (.inl x3)]) (st := [.inl ((60 * x1) + x2), .inr (.inr v3)]) (mc := 0) (ms := 0) (pc' := 44) d_M_write_41 rfl (sd_M_cut v5 x3) cs_M_cut w_ml_M_108 rfl rfl (by decide) (Nat.le_of_ble_eq_true rfl) rfl rfl (fun v6 => ?_)
    refine sm_last (pc' := 45) d_M_write_44 rfl (sm_iconst (pc' := 46) d_M_write_45 rfl ic_1 ?_)
    exact sm_zreturn d_M_write_46 rfl (by decide) rfl
  · refine sm_iconst (pc' := 23) d_M_write_22 rfl ic_0 ?_
    exact sm_zreturn d_M_write_23 rfl (by decide) rfl
theorem d_M_read_0 : m_D k_M_read 0 (.aload_n 0) 1 := (by decide +kernel : decode prog_14_method_15_code 0 = .ok (.aload_n 0, 1))
theorem d_M_read_1 : m_D k_M_read 1 (.iconst 0) 1 := (by decide +kernel : decode prog_14_method_15_code 1 = .ok (.iconst 0, 1))
theorem d_M_read_2 : m_D k_M_read 2 (.putfield 81) 3 := (by decide +kernel : decode prog_14_method_15_code 2 = .ok (.putfield 81, 3))
theorem d_M_read_5 : m_D k_M_read 5 (.aload_n 0) 1 := (by decide +kernel : decode prog_14_method_15_code 5 = .ok (.aload_n 0, 1))
theorem d_M_read_6 : m_D k_M_read 6 (.aload_n 0) 1 := (by decide +kernel : decode prog_14_method_15_code 6 = .ok (.aload_n 0, 1))
theorem d_M_read_7 : m_D k_M_read 7 (.iload_n 1) 1 := (by decide +kernel : decode prog_14_method_15_code 7 = .ok (.iload_n 1, 1))
theorem d_M_read_8 : m_D k_M_read 8 (.iload_n 2) 1 := (by decide +kernel : decode prog_14_method_15_code 8 = .ok (.iload_n 2, 1))
theorem d_M_read_9 : m_D k_M_read 9 (.invokevirtual 104) 3 := (by decide +kernel : decode prog_14_method_15_code 9 = .ok (.invokevirtual 104, 3))
theorem d_M_read_12 : m_D k_M_read 12 (.putfield 84) 3 := (by decide +kernel : decode prog_14_method_15_code 12 = .ok (.putfield 84, 3))
theorem d_M_read_15 : m_D k_M_read 15 (.aload_n 0) 1 := (by decide +kernel : decode prog_14_method_15_code 15 = .ok (.aload_n 0, 1))
theorem d_M_read_16 : m_D k_M_read 16 (.getfield 84) 3 := (by decide +kernel : decode prog_14_method_15_code 16 = .ok (.getfield 84, 3))
theorem d_M_read_19 : m_D k_M_read 19 (.ifCond .le 9) 3 := (by decide +kernel : decode prog_14_method_15_code 19 = .ok (.ifCond .le 9, 3))
theorem d_M_read_22 : m_D k_M_read 22 (.ldc2_w 112) 3 := (by decide +kernel : decode prog_14_method_15_code 22 = .ok (.ldc2_w 112, 3))
theorem d_M_read_25 : m_D k_M_read 25 (.goto 14) 3 := (by decide +kernel : decode prog_14_method_15_code 25 = .ok (.goto 14, 3))
theorem d_M_read_28 : m_D k_M_read 28 (.aload_n 0) 1 := (by decide +kernel : decode prog_14_method_15_code 28 = .ok (.aload_n 0, 1))
theorem d_M_read_29 : m_D k_M_read 29 (.getfield 20) 3 := (by decide +kernel : decode prog_14_method_15_code 29 = .ok (.getfield 20, 3))
theorem d_M_read_32 : m_D k_M_read 32 (.bipush 60) 2 := (by decide +kernel : decode prog_14_method_15_code 32 = .ok (.bipush 60, 2))
theorem d_M_read_34 : m_D k_M_read 34 (.iload_n 1) 1 := (by decide +kernel : decode prog_14_method_15_code 34 = .ok (.iload_n 1, 1))
theorem d_M_read_35 : m_D k_M_read 35 (.imul) 1 := (by decide +kernel : decode prog_14_method_15_code 35 = .ok (.imul, 1))
theorem d_M_read_36 : m_D k_M_read 36 (.iload_n 2) 1 := (by decide +kernel : decode prog_14_method_15_code 36 = .ok (.iload_n 2, 1))
theorem d_M_read_37 : m_D k_M_read 37 (.iadd) 1 := (by decide +kernel : decode prog_14_method_15_code 37 = .ok (.iadd, 1))
theorem d_M_read_38 : m_D k_M_read 38 (.laload) 1 := (by decide +kernel : decode prog_14_method_15_code 38 = .ok (.laload, 1))
theorem d_M_read_39 : m_D k_M_read 39 (.lreturn) 1 := (by decide +kernel : decode prog_14_method_15_code 39 = .ok (.lreturn, 1))
def fn_M_read (x0 : Option mA) (x1 : Int32) (x2 : Int32) : mP Int64 :=
  m_th 11 x0 <|
  m_bd (m_pI 11 1 x0 0) fun _ =>
  m_bd (fn_M_placed x0 x1 x2) fun v1 =>
  m_bd (m_pI 11 0 x0 v1) fun _ =>
  m_bd (m_gI 11 0 x0) fun v2 =>
  if v2 ≤ 0 then
    m_bd (m_gR 11 6 x0) fun v3 =>
    m_bd (m_aJ v3 ((60 * x1) + x2)) fun v4 =>
    m_rt v4
  else
    m_rt (-1)
set_option maxHeartbeats 4000000 in
set_option maxRecDepth 100000 in
theorem sd_M_read (x0 : Option mA) (x1 : Int32) (x2 : Int32) : m_Sm k_M_read 3 0 0 [.inr (.inr x0), .inl x1, .inl x2] (fn_M_read x0 x1 x2) (fun b => some (.inr (.inl b))) := by
  refine ⟨Nat.le_of_ble_eq_true rfl, ?_⟩
  refine sm_th ?_
  refine sm_aload_n (i := 0) (j := 0) (pc' := 1) d_M_read_0 rfl rfl rfl (sm_iconst (pc' := 2) d_M_read_1 rfl ic_0 (sm_putI (pc' := 5) d_M_read_2 rfl fl_M_81 (Or.inl rfl) rfl (sm_aload_n (i := 0) (j := 0) (pc' := 6) d_M_read_5 rfl rfl rfl (sm_aload_n (i := 0) (j := 0) (pc' := 7) d_M_read_6 rfl rfl rfl (sm_iload_n (i := 1) (j := 1) (pc' := 8) d_M_read_7 rfl rfl rfl (sm_iload_n (i := 2) (j := 2) (pc' := 9) d_M_read_8 rfl rfl rfl ?_))))))
  refine sm_callVi (ci := 11) (x := x0) (av := [.inl x1, .inl x2]) (st := [.inr (.inr x0)]) (mc := 0) (ms := 0) (pc' := 12) d_M_read_9 rfl (sd_M_placed x0 x1 x2) m_lv rfl cv_M_placed w_ml_M_104 rfl rfl (by decide) (Nat.le_of_ble_eq_true rfl) rfl rfl (fun v1 => ?_)
  refine sm_putI (pc' := 15) d_M_read_12 rfl fl_M_84 (Or.inl rfl) rfl (sm_aload_n (i := 0) (j := 0) (pc' := 16) d_M_read_15 rfl rfl rfl ?_)
  refine sm_getI (pc' := 19) d_M_read_16 rfl fl_M_84 rfl ⟨by decide, by decide⟩ (fun v2 => ?_)
  refine sm_if_le (tgt := 28) (pc' := 22) d_M_read_19 rfl rfl ?_ ?_
  · refine sm_aload_n (i := 0) (j := 0) (pc' := 29) d_M_read_28 rfl rfl rfl ?_
    refine sm_getR (pc' := 32) d_M_read_29 rfl fl_M_20 rfl rfl (fun v3 => ?_)
    refine sm_bipush (pc' := 34) d_M_read_32 rfl ib_60 (sm_iload_n (i := 1) (j := 1) (pc' := 35) d_M_read_34 rfl rfl rfl (sm_imul (pc' := 36) d_M_read_35 rfl (sm_iload_n (i := 2) (j := 2) (pc' := 37) d_M_read_36 rfl rfl rfl (sm_iadd (pc' := 38) d_M_read_37 rfl ?_))))
    refine sm_lald (pc' := 39) d_M_read_38 rfl (fun v4 => ?_)
    exact sm_lreturn d_M_read_39 rfl rfl
  · refine sm_ldc2 (v := (-1)) (pc' := 25) d_M_read_22 rfl w_cl_M_112 (sm_goto (tgt := 39) d_M_read_25 rfl ?_)
    exact sm_lreturn d_M_read_39 rfl rfl
theorem d_M_pour_0 : m_D k_M_pour 0 (.aload_n 0) 1 := (by decide +kernel : decode prog_14_method_16_code 0 = .ok (.aload_n 0, 1))
theorem d_M_pour_1 : m_D k_M_pour 1 (.iconst 0) 1 := (by decide +kernel : decode prog_14_method_16_code 1 = .ok (.iconst 0, 1))
theorem d_M_pour_2 : m_D k_M_pour 2 (.putfield 81) 3 := (by decide +kernel : decode prog_14_method_16_code 2 = .ok (.putfield 81, 3))
theorem d_M_pour_5 : m_D k_M_pour 5 (.aload_n 0) 1 := (by decide +kernel : decode prog_14_method_16_code 5 = .ok (.aload_n 0, 1))
theorem d_M_pour_6 : m_D k_M_pour 6 (.iconst 0) 1 := (by decide +kernel : decode prog_14_method_16_code 6 = .ok (.iconst 0, 1))
theorem d_M_pour_7 : m_D k_M_pour 7 (.putfield 84) 3 := (by decide +kernel : decode prog_14_method_16_code 7 = .ok (.putfield 84, 3))
theorem d_M_pour_10 : m_D k_M_pour 10 (.iload_n 1) 1 := (by decide +kernel : decode prog_14_method_16_code 10 = .ok (.iload_n 1, 1))
theorem d_M_pour_11 : m_D k_M_pour 11 (.ifCond .lt 17) 3 := (by decide +kernel : decode prog_14_method_16_code 11 = .ok (.ifCond .lt 17, 3))
theorem d_M_pour_14 : m_D k_M_pour 14 (.iload_n 1) 1 := (by decide +kernel : decode prog_14_method_16_code 14 = .ok (.iload_n 1, 1))
theorem d_M_pour_15 : m_D k_M_pour 15 (.iconst 4) 1 := (by decide +kernel : decode prog_14_method_16_code 15 = .ok (.iconst 4, 1))
theorem d_M_pour_16 : m_D k_M_pour 16 (.if_icmp .ge 12) 3 := (by decide +kernel : decode prog_14_method_16_code 16 = .ok (.if_icmp .ge 12, 3))
theorem d_M_pour_19 : m_D k_M_pour 19 (.iload_n 3) 1 := (by decide +kernel : decode prog_14_method_16_code 19 = .ok (.iload_n 3, 1))
theorem d_M_pour_20 : m_D k_M_pour 20 (.ifCond .lt 8) 3 := (by decide +kernel : decode prog_14_method_16_code 20 = .ok (.ifCond .lt 8, 3))
theorem d_M_pour_23 : m_D k_M_pour 23 (.iload_n 3) 1 := (by decide +kernel : decode prog_14_method_16_code 23 = .ok (.iload_n 3, 1))
theorem d_M_pour_24 : m_D k_M_pour 24 (.iconst 4) 1 := (by decide +kernel : decode prog_14_method_16_code 24 = .ok (.iconst 4, 1))
theorem d_M_pour_25 : m_D k_M_pour 25 (.if_icmp .lt 9) 3 := (by decide +kernel : decode prog_14_method_16_code 25 = .ok (.if_icmp .lt 9, 3))
theorem d_M_pour_28 : m_D k_M_pour 28 (.aload_n 0) 1 := (by decide +kernel : decode prog_14_method_16_code 28 = .ok (.aload_n 0, 1))
theorem d_M_pour_29 : m_D k_M_pour 29 (.iconst 1) 1 := (by decide +kernel : decode prog_14_method_16_code 29 = .ok (.iconst 1, 1))
theorem d_M_pour_30 : m_D k_M_pour 30 (.invokevirtual 96) 3 := (by decide +kernel : decode prog_14_method_16_code 30 = .ok (.invokevirtual 96, 3))
theorem d_M_pour_33 : m_D k_M_pour 33 (.ireturn) 1 := (by decide +kernel : decode prog_14_method_16_code 33 = .ok (.ireturn, 1))
theorem d_M_pour_34 : m_D k_M_pour 34 (.aload_n 0) 1 := (by decide +kernel : decode prog_14_method_16_code 34 = .ok (.aload_n 0, 1))
theorem d_M_pour_35 : m_D k_M_pour 35 (.getfield 17) 3 := (by decide +kernel : decode prog_14_method_16_code 35 = .ok (.getfield 17, 3))
theorem d_M_pour_38 : m_D k_M_pour 38 (.iload_n 1) 1 := (by decide +kernel : decode prog_14_method_16_code 38 = .ok (.iload_n 1, 1))
theorem d_M_pour_39 : m_D k_M_pour 39 (.iaload) 1 := (by decide +kernel : decode prog_14_method_16_code 39 = .ok (.iaload, 1))
theorem d_M_pour_40 : m_D k_M_pour 40 (.ifCond .lt 12) 3 := (by decide +kernel : decode prog_14_method_16_code 40 = .ok (.ifCond .lt 12, 3))
theorem d_M_pour_43 : m_D k_M_pour 43 (.aload_n 0) 1 := (by decide +kernel : decode prog_14_method_16_code 43 = .ok (.aload_n 0, 1))
theorem d_M_pour_44 : m_D k_M_pour 44 (.getfield 17) 3 := (by decide +kernel : decode prog_14_method_16_code 44 = .ok (.getfield 17, 3))
theorem d_M_pour_47 : m_D k_M_pour 47 (.iload_n 3) 1 := (by decide +kernel : decode prog_14_method_16_code 47 = .ok (.iload_n 3, 1))
theorem d_M_pour_48 : m_D k_M_pour 48 (.iaload) 1 := (by decide +kernel : decode prog_14_method_16_code 48 = .ok (.iaload, 1))
theorem d_M_pour_49 : m_D k_M_pour 49 (.ifCond .ge 9) 3 := (by decide +kernel : decode prog_14_method_16_code 49 = .ok (.ifCond .ge 9, 3))
theorem d_M_pour_52 : m_D k_M_pour 52 (.aload_n 0) 1 := (by decide +kernel : decode prog_14_method_16_code 52 = .ok (.aload_n 0, 1))
theorem d_M_pour_53 : m_D k_M_pour 53 (.iconst 3) 1 := (by decide +kernel : decode prog_14_method_16_code 53 = .ok (.iconst 3, 1))
theorem d_M_pour_54 : m_D k_M_pour 54 (.invokevirtual 96) 3 := (by decide +kernel : decode prog_14_method_16_code 54 = .ok (.invokevirtual 96, 3))
theorem d_M_pour_57 : m_D k_M_pour 57 (.ireturn) 1 := (by decide +kernel : decode prog_14_method_16_code 57 = .ok (.ireturn, 1))
theorem d_M_pour_58 : m_D k_M_pour 58 (.aload_n 0) 1 := (by decide +kernel : decode prog_14_method_16_code 58 = .ok (.aload_n 0, 1))
theorem d_M_pour_59 : m_D k_M_pour 59 (.getfield 13) 3 := (by decide +kernel : decode prog_14_method_16_code 59 = .ok (.getfield 13, 3))
theorem d_M_pour_62 : m_D k_M_pour 62 (.iload_n 1) 1 := (by decide +kernel : decode prog_14_method_16_code 62 = .ok (.iload_n 1, 1))
theorem d_M_pour_63 : m_D k_M_pour 63 (.iaload) 1 := (by decide +kernel : decode prog_14_method_16_code 63 = .ok (.iaload, 1))
theorem d_M_pour_64 : m_D k_M_pour 64 (.aload_n 0) 1 := (by decide +kernel : decode prog_14_method_16_code 64 = .ok (.aload_n 0, 1))
theorem d_M_pour_65 : m_D k_M_pour 65 (.getfield 13) 3 := (by decide +kernel : decode prog_14_method_16_code 65 = .ok (.getfield 13, 3))
theorem d_M_pour_68 : m_D k_M_pour 68 (.iload_n 3) 1 := (by decide +kernel : decode prog_14_method_16_code 68 = .ok (.iload_n 3, 1))
theorem d_M_pour_69 : m_D k_M_pour 69 (.iaload) 1 := (by decide +kernel : decode prog_14_method_16_code 69 = .ok (.iaload, 1))
theorem d_M_pour_70 : m_D k_M_pour 70 (.if_icmp .eq 10) 3 := (by decide +kernel : decode prog_14_method_16_code 70 = .ok (.if_icmp .eq 10, 3))
theorem d_M_pour_73 : m_D k_M_pour 73 (.aload_n 0) 1 := (by decide +kernel : decode prog_14_method_16_code 73 = .ok (.aload_n 0, 1))
theorem d_M_pour_74 : m_D k_M_pour 74 (.bipush 11) 2 := (by decide +kernel : decode prog_14_method_16_code 74 = .ok (.bipush 11, 2))
theorem d_M_pour_76 : m_D k_M_pour 76 (.invokevirtual 96) 3 := (by decide +kernel : decode prog_14_method_16_code 76 = .ok (.invokevirtual 96, 3))
theorem d_M_pour_79 : m_D k_M_pour 79 (.ireturn) 1 := (by decide +kernel : decode prog_14_method_16_code 79 = .ok (.ireturn, 1))
theorem d_M_pour_80 : m_D k_M_pour 80 (.iload 5) 2 := (by decide +kernel : decode prog_14_method_16_code 80 = .ok (.iload 5, 2))
theorem d_M_pour_82 : m_D k_M_pour 82 (.ifCond .ge 10) 3 := (by decide +kernel : decode prog_14_method_16_code 82 = .ok (.ifCond .ge 10, 3))
theorem d_M_pour_85 : m_D k_M_pour 85 (.aload_n 0) 1 := (by decide +kernel : decode prog_14_method_16_code 85 = .ok (.aload_n 0, 1))
theorem d_M_pour_86 : m_D k_M_pour 86 (.bipush 6) 2 := (by decide +kernel : decode prog_14_method_16_code 86 = .ok (.bipush 6, 2))
theorem d_M_pour_88 : m_D k_M_pour 88 (.invokevirtual 96) 3 := (by decide +kernel : decode prog_14_method_16_code 88 = .ok (.invokevirtual 96, 3))
theorem d_M_pour_91 : m_D k_M_pour 91 (.ireturn) 1 := (by decide +kernel : decode prog_14_method_16_code 91 = .ok (.ireturn, 1))
theorem d_M_pour_92 : m_D k_M_pour 92 (.iload_n 2) 1 := (by decide +kernel : decode prog_14_method_16_code 92 = .ok (.iload_n 2, 1))
theorem d_M_pour_93 : m_D k_M_pour 93 (.ifCond .lt 43) 3 := (by decide +kernel : decode prog_14_method_16_code 93 = .ok (.ifCond .lt 43, 3))
theorem d_M_pour_96 : m_D k_M_pour 96 (.iload 4) 2 := (by decide +kernel : decode prog_14_method_16_code 96 = .ok (.iload 4, 2))
theorem d_M_pour_98 : m_D k_M_pour 98 (.ifCond .lt 38) 3 := (by decide +kernel : decode prog_14_method_16_code 98 = .ok (.ifCond .lt 38, 3))
theorem d_M_pour_101 : m_D k_M_pour 101 (.iload_n 2) 1 := (by decide +kernel : decode prog_14_method_16_code 101 = .ok (.iload_n 2, 1))
theorem d_M_pour_102 : m_D k_M_pour 102 (.i2l) 1 := (by decide +kernel : decode prog_14_method_16_code 102 = .ok (.i2l, 1))
theorem d_M_pour_103 : m_D k_M_pour 103 (.iload 5) 2 := (by decide +kernel : decode prog_14_method_16_code 103 = .ok (.iload 5, 2))
theorem d_M_pour_105 : m_D k_M_pour 105 (.i2l) 1 := (by decide +kernel : decode prog_14_method_16_code 105 = .ok (.i2l, 1))
theorem d_M_pour_106 : m_D k_M_pour 106 (.ladd) 1 := (by decide +kernel : decode prog_14_method_16_code 106 = .ok (.ladd, 1))
theorem d_M_pour_107 : m_D k_M_pour 107 (.aload_n 0) 1 := (by decide +kernel : decode prog_14_method_16_code 107 = .ok (.aload_n 0, 1))
theorem d_M_pour_108 : m_D k_M_pour 108 (.getfield 17) 3 := (by decide +kernel : decode prog_14_method_16_code 108 = .ok (.getfield 17, 3))
theorem d_M_pour_111 : m_D k_M_pour 111 (.iload_n 1) 1 := (by decide +kernel : decode prog_14_method_16_code 111 = .ok (.iload_n 1, 1))
theorem d_M_pour_112 : m_D k_M_pour 112 (.iaload) 1 := (by decide +kernel : decode prog_14_method_16_code 112 = .ok (.iaload, 1))
theorem d_M_pour_113 : m_D k_M_pour 113 (.i2l) 1 := (by decide +kernel : decode prog_14_method_16_code 113 = .ok (.i2l, 1))
theorem d_M_pour_114 : m_D k_M_pour 114 (.lcmp) 1 := (by decide +kernel : decode prog_14_method_16_code 114 = .ok (.lcmp, 1))
theorem d_M_pour_115 : m_D k_M_pour 115 (.ifCond .gt 21) 3 := (by decide +kernel : decode prog_14_method_16_code 115 = .ok (.ifCond .gt 21, 3))
theorem d_M_pour_118 : m_D k_M_pour 118 (.iload 4) 2 := (by decide +kernel : decode prog_14_method_16_code 118 = .ok (.iload 4, 2))
theorem d_M_pour_120 : m_D k_M_pour 120 (.i2l) 1 := (by decide +kernel : decode prog_14_method_16_code 120 = .ok (.i2l, 1))
theorem d_M_pour_121 : m_D k_M_pour 121 (.iload 5) 2 := (by decide +kernel : decode prog_14_method_16_code 121 = .ok (.iload 5, 2))
theorem d_M_pour_123 : m_D k_M_pour 123 (.i2l) 1 := (by decide +kernel : decode prog_14_method_16_code 123 = .ok (.i2l, 1))
theorem d_M_pour_124 : m_D k_M_pour 124 (.ladd) 1 := (by decide +kernel : decode prog_14_method_16_code 124 = .ok (.ladd, 1))
theorem d_M_pour_125 : m_D k_M_pour 125 (.aload_n 0) 1 := (by decide +kernel : decode prog_14_method_16_code 125 = .ok (.aload_n 0, 1))
theorem d_M_pour_126 : m_D k_M_pour 126 (.getfield 17) 3 := (by decide +kernel : decode prog_14_method_16_code 126 = .ok (.getfield 17, 3))
theorem d_M_pour_129 : m_D k_M_pour 129 (.iload_n 3) 1 := (by decide +kernel : decode prog_14_method_16_code 129 = .ok (.iload_n 3, 1))
theorem d_M_pour_130 : m_D k_M_pour 130 (.iaload) 1 := (by decide +kernel : decode prog_14_method_16_code 130 = .ok (.iaload, 1))
theorem d_M_pour_131 : m_D k_M_pour 131 (.i2l) 1 := (by decide +kernel : decode prog_14_method_16_code 131 = .ok (.i2l, 1))
theorem d_M_pour_132 : m_D k_M_pour 132 (.lcmp) 1 := (by decide +kernel : decode prog_14_method_16_code 132 = .ok (.lcmp, 1))
theorem d_M_pour_133 : m_D k_M_pour 133 (.ifCond .le 9) 3 := (by decide +kernel : decode prog_14_method_16_code 133 = .ok (.ifCond .le 9, 3))
theorem d_M_pour_136 : m_D k_M_pour 136 (.aload_n 0) 1 := (by decide +kernel : decode prog_14_method_16_code 136 = .ok (.aload_n 0, 1))
theorem d_M_pour_137 : m_D k_M_pour 137 (.iconst 4) 1 := (by decide +kernel : decode prog_14_method_16_code 137 = .ok (.iconst 4, 1))
theorem d_M_pour_138 : m_D k_M_pour 138 (.invokevirtual 96) 3 := (by decide +kernel : decode prog_14_method_16_code 138 = .ok (.invokevirtual 96, 3))
theorem d_M_pour_141 : m_D k_M_pour 141 (.ireturn) 1 := (by decide +kernel : decode prog_14_method_16_code 141 = .ok (.ireturn, 1))
theorem d_M_pour_142 : m_D k_M_pour 142 (.iload_n 2) 1 := (by decide +kernel : decode prog_14_method_16_code 142 = .ok (.iload_n 2, 1))
theorem d_M_pour_143 : m_D k_M_pour 143 (.iload 4) 2 := (by decide +kernel : decode prog_14_method_16_code 143 = .ok (.iload 4, 2))
theorem d_M_pour_145 : m_D k_M_pour 145 (.if_icmp .ge 7) 3 := (by decide +kernel : decode prog_14_method_16_code 145 = .ok (.if_icmp .ge 7, 3))
theorem d_M_pour_148 : m_D k_M_pour 148 (.iconst 1) 1 := (by decide +kernel : decode prog_14_method_16_code 148 = .ok (.iconst 1, 1))
theorem d_M_pour_149 : m_D k_M_pour 149 (.goto 4) 3 := (by decide +kernel : decode prog_14_method_16_code 149 = .ok (.goto 4, 3))
theorem d_M_pour_152 : m_D k_M_pour 152 (.iconst 0) 1 := (by decide +kernel : decode prog_14_method_16_code 152 = .ok (.iconst 0, 1))
theorem d_M_pour_153 : m_D k_M_pour 153 (.istore 6) 2 := (by decide +kernel : decode prog_14_method_16_code 153 = .ok (.istore 6, 2))
theorem d_M_pour_155 : m_D k_M_pour 155 (.iconst 0) 1 := (by decide +kernel : decode prog_14_method_16_code 155 = .ok (.iconst 0, 1))
theorem d_M_pour_156 : m_D k_M_pour 156 (.istore 7) 2 := (by decide +kernel : decode prog_14_method_16_code 156 = .ok (.istore 7, 2))
theorem d_M_pour_158 : m_D k_M_pour 158 (.iload 7) 2 := (by decide +kernel : decode prog_14_method_16_code 158 = .ok (.iload 7, 2))
theorem d_M_pour_160 : m_D k_M_pour 160 (.iload 5) 2 := (by decide +kernel : decode prog_14_method_16_code 160 = .ok (.iload 5, 2))
theorem d_M_pour_162 : m_D k_M_pour 162 (.if_icmp .ge 57) 3 := (by decide +kernel : decode prog_14_method_16_code 162 = .ok (.if_icmp .ge 57, 3))
theorem d_M_pour_165 : m_D k_M_pour 165 (.iload 6) 2 := (by decide +kernel : decode prog_14_method_16_code 165 = .ok (.iload 6, 2))
theorem d_M_pour_167 : m_D k_M_pour 167 (.ifCond .eq 13) 3 := (by decide +kernel : decode prog_14_method_16_code 167 = .ok (.ifCond .eq 13, 3))
theorem d_M_pour_170 : m_D k_M_pour 170 (.iload 5) 2 := (by decide +kernel : decode prog_14_method_16_code 170 = .ok (.iload 5, 2))
theorem d_M_pour_172 : m_D k_M_pour 172 (.iconst 1) 1 := (by decide +kernel : decode prog_14_method_16_code 172 = .ok (.iconst 1, 1))
theorem d_M_pour_173 : m_D k_M_pour 173 (.isub) 1 := (by decide +kernel : decode prog_14_method_16_code 173 = .ok (.isub, 1))
theorem d_M_pour_174 : m_D k_M_pour 174 (.iload 7) 2 := (by decide +kernel : decode prog_14_method_16_code 174 = .ok (.iload 7, 2))
theorem d_M_pour_176 : m_D k_M_pour 176 (.isub) 1 := (by decide +kernel : decode prog_14_method_16_code 176 = .ok (.isub, 1))
theorem d_M_pour_177 : m_D k_M_pour 177 (.goto 5) 3 := (by decide +kernel : decode prog_14_method_16_code 177 = .ok (.goto 5, 3))
theorem d_M_pour_180 : m_D k_M_pour 180 (.iload 7) 2 := (by decide +kernel : decode prog_14_method_16_code 180 = .ok (.iload 7, 2))
theorem d_M_pour_182 : m_D k_M_pour 182 (.istore 8) 2 := (by decide +kernel : decode prog_14_method_16_code 182 = .ok (.istore 8, 2))
theorem d_M_pour_184 : m_D k_M_pour 184 (.aload_n 0) 1 := (by decide +kernel : decode prog_14_method_16_code 184 = .ok (.aload_n 0, 1))
theorem d_M_pour_185 : m_D k_M_pour 185 (.getfield 20) 3 := (by decide +kernel : decode prog_14_method_16_code 185 = .ok (.getfield 20, 3))
theorem d_M_pour_188 : m_D k_M_pour 188 (.bipush 60) 2 := (by decide +kernel : decode prog_14_method_16_code 188 = .ok (.bipush 60, 2))
theorem d_M_pour_190 : m_D k_M_pour 190 (.iload_n 3) 1 := (by decide +kernel : decode prog_14_method_16_code 190 = .ok (.iload_n 3, 1))
theorem d_M_pour_191 : m_D k_M_pour 191 (.imul) 1 := (by decide +kernel : decode prog_14_method_16_code 191 = .ok (.imul, 1))
theorem d_M_pour_192 : m_D k_M_pour 192 (.iload 4) 2 := (by decide +kernel : decode prog_14_method_16_code 192 = .ok (.iload 4, 2))
theorem d_M_pour_194 : m_D k_M_pour 194 (.iadd) 1 := (by decide +kernel : decode prog_14_method_16_code 194 = .ok (.iadd, 1))
theorem d_M_pour_195 : m_D k_M_pour 195 (.iload 8) 2 := (by decide +kernel : decode prog_14_method_16_code 195 = .ok (.iload 8, 2))
theorem d_M_pour_197 : m_D k_M_pour 197 (.iadd) 1 := (by decide +kernel : decode prog_14_method_16_code 197 = .ok (.iadd, 1))
theorem d_M_pour_198 : m_D k_M_pour 198 (.aload_n 0) 1 := (by decide +kernel : decode prog_14_method_16_code 198 = .ok (.aload_n 0, 1))
theorem d_M_pour_199 : m_D k_M_pour 199 (.getfield 20) 3 := (by decide +kernel : decode prog_14_method_16_code 199 = .ok (.getfield 20, 3))
theorem d_M_pour_202 : m_D k_M_pour 202 (.bipush 60) 2 := (by decide +kernel : decode prog_14_method_16_code 202 = .ok (.bipush 60, 2))
theorem d_M_pour_204 : m_D k_M_pour 204 (.iload_n 1) 1 := (by decide +kernel : decode prog_14_method_16_code 204 = .ok (.iload_n 1, 1))
theorem d_M_pour_205 : m_D k_M_pour 205 (.imul) 1 := (by decide +kernel : decode prog_14_method_16_code 205 = .ok (.imul, 1))
theorem d_M_pour_206 : m_D k_M_pour 206 (.iload_n 2) 1 := (by decide +kernel : decode prog_14_method_16_code 206 = .ok (.iload_n 2, 1))
theorem d_M_pour_207 : m_D k_M_pour 207 (.iadd) 1 := (by decide +kernel : decode prog_14_method_16_code 207 = .ok (.iadd, 1))
theorem d_M_pour_208 : m_D k_M_pour 208 (.iload 8) 2 := (by decide +kernel : decode prog_14_method_16_code 208 = .ok (.iload 8, 2))
theorem d_M_pour_210 : m_D k_M_pour 210 (.iadd) 1 := (by decide +kernel : decode prog_14_method_16_code 210 = .ok (.iadd, 1))
theorem d_M_pour_211 : m_D k_M_pour 211 (.laload) 1 := (by decide +kernel : decode prog_14_method_16_code 211 = .ok (.laload, 1))
theorem d_M_pour_212 : m_D k_M_pour 212 (.lastore) 1 := (by decide +kernel : decode prog_14_method_16_code 212 = .ok (.lastore, 1))
theorem d_M_pour_213 : m_D k_M_pour 213 (.iinc 7 1) 3 := (by decide +kernel : decode prog_14_method_16_code 213 = .ok (.iinc 7 1, 3))
theorem d_M_pour_216 : m_D k_M_pour 216 (.goto (-58)) 3 := (by decide +kernel : decode prog_14_method_16_code 216 = .ok (.goto (-58), 3))
theorem d_M_pour_219 : m_D k_M_pour 219 (.iconst 1) 1 := (by decide +kernel : decode prog_14_method_16_code 219 = .ok (.iconst 1, 1))
theorem d_M_pour_220 : m_D k_M_pour 220 (.ireturn) 1 := (by decide +kernel : decode prog_14_method_16_code 220 = .ok (.ireturn, 1))
def fn_M_pour_l158 (x0 : Option mA) (x1 : Int32) (x2 : Int32) (x3 : Int32) (x4 : Int32) (x5 : Int32) (t20 : Int32) (t21 : Int32) : mP ((Int32) ⊕ (Unit)) :=
  if x5 ≤ t21 then
    m_rt (.inr ())
  else
    m_bd (α := Int32) (
      if t20 = 0 then
        m_rt t21
      else
        m_rt ((x5 - 1) - t21)
      ) fun (t22 : Int32) =>
    m_bd (m_gR 11 6 x0) fun v23 =>
    m_bd (m_gR 11 6 x0) fun v24 =>
    m_bd (m_aJ v24 (((60 * x1) + x2) + t22)) fun v25 =>
    m_bd (m_tJ v23 (((60 * x3) + x4) + t22) v25) fun _ =>
    m_rt (.inl (t21 + 1))
def fn_M_pour (x0 : Option mA) (x1 : Int32) (x2 : Int32) (x3 : Int32) (x4 : Int32) (x5 : Int32) : mP Int32 :=
  m_th 11 x0 <|
  m_bd (m_pI 11 1 x0 0) fun _ =>
  m_bd (m_pI 11 0 x0 0) fun _ =>
  if x1 < 0 then
    m_bd (fn_M_no x0 1) fun v1 =>
    m_bd (m_cz v1) fun _ => m_rt v1
  else
    if 4 ≤ x1 then
      m_bd (fn_M_no x0 1) fun v2 =>
      m_bd (m_cz v2) fun _ => m_rt v2
    else
      if x3 < 0 then
        m_bd (fn_M_no x0 1) fun v3 =>
        m_bd (m_cz v3) fun _ => m_rt v3
      else
        if x3 < 4 then
          m_bd (m_gR 11 5 x0) fun v4 =>
          m_bd (m_aI 0 v4 x1) fun v5 =>
          if v5 < 0 then
            m_bd (fn_M_no x0 3) fun v6 =>
            m_bd (m_cz v6) fun _ => m_rt v6
          else
            m_bd (m_gR 11 5 x0) fun v7 =>
            m_bd (m_aI 0 v7 x3) fun v8 =>
            if 0 ≤ v8 then
              m_bd (m_gR 11 4 x0) fun v9 =>
              m_bd (m_aI 0 v9 x1) fun v10 =>
              m_bd (m_gR 11 4 x0) fun v11 =>
              m_bd (m_aI 0 v11 x3) fun v12 =>
              if v10 = v12 then
                if 0 ≤ x5 then
                  if x2 < 0 then
                    m_bd (fn_M_no x0 4) fun v13 =>
                    m_bd (m_cz v13) fun _ => m_rt v13
                  else
                    if x4 < 0 then
                      m_bd (fn_M_no x0 4) fun v14 =>
                      m_bd (m_cz v14) fun _ => m_rt v14
                    else
                      m_bd (m_gR 11 5 x0) fun v15 =>
                      m_bd (m_aI 0 v15 x1) fun v16 =>
                      if 0 < (lg_cmp ((x2).toInt64 + (x5).toInt64) (v16).toInt64) then
                        m_bd (fn_M_no x0 4) fun v17 =>
                        m_bd (m_cz v17) fun _ => m_rt v17
                      else
                        m_bd (m_gR 11 5 x0) fun v18 =>
                        m_bd (m_aI 0 v18 x3) fun v19 =>
                        if (lg_cmp ((x4).toInt64 + (x5).toInt64) (v19).toInt64) ≤ 0 then
                          m_bd (α := Int32) (
                            if x4 ≤ x2 then
                              m_rt 0
                            else
                              m_rt 1
                            ) fun (t20 : Int32) =>
                          m_bd (m_lp (fn_M_pour_l158 x0 x1 x2 x3 x4 x5 t20) m_F 0) fun (t26 : Unit) =>
                          m_rt 1
                        else
                          m_bd (fn_M_no x0 4) fun v27 =>
                          m_bd (m_cz v27) fun _ => m_rt v27
                else
                  m_bd (fn_M_no x0 6) fun v28 =>
                  m_bd (m_cz v28) fun _ => m_rt v28
              else
                m_bd (fn_M_no x0 11) fun v29 =>
                m_bd (m_cz v29) fun _ => m_rt v29
            else
              m_bd (fn_M_no x0 3) fun v30 =>
              m_bd (m_cz v30) fun _ => m_rt v30
        else
          m_bd (fn_M_no x0 1) fun v31 =>
          m_bd (m_cz v31) fun _ => m_rt v31
set_option maxHeartbeats 4000000 in
set_option maxRecDepth 100000 in
theorem sd_M_pour (x0 : Option mA) (x1 : Int32) (x2 : Int32) (x3 : Int32) (x4 : Int32) (x5 : Int32) : m_Sm k_M_pour 2 0 0 [.inr (.inr x0), .inl x1, .inl x2, .inl x3, .inl x4, .inl x5] (fn_M_pour x0 x1 x2 x3 x4 x5) (fun b => some (.inl b)) := by
  refine ⟨Nat.le_of_ble_eq_true rfl, ?_⟩
  refine sm_th ?_
  refine sm_aload_n (i := 0) (j := 0) (pc' := 1) d_M_pour_0 rfl rfl rfl (sm_iconst (pc' := 2) d_M_pour_1 rfl ic_0 (sm_putI (pc' := 5) d_M_pour_2 rfl fl_M_81 (Or.inl rfl) rfl (sm_aload_n (i := 0) (j := 0) (pc' := 6) d_M_pour_5 rfl rfl rfl (sm_iconst (pc' := 7) d_M_pour_6 rfl ic_0 (sm_putI (pc' := 10) d_M_pour_7 rfl fl_M_84 (Or.inl rfl) rfl (sm_iload_n (i := 1) (j := 1) (pc' := 11) d_M_pour_10 rfl rfl rfl ?_))))))
  refine sm_if_lt (tgt := 28) (pc' := 14) d_M_pour_11 rfl rfl ?_ ?_
  · refine sm_aload_n (i := 0) (j := 0) (pc' := 29) d_M_pour_28 rfl rfl rfl (sm_iconst (pc' := 30) d_M_pour_29 rfl ic_1 ?_)
    refine sm_callVi (ci := 11) (x := x0) (av := [.inl 1]) (st := []) (mc := 0) (ms := 0) (pc' := 33) d_M_pour_30 rfl (sd_M_no x0 1) m_lv rfl cv_M_no w_ml_M_96 rfl rfl (by decide) (Nat.le_of_ble_eq_true rfl) rfl rfl (fun v1 => ?_)
    exact sm_zretC d_M_pour_33 rfl rfl
  · refine sm_iload_n (i := 1) (j := 1) (pc' := 15) d_M_pour_14 rfl rfl rfl (sm_iconst (pc' := 16) d_M_pour_15 rfl ic_4 ?_)
    refine sm_icmp_ge (tgt := 28) (pc' := 19) d_M_pour_16 rfl rfl ?_ ?_
    · refine sm_aload_n (i := 0) (j := 0) (pc' := 29) d_M_pour_28 rfl rfl rfl (sm_iconst (pc' := 30) d_M_pour_29 rfl ic_1 ?_)
      refine sm_callVi (ci := 11) (x := x0) (av := [.inl 1]) (st := []) (mc := 0) (ms := 0) (pc' := 33) d_M_pour_30 rfl (sd_M_no x0 1) m_lv rfl cv_M_no w_ml_M_96 rfl rfl (by decide) (Nat.le_of_ble_eq_true rfl) rfl rfl (fun v2 => ?_)
      exact sm_zretC d_M_pour_33 rfl rfl
    · refine sm_iload_n (i := 3) (j := 3) (pc' := 20) d_M_pour_19 rfl rfl rfl ?_
      refine sm_if_lt (tgt := 28) (pc' := 23) d_M_pour_20 rfl rfl ?_ ?_
      · refine sm_aload_n (i := 0) (j := 0) (pc' := 29) d_M_pour_28 rfl rfl rfl (sm_iconst (pc' := 30) d_M_pour_29 rfl ic_1 ?_)
        refine sm_callVi (ci := 11) (x := x0) (av := [.inl 1]) (st := []) (mc := 0) (ms := 0) (pc' := 33) d_M_pour_30 rfl (sd_M_no x0 1) m_lv rfl cv_M_no w_ml_M_96 rfl rfl (by decide) (Nat.le_of_ble_eq_true rfl) rfl rfl (fun v3 => ?_)
        exact sm_zretC d_M_pour_33 rfl rfl
      · refine sm_iload_n (i := 3) (j := 3) (pc' := 24) d_M_pour_23 rfl rfl rfl (sm_iconst (pc' := 25) d_M_pour_24 rfl ic_4 ?_)
        refine sm_icmp_lt (tgt := 34) (pc' := 28) d_M_pour_25 rfl rfl ?_ ?_
        · refine sm_aload_n (i := 0) (j := 0) (pc' := 35) d_M_pour_34 rfl rfl rfl ?_
          refine sm_getR (pc' := 38) d_M_pour_35 rfl fl_M_17 rfl rfl (fun v4 => ?_)
          refine sm_iload_n (i := 1) (j := 1) (pc' := 39) d_M_pour_38 rfl rfl rfl ?_
          refine sm_iald (pc' := 40) d_M_pour_39 rfl (fun v5 => ?_)
          refine sm_if_lt (tgt := 52) (pc' := 43) d_M_pour_40 rfl rfl ?_ ?_
          · refine sm_aload_n (i := 0) (j := 0) (pc' := 53) d_M_pour_52 rfl rfl rfl (sm_iconst (pc' := 54) d_M_pour_53 rfl ic_3 ?_)
            refine sm_callVi (ci := 11) (x := x0) (av := [.inl 3]) (st := []) (mc := 0) (ms := 0) (pc' := 57) d_M_pour_54 rfl (sd_M_no x0 3) m_lv rfl cv_M_no w_ml_M_96 rfl rfl (by decide) (Nat.le_of_ble_eq_true rfl) rfl rfl (fun v6 => ?_)
            exact sm_zretC d_M_pour_57 rfl rfl
          · refine sm_aload_n (i := 0) (j := 0) (pc' := 44) d_M_pour_43 rfl rfl rfl ?_
            refine sm_getR (pc' := 47) d_M_pour_44 rfl fl_M_17 rfl rfl (fun v7 => ?_)
            refine sm_iload_n (i := 3) (j := 3) (pc' := 48) d_M_pour_47 rfl rfl rfl ?_
            refine sm_iald (pc' := 49) d_M_pour_48 rfl (fun v8 => ?_)
            refine sm_if_ge (tgt := 58) (pc' := 52) d_M_pour_49 rfl rfl ?_ ?_
            · refine sm_aload_n (i := 0) (j := 0) (pc' := 59) d_M_pour_58 rfl rfl rfl ?_
              refine sm_getR (pc' := 62) d_M_pour_59 rfl fl_M_13 rfl rfl (fun v9 => ?_)
              refine sm_iload_n (i := 1) (j := 1) (pc' := 63) d_M_pour_62 rfl rfl rfl ?_
              refine sm_iald (pc' := 64) d_M_pour_63 rfl (fun v10 => ?_)
              refine sm_aload_n (i := 0) (j := 0) (pc' := 65) d_M_pour_64 rfl rfl rfl ?_
              refine sm_getR (pc' := 68) d_M_pour_65 rfl fl_M_13 rfl rfl (fun v11 => ?_)
              refine sm_iload_n (i := 3) (j := 3) (pc' := 69) d_M_pour_68 rfl rfl rfl ?_
              refine sm_iald (pc' := 70) d_M_pour_69 rfl (fun v12 => ?_)
              refine sm_icmp_eq (tgt := 80) (pc' := 73) d_M_pour_70 rfl rfl ?_ ?_
              · refine sm_iload (j := 5) (pc' := 82) d_M_pour_80 rfl rfl ?_
                refine sm_if_ge (tgt := 92) (pc' := 85) d_M_pour_82 rfl rfl ?_ ?_
                · refine sm_iload_n (i := 2) (j := 2) (pc' := 93) d_M_pour_92 rfl rfl rfl ?_
                  refine sm_if_lt (tgt := 136) (pc' := 96) d_M_pour_93 rfl rfl ?_ ?_
                  · refine sm_aload_n (i := 0) (j := 0) (pc' := 137) d_M_pour_136 rfl rfl rfl (sm_iconst (pc' := 138) d_M_pour_137 rfl ic_4 ?_)
                    refine sm_callVi (ci := 11) (x := x0) (av := [.inl 4]) (st := []) (mc := 0) (ms := 0) (pc' := 141) d_M_pour_138 rfl (sd_M_no x0 4) m_lv rfl cv_M_no w_ml_M_96 rfl rfl (by decide) (Nat.le_of_ble_eq_true rfl) rfl rfl (fun v13 => ?_)
                    exact sm_zretC d_M_pour_141 rfl rfl
                  · refine sm_iload (j := 4) (pc' := 98) d_M_pour_96 rfl rfl ?_
                    refine sm_if_lt (tgt := 136) (pc' := 101) d_M_pour_98 rfl rfl ?_ ?_
                    · refine sm_aload_n (i := 0) (j := 0) (pc' := 137) d_M_pour_136 rfl rfl rfl (sm_iconst (pc' := 138) d_M_pour_137 rfl ic_4 ?_)
                      refine sm_callVi (ci := 11) (x := x0) (av := [.inl 4]) (st := []) (mc := 0) (ms := 0) (pc' := 141) d_M_pour_138 rfl (sd_M_no x0 4) m_lv rfl cv_M_no w_ml_M_96 rfl rfl (by decide) (Nat.le_of_ble_eq_true rfl) rfl rfl (fun v14 => ?_)
                      exact sm_zretC d_M_pour_141 rfl rfl
                    · refine sm_iload_n (i := 2) (j := 2) (pc' := 102) d_M_pour_101 rfl rfl rfl (sm_i2l (pc' := 103) d_M_pour_102 rfl (sm_iload (j := 5) (pc' := 105) d_M_pour_103 rfl rfl (sm_i2l (pc' := 106) d_M_pour_105 rfl (sm_ladd (pc' := 107) d_M_pour_106 rfl (sm_aload_n (i := 0) (j := 0) (pc' := 108) d_M_pour_107 rfl rfl rfl ?_)))))
                      refine sm_getR (pc' := 111) d_M_pour_108 rfl fl_M_17 rfl rfl (fun v15 => ?_)
                      refine sm_iload_n (i := 1) (j := 1) (pc' := 112) d_M_pour_111 rfl rfl rfl ?_
                      refine sm_iald (pc' := 113) d_M_pour_112 rfl (fun v16 => ?_)
                      refine sm_i2l (pc' := 114) d_M_pour_113 rfl (sm_lcmp (pc' := 115) d_M_pour_114 rfl ?_)
                      refine sm_if_gt (tgt := 136) (pc' := 118) d_M_pour_115 rfl rfl ?_ ?_
                      · refine sm_aload_n (i := 0) (j := 0) (pc' := 137) d_M_pour_136 rfl rfl rfl (sm_iconst (pc' := 138) d_M_pour_137 rfl ic_4 ?_)
                        refine sm_callVi (ci := 11) (x := x0) (av := [.inl 4]) (st := []) (mc := 0) (ms := 0) (pc' := 141) d_M_pour_138 rfl (sd_M_no x0 4) m_lv rfl cv_M_no w_ml_M_96 rfl rfl (by decide) (Nat.le_of_ble_eq_true rfl) rfl rfl (fun v17 => ?_)
                        exact sm_zretC d_M_pour_141 rfl rfl
                      · refine sm_iload (j := 4) (pc' := 120) d_M_pour_118 rfl rfl (sm_i2l (pc' := 121) d_M_pour_120 rfl (sm_iload (j := 5) (pc' := 123) d_M_pour_121 rfl rfl (sm_i2l (pc' := 124) d_M_pour_123 rfl (sm_ladd (pc' := 125) d_M_pour_124 rfl (sm_aload_n (i := 0) (j := 0) (pc' := 126) d_M_pour_125 rfl rfl rfl ?_)))))
                        refine sm_getR (pc' := 129) d_M_pour_126 rfl fl_M_17 rfl rfl (fun v18 => ?_)
                        refine sm_iload_n (i := 3) (j := 3) (pc' := 130) d_M_pour_129 rfl rfl rfl ?_
                        refine sm_iald (pc' := 131) d_M_pour_130 rfl (fun v19 => ?_)
                        refine sm_i2l (pc' := 132) d_M_pour_131 rfl (sm_lcmp (pc' := 133) d_M_pour_132 rfl ?_)
                        refine sm_if_le (tgt := 142) (pc' := 136) d_M_pour_133 rfl rfl ?_ ?_
                        · refine sm_iload_n (i := 2) (j := 2) (pc' := 143) d_M_pour_142 rfl rfl rfl (sm_iload (j := 4) (pc' := 145) d_M_pour_143 rfl rfl ?_)
                          refine sm_bd (mid := fun (t20 : Int32) => .inl (153, [(0, .inr (.inr x0)), (1, .inl x1), (2, .inl x2), (3, .inl x3), (4, .inl x4), (5, .inl x5)], [.inl t20])) ?_ (fun t20 => ?_)
                          · refine sm_icmp_ge (tgt := 152) (pc' := 148) d_M_pour_145 rfl rfl ?_ ?_
                            · refine sm_iconst (pc' := 153) d_M_pour_152 rfl ic_0 (sm_sub [0, 1, 2, 3, 4, 5] rfl ?_)
                              exact sm_rt rfl
                            · refine sm_iconst (pc' := 149) d_M_pour_148 rfl ic_1 (sm_goto (tgt := 153) d_M_pour_149 rfl (sm_sub [0, 1, 2, 3, 4, 5] rfl ?_))
                              exact sm_rt rfl
                          · refine sm_istore (L' := [(6, .inl t20), (0, .inr (.inr x0)), (1, .inl x1), (2, .inl x2), (3, .inl x3), (4, .inl x4), (5, .inl x5)]) (pc' := 155) d_M_pour_153 rfl (Nat.le_of_ble_eq_true rfl) rfl (sm_iconst (pc' := 156) d_M_pour_155 rfl ic_0 (sm_istore (L' := [(7, .inl 0), (6, .inl t20), (0, .inr (.inr x0)), (1, .inl x1), (2, .inl x2), (3, .inl x3), (4, .inl x4), (5, .inl x5)]) (pc' := 158) d_M_pour_156 rfl (Nat.le_of_ble_eq_true rfl) rfl ?_))
                            refine sm_sub [0, 2, 3, 4, 5, 6, 7, 1] rfl ?_
                            refine sm_bd (mid := fun (t26 : Unit) => .inl (219, [], [])) (sm_lp (hd := fun (t21 : Int32) => (.inl (158, [(7, .inl t21), (0, .inr (.inr x0)), (1, .inl x1), (2, .inl x2), (3, .inl x3), (4, .inl x4), (5, .inl x5), (6, .inl t20)], []) : mC)) (fun t21 => ?_) m_F 0) (fun t26 => ?_)
                            · refine sm_iload (j := 0) (pc' := 160) d_M_pour_158 rfl rfl (sm_iload (j := 6) (pc' := 162) d_M_pour_160 rfl rfl ?_)
                              refine sm_icmp_ge (tgt := 219) (pc' := 165) d_M_pour_162 rfl rfl ?_ ?_
                              · refine sm_sub [] rfl ?_
                                exact sm_rt rfl
                              · refine sm_iload (j := 7) (pc' := 167) d_M_pour_165 rfl rfl ?_
                                refine sm_bd (mid := fun (t22 : Int32) => .inl (182, [(0, .inr (.inr x0)), (1, .inl x1), (2, .inl x2), (3, .inl x3), (4, .inl x4), (5, .inl x5), (6, .inl t20), (7, .inl t21)], [.inl t22])) ?_ (fun t22 => ?_)
                                · refine sm_if_eq (tgt := 180) (pc' := 170) d_M_pour_167 rfl rfl ?_ ?_
                                  · refine sm_iload (j := 0) (pc' := 182) d_M_pour_180 rfl rfl (sm_sub [1, 2, 3, 4, 5, 6, 7, 0] rfl ?_)
                                    exact sm_rt rfl
                                  · refine sm_iload (j := 6) (pc' := 172) d_M_pour_170 rfl rfl (sm_iconst (pc' := 173) d_M_pour_172 rfl ic_1 (sm_isub (pc' := 174) d_M_pour_173 rfl (sm_iload (j := 0) (pc' := 176) d_M_pour_174 rfl rfl (sm_isub (pc' := 177) d_M_pour_176 rfl (sm_goto (tgt := 182) d_M_pour_177 rfl (sm_sub [1, 2, 3, 4, 5, 6, 7, 0] rfl ?_))))))
                                    exact sm_rt rfl
                                · refine sm_istore (L' := [(8, .inl t22), (0, .inr (.inr x0)), (1, .inl x1), (2, .inl x2), (3, .inl x3), (4, .inl x4), (5, .inl x5), (6, .inl t20), (7, .inl t21)]) (pc' := 184) d_M_pour_182 rfl (Nat.le_of_ble_eq_true rfl) rfl (sm_aload_n (i := 0) (j := 1) (pc' := 185) d_M_pour_184 rfl rfl rfl ?_)
                                  refine sm_getR (pc' := 188) d_M_pour_185 rfl fl_M_20 rfl rfl (fun v23 => ?_)
                                  refine sm_bipush (pc' := 190) d_M_pour_188 rfl ib_60 (sm_iload_n (i := 3) (j := 4) (pc' := 191) d_M_pour_190 rfl rfl rfl (sm_imul (pc' := 192) d_M_pour_191 rfl (sm_iload (j := 5) (pc' := 194) d_M_pour_192 rfl rfl (sm_iadd (pc' := 195) d_M_pour_194 rfl (sm_iload (j := 0) (pc' := 197) d_M_pour_195 rfl rfl (sm_iadd (pc' := 198) d_M_pour_197 rfl (sm_aload_n (i := 0) (j := 1) (pc' := 199) d_M_pour_198 rfl rfl rfl ?_)))))))
                                  refine sm_getR (pc' := 202) d_M_pour_199 rfl fl_M_20 rfl rfl (fun v24 => ?_)
                                  refine sm_bipush (pc' := 204) d_M_pour_202 rfl ib_60 (sm_iload_n (i := 1) (j := 2) (pc' := 205) d_M_pour_204 rfl rfl rfl (sm_imul (pc' := 206) d_M_pour_205 rfl (sm_iload_n (i := 2) (j := 3) (pc' := 207) d_M_pour_206 rfl rfl rfl (sm_iadd (pc' := 208) d_M_pour_207 rfl (sm_iload (j := 0) (pc' := 210) d_M_pour_208 rfl rfl (sm_iadd (pc' := 211) d_M_pour_210 rfl ?_))))))
                                  refine sm_lald (pc' := 212) d_M_pour_211 rfl (fun v25 => ?_)
                                  refine sm_last (pc' := 213) d_M_pour_212 rfl (sm_iinc (j := 8) (L' := [(7, .inl (t21 + 1)), (8, .inl t22), (0, .inr (.inr x0)), (1, .inl x1), (2, .inl x2), (3, .inl x3), (4, .inl x4), (5, .inl x5), (6, .inl t20)]) (pc' := 216) d_M_pour_213 rfl (v := (t21 + 1)) rfl (ix_1 _) (Nat.le_of_ble_eq_true rfl) rfl (sm_goto (tgt := 158) d_M_pour_216 rfl (sm_sub [0, 2, 3, 4, 5, 6, 7, 8] rfl ?_)))
                                  exact sm_rt rfl
                            · refine sm_iconst (pc' := 220) d_M_pour_219 rfl ic_1 ?_
                              exact sm_zreturn d_M_pour_220 rfl (by decide) rfl
                        · refine sm_aload_n (i := 0) (j := 0) (pc' := 137) d_M_pour_136 rfl rfl rfl (sm_iconst (pc' := 138) d_M_pour_137 rfl ic_4 ?_)
                          refine sm_callVi (ci := 11) (x := x0) (av := [.inl 4]) (st := []) (mc := 0) (ms := 0) (pc' := 141) d_M_pour_138 rfl (sd_M_no x0 4) m_lv rfl cv_M_no w_ml_M_96 rfl rfl (by decide) (Nat.le_of_ble_eq_true rfl) rfl rfl (fun v27 => ?_)
                          exact sm_zretC d_M_pour_141 rfl rfl
                · refine sm_aload_n (i := 0) (j := 0) (pc' := 86) d_M_pour_85 rfl rfl rfl (sm_bipush (pc' := 88) d_M_pour_86 rfl ib_6 ?_)
                  refine sm_callVi (ci := 11) (x := x0) (av := [.inl 6]) (st := []) (mc := 0) (ms := 0) (pc' := 91) d_M_pour_88 rfl (sd_M_no x0 6) m_lv rfl cv_M_no w_ml_M_96 rfl rfl (by decide) (Nat.le_of_ble_eq_true rfl) rfl rfl (fun v28 => ?_)
                  exact sm_zretC d_M_pour_91 rfl rfl
              · refine sm_aload_n (i := 0) (j := 0) (pc' := 74) d_M_pour_73 rfl rfl rfl (sm_bipush (pc' := 76) d_M_pour_74 rfl ib_11 ?_)
                refine sm_callVi (ci := 11) (x := x0) (av := [.inl 11]) (st := []) (mc := 0) (ms := 0) (pc' := 79) d_M_pour_76 rfl (sd_M_no x0 11) m_lv rfl cv_M_no w_ml_M_96 rfl rfl (by decide) (Nat.le_of_ble_eq_true rfl) rfl rfl (fun v29 => ?_)
                exact sm_zretC d_M_pour_79 rfl rfl
            · refine sm_aload_n (i := 0) (j := 0) (pc' := 53) d_M_pour_52 rfl rfl rfl (sm_iconst (pc' := 54) d_M_pour_53 rfl ic_3 ?_)
              refine sm_callVi (ci := 11) (x := x0) (av := [.inl 3]) (st := []) (mc := 0) (ms := 0) (pc' := 57) d_M_pour_54 rfl (sd_M_no x0 3) m_lv rfl cv_M_no w_ml_M_96 rfl rfl (by decide) (Nat.le_of_ble_eq_true rfl) rfl rfl (fun v30 => ?_)
              exact sm_zretC d_M_pour_57 rfl rfl
        · refine sm_aload_n (i := 0) (j := 0) (pc' := 29) d_M_pour_28 rfl rfl rfl (sm_iconst (pc' := 30) d_M_pour_29 rfl ic_1 ?_)
          refine sm_callVi (ci := 11) (x := x0) (av := [.inl 1]) (st := []) (mc := 0) (ms := 0) (pc' := 33) d_M_pour_30 rfl (sd_M_no x0 1) m_lv rfl cv_M_no w_ml_M_96 rfl rfl (by decide) (Nat.le_of_ble_eq_true rfl) rfl rfl (fun v31 => ?_)
          exact sm_zretC d_M_pour_33 rfl rfl
theorem d_M_lay_0 : m_D k_M_lay 0 (.iconst 3) 1 := (by decide +kernel : decode prog_14_method_52_code 0 = .ok (.iconst 3, 1))
theorem d_M_lay_1 : m_D k_M_lay 1 (.istore_n 2) 1 := (by decide +kernel : decode prog_14_method_52_code 1 = .ok (.istore_n 2, 1))
theorem d_M_lay_2 : m_D k_M_lay 2 (.iload_n 2) 1 := (by decide +kernel : decode prog_14_method_52_code 2 = .ok (.iload_n 2, 1))
theorem d_M_lay_3 : m_D k_M_lay 3 (.ifCond .lt 35) 3 := (by decide +kernel : decode prog_14_method_52_code 3 = .ok (.ifCond .lt 35, 3))
theorem d_M_lay_6 : m_D k_M_lay 6 (.aload_n 0) 1 := (by decide +kernel : decode prog_14_method_52_code 6 = .ok (.aload_n 0, 1))
theorem d_M_lay_7 : m_D k_M_lay 7 (.getfield 24) 3 := (by decide +kernel : decode prog_14_method_52_code 7 = .ok (.getfield 24, 3))
theorem d_M_lay_10 : m_D k_M_lay 10 (.aload_n 0) 1 := (by decide +kernel : decode prog_14_method_52_code 10 = .ok (.aload_n 0, 1))
theorem d_M_lay_11 : m_D k_M_lay 11 (.getfield 241) 3 := (by decide +kernel : decode prog_14_method_52_code 11 = .ok (.getfield 241, 3))
theorem d_M_lay_14 : m_D k_M_lay 14 (.iload_n 1) 1 := (by decide +kernel : decode prog_14_method_52_code 14 = .ok (.iload_n 1, 1))
theorem d_M_lay_15 : m_D k_M_lay 15 (.bipush 8) 2 := (by decide +kernel : decode prog_14_method_52_code 15 = .ok (.bipush 8, 2))
theorem d_M_lay_17 : m_D k_M_lay 17 (.iload_n 2) 1 := (by decide +kernel : decode prog_14_method_52_code 17 = .ok (.iload_n 2, 1))
theorem d_M_lay_18 : m_D k_M_lay 18 (.imul) 1 := (by decide +kernel : decode prog_14_method_52_code 18 = .ok (.imul, 1))
theorem d_M_lay_19 : m_D k_M_lay 19 (.ishr) 1 := (by decide +kernel : decode prog_14_method_52_code 19 = .ok (.ishr, 1))
theorem d_M_lay_20 : m_D k_M_lay 20 (.i2b) 1 := (by decide +kernel : decode prog_14_method_52_code 20 = .ok (.i2b, 1))
theorem d_M_lay_21 : m_D k_M_lay 21 (.bastore) 1 := (by decide +kernel : decode prog_14_method_52_code 21 = .ok (.bastore, 1))
theorem d_M_lay_22 : m_D k_M_lay 22 (.aload_n 0) 1 := (by decide +kernel : decode prog_14_method_52_code 22 = .ok (.aload_n 0, 1))
theorem d_M_lay_23 : m_D k_M_lay 23 (.dup) 1 := (by decide +kernel : decode prog_14_method_52_code 23 = .ok (.dup, 1))
theorem d_M_lay_24 : m_D k_M_lay 24 (.getfield 241) 3 := (by decide +kernel : decode prog_14_method_52_code 24 = .ok (.getfield 241, 3))
theorem d_M_lay_27 : m_D k_M_lay 27 (.iconst 1) 1 := (by decide +kernel : decode prog_14_method_52_code 27 = .ok (.iconst 1, 1))
theorem d_M_lay_28 : m_D k_M_lay 28 (.iadd) 1 := (by decide +kernel : decode prog_14_method_52_code 28 = .ok (.iadd, 1))
theorem d_M_lay_29 : m_D k_M_lay 29 (.putfield 241) 3 := (by decide +kernel : decode prog_14_method_52_code 29 = .ok (.putfield 241, 3))
theorem d_M_lay_32 : m_D k_M_lay 32 (.iinc 2 (-1)) 3 := (by decide +kernel : decode prog_14_method_52_code 32 = .ok (.iinc 2 (-1), 3))
theorem d_M_lay_35 : m_D k_M_lay 35 (.goto (-33)) 3 := (by decide +kernel : decode prog_14_method_52_code 35 = .ok (.goto (-33), 3))
theorem d_M_lay_38 : m_D k_M_lay 38 (.return_) 1 := (by decide +kernel : decode prog_14_method_52_code 38 = .ok (.return_, 1))
def fn_M_lay_l2 (x0 : Option mA) (x1 : Int32) (t1 : Int32) : mP ((Int32) ⊕ (Unit)) :=
  if t1 < 0 then
    m_rt (.inr ())
  else
    m_bd (m_gR 11 7 x0) fun v2 =>
    m_bd (m_gI 11 8 x0) fun v3 =>
    m_bd (m_tI 2 v2 v3 ((x1 >>> ((8 * t1) &&& 31))).toInt8.toInt32) fun _ =>
    m_bd (m_gI 11 8 x0) fun v4 =>
    m_bd (m_pI 11 8 x0 (v4 + 1)) fun _ =>
    m_rt (.inl (t1 + (-1)))
def fn_M_lay (x0 : Option mA) (x1 : Int32) : mP Unit :=
  m_th 11 x0 <|
  m_bd (m_lp (fn_M_lay_l2 x0 x1) m_F 3) fun (t5 : Unit) =>
  m_rt ()
set_option maxHeartbeats 4000000 in
set_option maxRecDepth 100000 in
theorem sd_M_lay (x0 : Option mA) (x1 : Int32) : m_Sm k_M_lay 1 0 0 [.inr (.inr x0), .inl x1] (fn_M_lay x0 x1) (fun _ => none) := by
  refine ⟨Nat.le_of_ble_eq_true rfl, ?_⟩
  refine sm_th ?_
  refine sm_iconst (pc' := 1) d_M_lay_0 rfl ic_3 (sm_istore_n (i := 2) (L' := [(2, .inl 3), (0, .inr (.inr x0)), (1, .inl x1)]) (pc' := 2) d_M_lay_1 rfl rfl (Nat.le_of_ble_eq_true rfl) rfl ?_)
  refine sm_sub [0, 1, 2] rfl ?_
  refine sm_bd (mid := fun (t5 : Unit) => .inl (38, [], [])) (sm_lp (hd := fun (t1 : Int32) => (.inl (2, [(2, .inl t1), (0, .inr (.inr x0)), (1, .inl x1)], []) : mC)) (fun t1 => ?_) m_F 3) (fun t5 => ?_)
  · refine sm_iload_n (i := 2) (j := 0) (pc' := 3) d_M_lay_2 rfl rfl rfl ?_
    refine sm_if_lt (tgt := 38) (pc' := 6) d_M_lay_3 rfl rfl ?_ ?_
    · refine sm_sub [] rfl ?_
      exact sm_rt rfl
    · refine sm_aload_n (i := 0) (j := 1) (pc' := 7) d_M_lay_6 rfl rfl rfl ?_
      refine sm_getR (pc' := 10) d_M_lay_7 rfl fl_M_24 rfl rfl (fun v2 => ?_)
      refine sm_aload_n (i := 0) (j := 1) (pc' := 11) d_M_lay_10 rfl rfl rfl ?_
      refine sm_getI (pc' := 14) d_M_lay_11 rfl fl_M_241 rfl ⟨by decide, by decide⟩ (fun v3 => ?_)
      refine sm_iload_n (i := 1) (j := 2) (pc' := 15) d_M_lay_14 rfl rfl rfl (sm_bipush (pc' := 17) d_M_lay_15 rfl ib_8 (sm_iload_n (i := 2) (j := 0) (pc' := 18) d_M_lay_17 rfl rfl rfl (sm_imul (pc' := 19) d_M_lay_18 rfl (sm_ishr (pc' := 20) d_M_lay_19 rfl (sm_i2b (pc' := 21) d_M_lay_20 rfl (sm_bast (pc' := 22) d_M_lay_21 rfl (sm_aload_n (i := 0) (j := 1) (pc' := 23) d_M_lay_22 rfl rfl rfl (sm_dup (pc' := 24) d_M_lay_23 rfl rfl ?_))))))))
      refine sm_getI (pc' := 27) d_M_lay_24 rfl fl_M_241 rfl ⟨by decide, by decide⟩ (fun v4 => ?_)
      refine sm_iconst (pc' := 28) d_M_lay_27 rfl ic_1 (sm_iadd (pc' := 29) d_M_lay_28 rfl (sm_putI (pc' := 32) d_M_lay_29 rfl fl_M_241 (Or.inl rfl) rfl (sm_iinc (j := 0) (L' := [(2, .inl (t1 + (-1))), (0, .inr (.inr x0)), (1, .inl x1)]) (pc' := 35) d_M_lay_32 rfl (v := (t1 + (-1))) rfl (ix_m1 _) (Nat.le_of_ble_eq_true rfl) rfl (sm_goto (tgt := 2) d_M_lay_35 rfl (sm_sub [0, 1, 2] rfl ?_)))))
      exact sm_rt rfl
  · exact sm_return d_M_lay_38 rfl rfl
theorem d_M_feed_0 : m_D k_M_feed 0 (.aload_n 0) 1 := (by decide +kernel : decode prog_14_method_51_code 0 = .ok (.aload_n 0, 1))
theorem d_M_feed_1 : m_D k_M_feed 1 (.iconst 0) 1 := (by decide +kernel : decode prog_14_method_51_code 1 = .ok (.iconst 0, 1))
theorem d_M_feed_2 : m_D k_M_feed 2 (.putfield 81) 3 := (by decide +kernel : decode prog_14_method_51_code 2 = .ok (.putfield 81, 3))
theorem d_M_feed_5 : m_D k_M_feed 5 (.aload_n 0) 1 := (by decide +kernel : decode prog_14_method_51_code 5 = .ok (.aload_n 0, 1))
theorem d_M_feed_6 : m_D k_M_feed 6 (.getfield 241) 3 := (by decide +kernel : decode prog_14_method_51_code 6 = .ok (.getfield 241, 3))
theorem d_M_feed_9 : m_D k_M_feed 9 (.bipush 20) 2 := (by decide +kernel : decode prog_14_method_51_code 9 = .ok (.bipush 20, 2))
theorem d_M_feed_11 : m_D k_M_feed 11 (.iadd) 1 := (by decide +kernel : decode prog_14_method_51_code 11 = .ok (.iadd, 1))
theorem d_M_feed_12 : m_D k_M_feed 12 (.sipush 900) 3 := (by decide +kernel : decode prog_14_method_51_code 12 = .ok (.sipush 900, 3))
theorem d_M_feed_15 : m_D k_M_feed 15 (.if_icmp .le 5) 3 := (by decide +kernel : decode prog_14_method_51_code 15 = .ok (.if_icmp .le 5, 3))
theorem d_M_feed_18 : m_D k_M_feed 18 (.iconst (-1)) 1 := (by decide +kernel : decode prog_14_method_51_code 18 = .ok (.iconst (-1), 1))
theorem d_M_feed_19 : m_D k_M_feed 19 (.ireturn) 1 := (by decide +kernel : decode prog_14_method_51_code 19 = .ok (.ireturn, 1))
theorem d_M_feed_20 : m_D k_M_feed 20 (.aload_n 0) 1 := (by decide +kernel : decode prog_14_method_51_code 20 = .ok (.aload_n 0, 1))
theorem d_M_feed_21 : m_D k_M_feed 21 (.iload_n 1) 1 := (by decide +kernel : decode prog_14_method_51_code 21 = .ok (.iload_n 1, 1))
theorem d_M_feed_22 : m_D k_M_feed 22 (.invokevirtual 244) 3 := (by decide +kernel : decode prog_14_method_51_code 22 = .ok (.invokevirtual 244, 3))
theorem d_M_feed_25 : m_D k_M_feed 25 (.aload_n 0) 1 := (by decide +kernel : decode prog_14_method_51_code 25 = .ok (.aload_n 0, 1))
theorem d_M_feed_26 : m_D k_M_feed 26 (.iload_n 2) 1 := (by decide +kernel : decode prog_14_method_51_code 26 = .ok (.iload_n 2, 1))
theorem d_M_feed_27 : m_D k_M_feed 27 (.invokevirtual 244) 3 := (by decide +kernel : decode prog_14_method_51_code 27 = .ok (.invokevirtual 244, 3))
theorem d_M_feed_30 : m_D k_M_feed 30 (.aload_n 0) 1 := (by decide +kernel : decode prog_14_method_51_code 30 = .ok (.aload_n 0, 1))
theorem d_M_feed_31 : m_D k_M_feed 31 (.iload_n 3) 1 := (by decide +kernel : decode prog_14_method_51_code 31 = .ok (.iload_n 3, 1))
theorem d_M_feed_32 : m_D k_M_feed 32 (.invokevirtual 244) 3 := (by decide +kernel : decode prog_14_method_51_code 32 = .ok (.invokevirtual 244, 3))
theorem d_M_feed_35 : m_D k_M_feed 35 (.aload_n 0) 1 := (by decide +kernel : decode prog_14_method_51_code 35 = .ok (.aload_n 0, 1))
theorem d_M_feed_36 : m_D k_M_feed 36 (.iload 4) 2 := (by decide +kernel : decode prog_14_method_51_code 36 = .ok (.iload 4, 2))
theorem d_M_feed_38 : m_D k_M_feed 38 (.invokevirtual 244) 3 := (by decide +kernel : decode prog_14_method_51_code 38 = .ok (.invokevirtual 244, 3))
theorem d_M_feed_41 : m_D k_M_feed 41 (.aload_n 0) 1 := (by decide +kernel : decode prog_14_method_51_code 41 = .ok (.aload_n 0, 1))
theorem d_M_feed_42 : m_D k_M_feed 42 (.iload 5) 2 := (by decide +kernel : decode prog_14_method_51_code 42 = .ok (.iload 5, 2))
theorem d_M_feed_44 : m_D k_M_feed 44 (.invokevirtual 244) 3 := (by decide +kernel : decode prog_14_method_51_code 44 = .ok (.invokevirtual 244, 3))
theorem d_M_feed_47 : m_D k_M_feed 47 (.aload_n 0) 1 := (by decide +kernel : decode prog_14_method_51_code 47 = .ok (.aload_n 0, 1))
theorem d_M_feed_48 : m_D k_M_feed 48 (.getfield 241) 3 := (by decide +kernel : decode prog_14_method_51_code 48 = .ok (.getfield 241, 3))
theorem d_M_feed_51 : m_D k_M_feed 51 (.ireturn) 1 := (by decide +kernel : decode prog_14_method_51_code 51 = .ok (.ireturn, 1))
def fn_M_feed (x0 : Option mA) (x1 : Int32) (x2 : Int32) (x3 : Int32) (x4 : Int32) (x5 : Int32) : mP Int32 :=
  m_th 11 x0 <|
  m_bd (m_pI 11 1 x0 0) fun _ =>
  m_bd (m_gI 11 8 x0) fun v1 =>
  if (v1 + 20) ≤ 900 then
    m_bd (fn_M_lay x0 x1) fun _ =>
    m_bd (fn_M_lay x0 x2) fun _ =>
    m_bd (fn_M_lay x0 x3) fun _ =>
    m_bd (fn_M_lay x0 x4) fun _ =>
    m_bd (fn_M_lay x0 x5) fun _ =>
    m_bd (m_gI 11 8 x0) fun v2 =>
    m_rt v2
  else
    m_rt (-1)
set_option maxHeartbeats 4000000 in
set_option maxRecDepth 100000 in
theorem sd_M_feed (x0 : Option mA) (x1 : Int32) (x2 : Int32) (x3 : Int32) (x4 : Int32) (x5 : Int32) : m_Sm k_M_feed 2 0 0 [.inr (.inr x0), .inl x1, .inl x2, .inl x3, .inl x4, .inl x5] (fn_M_feed x0 x1 x2 x3 x4 x5) (fun b => some (.inl b)) := by
  refine ⟨Nat.le_of_ble_eq_true rfl, ?_⟩
  refine sm_th ?_
  refine sm_aload_n (i := 0) (j := 0) (pc' := 1) d_M_feed_0 rfl rfl rfl (sm_iconst (pc' := 2) d_M_feed_1 rfl ic_0 (sm_putI (pc' := 5) d_M_feed_2 rfl fl_M_81 (Or.inl rfl) rfl (sm_aload_n (i := 0) (j := 0) (pc' := 6) d_M_feed_5 rfl rfl rfl ?_)))
  refine sm_getI (pc' := 9) d_M_feed_6 rfl fl_M_241 rfl ⟨by decide, by decide⟩ (fun v1 => ?_)
  refine sm_bipush (pc' := 11) d_M_feed_9 rfl ib_20 (sm_iadd (pc' := 12) d_M_feed_11 rfl (sm_sipush (pc' := 15) d_M_feed_12 rfl is_900 ?_))
  refine sm_icmp_le (tgt := 20) (pc' := 18) d_M_feed_15 rfl rfl ?_ ?_
  · refine sm_aload_n (i := 0) (j := 0) (pc' := 21) d_M_feed_20 rfl rfl rfl (sm_iload_n (i := 1) (j := 1) (pc' := 22) d_M_feed_21 rfl rfl rfl ?_)
    refine sm_callVv (ci := 11) (x := x0) (av := [.inl x1]) (st := []) (mc := 0) (ms := 0) (pc' := 25) d_M_feed_22 rfl (sd_M_lay x0 x1) m_lv rfl cv_M_lay w_ml_M_244 rfl rfl (by decide) (Nat.le_of_ble_eq_true rfl) rfl rfl ?_
    refine sm_aload_n (i := 0) (j := 0) (pc' := 26) d_M_feed_25 rfl rfl rfl (sm_iload_n (i := 2) (j := 2) (pc' := 27) d_M_feed_26 rfl rfl rfl ?_)
    refine sm_callVv (ci := 11) (x := x0) (av := [.inl x2]) (st := []) (mc := 0) (ms := 0) (pc' := 30) d_M_feed_27 rfl (sd_M_lay x0 x2) m_lv rfl cv_M_lay w_ml_M_244 rfl rfl (by decide) (Nat.le_of_ble_eq_true rfl) rfl rfl ?_
    refine sm_aload_n (i := 0) (j := 0) (pc' := 31) d_M_feed_30 rfl rfl rfl (sm_iload_n (i := 3) (j := 3) (pc' := 32) d_M_feed_31 rfl rfl rfl ?_)
    refine sm_callVv (ci := 11) (x := x0) (av := [.inl x3]) (st := []) (mc := 0) (ms := 0) (pc' := 35) d_M_feed_32 rfl (sd_M_lay x0 x3) m_lv rfl cv_M_lay w_ml_M_244 rfl rfl (by decide) (Nat.le_of_ble_eq_true rfl) rfl rfl ?_
    refine sm_aload_n (i := 0) (j := 0) (pc' := 36) d_M_feed_35 rfl rfl rfl (sm_iload (j := 4) (pc' := 38) d_M_feed_36 rfl rfl ?_)
    refine sm_callVv (ci := 11) (x := x0) (av := [.inl x4]) (st := []) (mc := 0) (ms := 0) (pc' := 41) d_M_feed_38 rfl (sd_M_lay x0 x4) m_lv rfl cv_M_lay w_ml_M_244 rfl rfl (by decide) (Nat.le_of_ble_eq_true rfl) rfl rfl ?_
    refine sm_aload_n (i := 0) (j := 0) (pc' := 42) d_M_feed_41 rfl rfl rfl (sm_iload (j := 5) (pc' := 44) d_M_feed_42 rfl rfl ?_)
    refine sm_callVv (ci := 11) (x := x0) (av := [.inl x5]) (st := []) (mc := 0) (ms := 0) (pc' := 47) d_M_feed_44 rfl (sd_M_lay x0 x5) m_lv rfl cv_M_lay w_ml_M_244 rfl rfl (by decide) (Nat.le_of_ble_eq_true rfl) rfl rfl ?_
    refine sm_aload_n (i := 0) (j := 0) (pc' := 48) d_M_feed_47 rfl rfl rfl ?_
    refine sm_getI (pc' := 51) d_M_feed_48 rfl fl_M_241 rfl ⟨by decide, by decide⟩ (fun v2 => ?_)
    exact sm_ireturn d_M_feed_51 rfl rfl
  · refine sm_iconst (pc' := 19) d_M_feed_18 rfl ic_m1 ?_
    exact sm_ireturn d_M_feed_19 rfl rfl
theorem d_M_fault_0 : m_D k_M_fault 0 (.aload_n 0) 1 := (by decide +kernel : decode prog_14_method_55_code 0 = .ok (.aload_n 0, 1))
theorem d_M_fault_1 : m_D k_M_fault 1 (.iconst 0) 1 := (by decide +kernel : decode prog_14_method_55_code 1 = .ok (.iconst 0, 1))
theorem d_M_fault_2 : m_D k_M_fault 2 (.putfield 81) 3 := (by decide +kernel : decode prog_14_method_55_code 2 = .ok (.putfield 81, 3))
theorem d_M_fault_5 : m_D k_M_fault 5 (.iload_n 1) 1 := (by decide +kernel : decode prog_14_method_55_code 5 = .ok (.iload_n 1, 1))
theorem d_M_fault_6 : m_D k_M_fault 6 (.ifCond .ne 10) 3 := (by decide +kernel : decode prog_14_method_55_code 6 = .ok (.ifCond .ne 10, 3))
theorem d_M_fault_9 : m_D k_M_fault 9 (.aload_n 0) 1 := (by decide +kernel : decode prog_14_method_55_code 9 = .ok (.aload_n 0, 1))
theorem d_M_fault_10 : m_D k_M_fault 10 (.getfield 28) 3 := (by decide +kernel : decode prog_14_method_55_code 10 = .ok (.getfield 28, 3))
theorem d_M_fault_13 : m_D k_M_fault 13 (.goto 16) 3 := (by decide +kernel : decode prog_14_method_55_code 13 = .ok (.goto 16, 3))
theorem d_M_fault_16 : m_D k_M_fault 16 (.iload_n 1) 1 := (by decide +kernel : decode prog_14_method_55_code 16 = .ok (.iload_n 1, 1))
theorem d_M_fault_17 : m_D k_M_fault 17 (.iconst 1) 1 := (by decide +kernel : decode prog_14_method_55_code 17 = .ok (.iconst 1, 1))
theorem d_M_fault_18 : m_D k_M_fault 18 (.if_icmp .ne 10) 3 := (by decide +kernel : decode prog_14_method_55_code 18 = .ok (.if_icmp .ne 10, 3))
theorem d_M_fault_21 : m_D k_M_fault 21 (.aload_n 0) 1 := (by decide +kernel : decode prog_14_method_55_code 21 = .ok (.aload_n 0, 1))
theorem d_M_fault_22 : m_D k_M_fault 22 (.getfield 32) 3 := (by decide +kernel : decode prog_14_method_55_code 22 = .ok (.getfield 32, 3))
theorem d_M_fault_25 : m_D k_M_fault 25 (.goto 4) 3 := (by decide +kernel : decode prog_14_method_55_code 25 = .ok (.goto 4, 3))
theorem d_M_fault_28 : m_D k_M_fault 28 (.iconst (-1)) 1 := (by decide +kernel : decode prog_14_method_55_code 28 = .ok (.iconst (-1), 1))
theorem d_M_fault_29 : m_D k_M_fault 29 (.ireturn) 1 := (by decide +kernel : decode prog_14_method_55_code 29 = .ok (.ireturn, 1))
def fn_M_fault (x0 : Option mA) (x1 : Int32) : mP Int32 :=
  m_th 11 x0 <|
  m_bd (m_pI 11 1 x0 0) fun _ =>
  if x1 = 0 then
    m_bd (m_gI 11 10 x0) fun v2 =>
    m_rt v2
  else
    if x1 = 1 then
      m_bd (m_gI 11 11 x0) fun v1 =>
      m_rt v1
    else
      m_rt (-1)
set_option maxHeartbeats 4000000 in
set_option maxRecDepth 100000 in
theorem sd_M_fault (x0 : Option mA) (x1 : Int32) : m_Sm k_M_fault 1 0 0 [.inr (.inr x0), .inl x1] (fn_M_fault x0 x1) (fun b => some (.inl b)) := by
  refine ⟨Nat.le_of_ble_eq_true rfl, ?_⟩
  refine sm_th ?_
  refine sm_aload_n (i := 0) (j := 0) (pc' := 1) d_M_fault_0 rfl rfl rfl (sm_iconst (pc' := 2) d_M_fault_1 rfl ic_0 (sm_putI (pc' := 5) d_M_fault_2 rfl fl_M_81 (Or.inl rfl) rfl (sm_iload_n (i := 1) (j := 1) (pc' := 6) d_M_fault_5 rfl rfl rfl ?_)))
  refine sm_if_ne (tgt := 16) (pc' := 9) d_M_fault_6 rfl rfl ?_ ?_
  · refine sm_iload_n (i := 1) (j := 1) (pc' := 17) d_M_fault_16 rfl rfl rfl (sm_iconst (pc' := 18) d_M_fault_17 rfl ic_1 ?_)
    refine sm_icmp_ne (tgt := 28) (pc' := 21) d_M_fault_18 rfl rfl ?_ ?_
    · refine sm_iconst (pc' := 29) d_M_fault_28 rfl ic_m1 ?_
      exact sm_ireturn d_M_fault_29 rfl rfl
    · refine sm_aload_n (i := 0) (j := 0) (pc' := 22) d_M_fault_21 rfl rfl rfl ?_
      refine sm_getI (pc' := 25) d_M_fault_22 rfl fl_M_32 rfl ⟨by decide, by decide⟩ (fun v1 => ?_)
      refine sm_goto (tgt := 29) d_M_fault_25 rfl ?_
      exact sm_ireturn d_M_fault_29 rfl rfl
  · refine sm_aload_n (i := 0) (j := 0) (pc' := 10) d_M_fault_9 rfl rfl rfl ?_
    refine sm_getI (pc' := 13) d_M_fault_10 rfl fl_M_28 rfl ⟨by decide, by decide⟩ (fun v2 => ?_)
    refine sm_goto (tgt := 29) d_M_fault_13 rfl ?_
    exact sm_ireturn d_M_fault_29 rfl rfl
theorem d_M_copy_0 : m_D k_M_copy 0 (.iconst 0) 1 := (by decide +kernel : decode prog_14_method_166_code 0 = .ok (.iconst 0, 1))
theorem d_M_copy_1 : m_D k_M_copy 1 (.istore_n 3) 1 := (by decide +kernel : decode prog_14_method_166_code 1 = .ok (.istore_n 3, 1))
theorem d_M_copy_2 : m_D k_M_copy 2 (.iload_n 3) 1 := (by decide +kernel : decode prog_14_method_166_code 2 = .ok (.iload_n 3, 1))
theorem d_M_copy_3 : m_D k_M_copy 3 (.sipush 377) 3 := (by decide +kernel : decode prog_14_method_166_code 3 = .ok (.sipush 377, 3))
theorem d_M_copy_6 : m_D k_M_copy 6 (.if_icmp .ge 33) 3 := (by decide +kernel : decode prog_14_method_166_code 6 = .ok (.if_icmp .ge 33, 3))
theorem d_M_copy_9 : m_D k_M_copy 9 (.aload_n 0) 1 := (by decide +kernel : decode prog_14_method_166_code 9 = .ok (.aload_n 0, 1))
theorem d_M_copy_10 : m_D k_M_copy 10 (.getfield 35) 3 := (by decide +kernel : decode prog_14_method_166_code 10 = .ok (.getfield 35, 3))
theorem d_M_copy_13 : m_D k_M_copy 13 (.sipush 377) 3 := (by decide +kernel : decode prog_14_method_166_code 13 = .ok (.sipush 377, 3))
theorem d_M_copy_16 : m_D k_M_copy 16 (.iload_n 2) 1 := (by decide +kernel : decode prog_14_method_166_code 16 = .ok (.iload_n 2, 1))
theorem d_M_copy_17 : m_D k_M_copy 17 (.imul) 1 := (by decide +kernel : decode prog_14_method_166_code 17 = .ok (.imul, 1))
theorem d_M_copy_18 : m_D k_M_copy 18 (.iload_n 3) 1 := (by decide +kernel : decode prog_14_method_166_code 18 = .ok (.iload_n 3, 1))
theorem d_M_copy_19 : m_D k_M_copy 19 (.iadd) 1 := (by decide +kernel : decode prog_14_method_166_code 19 = .ok (.iadd, 1))
theorem d_M_copy_20 : m_D k_M_copy 20 (.aload_n 0) 1 := (by decide +kernel : decode prog_14_method_166_code 20 = .ok (.aload_n 0, 1))
theorem d_M_copy_21 : m_D k_M_copy 21 (.getfield 35) 3 := (by decide +kernel : decode prog_14_method_166_code 21 = .ok (.getfield 35, 3))
theorem d_M_copy_24 : m_D k_M_copy 24 (.sipush 377) 3 := (by decide +kernel : decode prog_14_method_166_code 24 = .ok (.sipush 377, 3))
theorem d_M_copy_27 : m_D k_M_copy 27 (.iload_n 1) 1 := (by decide +kernel : decode prog_14_method_166_code 27 = .ok (.iload_n 1, 1))
theorem d_M_copy_28 : m_D k_M_copy 28 (.imul) 1 := (by decide +kernel : decode prog_14_method_166_code 28 = .ok (.imul, 1))
theorem d_M_copy_29 : m_D k_M_copy 29 (.iload_n 3) 1 := (by decide +kernel : decode prog_14_method_166_code 29 = .ok (.iload_n 3, 1))
theorem d_M_copy_30 : m_D k_M_copy 30 (.iadd) 1 := (by decide +kernel : decode prog_14_method_166_code 30 = .ok (.iadd, 1))
theorem d_M_copy_31 : m_D k_M_copy 31 (.iaload) 1 := (by decide +kernel : decode prog_14_method_166_code 31 = .ok (.iaload, 1))
theorem d_M_copy_32 : m_D k_M_copy 32 (.iastore) 1 := (by decide +kernel : decode prog_14_method_166_code 32 = .ok (.iastore, 1))
theorem d_M_copy_33 : m_D k_M_copy 33 (.iinc 3 1) 3 := (by decide +kernel : decode prog_14_method_166_code 33 = .ok (.iinc 3 1, 3))
theorem d_M_copy_36 : m_D k_M_copy 36 (.goto (-34)) 3 := (by decide +kernel : decode prog_14_method_166_code 36 = .ok (.goto (-34), 3))
theorem d_M_copy_39 : m_D k_M_copy 39 (.iconst 0) 1 := (by decide +kernel : decode prog_14_method_166_code 39 = .ok (.iconst 0, 1))
theorem d_M_copy_40 : m_D k_M_copy 40 (.istore_n 3) 1 := (by decide +kernel : decode prog_14_method_166_code 40 = .ok (.istore_n 3, 1))
theorem d_M_copy_41 : m_D k_M_copy 41 (.iload_n 3) 1 := (by decide +kernel : decode prog_14_method_166_code 41 = .ok (.iload_n 3, 1))
theorem d_M_copy_42 : m_D k_M_copy 42 (.bipush 14) 2 := (by decide +kernel : decode prog_14_method_166_code 42 = .ok (.bipush 14, 2))
theorem d_M_copy_44 : m_D k_M_copy 44 (.if_icmp .ge 31) 3 := (by decide +kernel : decode prog_14_method_166_code 44 = .ok (.if_icmp .ge 31, 3))
theorem d_M_copy_47 : m_D k_M_copy 47 (.aload_n 0) 1 := (by decide +kernel : decode prog_14_method_166_code 47 = .ok (.aload_n 0, 1))
theorem d_M_copy_48 : m_D k_M_copy 48 (.getfield 44) 3 := (by decide +kernel : decode prog_14_method_166_code 48 = .ok (.getfield 44, 3))
theorem d_M_copy_51 : m_D k_M_copy 51 (.bipush 14) 2 := (by decide +kernel : decode prog_14_method_166_code 51 = .ok (.bipush 14, 2))
theorem d_M_copy_53 : m_D k_M_copy 53 (.iload_n 2) 1 := (by decide +kernel : decode prog_14_method_166_code 53 = .ok (.iload_n 2, 1))
theorem d_M_copy_54 : m_D k_M_copy 54 (.imul) 1 := (by decide +kernel : decode prog_14_method_166_code 54 = .ok (.imul, 1))
theorem d_M_copy_55 : m_D k_M_copy 55 (.iload_n 3) 1 := (by decide +kernel : decode prog_14_method_166_code 55 = .ok (.iload_n 3, 1))
theorem d_M_copy_56 : m_D k_M_copy 56 (.iadd) 1 := (by decide +kernel : decode prog_14_method_166_code 56 = .ok (.iadd, 1))
theorem d_M_copy_57 : m_D k_M_copy 57 (.aload_n 0) 1 := (by decide +kernel : decode prog_14_method_166_code 57 = .ok (.aload_n 0, 1))
theorem d_M_copy_58 : m_D k_M_copy 58 (.getfield 44) 3 := (by decide +kernel : decode prog_14_method_166_code 58 = .ok (.getfield 44, 3))
theorem d_M_copy_61 : m_D k_M_copy 61 (.bipush 14) 2 := (by decide +kernel : decode prog_14_method_166_code 61 = .ok (.bipush 14, 2))
theorem d_M_copy_63 : m_D k_M_copy 63 (.iload_n 1) 1 := (by decide +kernel : decode prog_14_method_166_code 63 = .ok (.iload_n 1, 1))
theorem d_M_copy_64 : m_D k_M_copy 64 (.imul) 1 := (by decide +kernel : decode prog_14_method_166_code 64 = .ok (.imul, 1))
theorem d_M_copy_65 : m_D k_M_copy 65 (.iload_n 3) 1 := (by decide +kernel : decode prog_14_method_166_code 65 = .ok (.iload_n 3, 1))
theorem d_M_copy_66 : m_D k_M_copy 66 (.iadd) 1 := (by decide +kernel : decode prog_14_method_166_code 66 = .ok (.iadd, 1))
theorem d_M_copy_67 : m_D k_M_copy 67 (.laload) 1 := (by decide +kernel : decode prog_14_method_166_code 67 = .ok (.laload, 1))
theorem d_M_copy_68 : m_D k_M_copy 68 (.lastore) 1 := (by decide +kernel : decode prog_14_method_166_code 68 = .ok (.lastore, 1))
theorem d_M_copy_69 : m_D k_M_copy 69 (.iinc 3 1) 3 := (by decide +kernel : decode prog_14_method_166_code 69 = .ok (.iinc 3 1, 3))
theorem d_M_copy_72 : m_D k_M_copy 72 (.goto (-31)) 3 := (by decide +kernel : decode prog_14_method_166_code 72 = .ok (.goto (-31), 3))
theorem d_M_copy_75 : m_D k_M_copy 75 (.return_) 1 := (by decide +kernel : decode prog_14_method_166_code 75 = .ok (.return_, 1))
def fn_M_copy_l2 (x0 : Option mA) (x1 : Int32) (x2 : Int32) (t1 : Int32) : mP ((Int32) ⊕ (Unit)) :=
  if 377 ≤ t1 then
    m_rt (.inr ())
  else
    m_bd (m_gR 11 20 x0) fun v2 =>
    m_bd (m_gR 11 20 x0) fun v3 =>
    m_bd (m_aI 0 v3 ((377 * x1) + t1)) fun v4 =>
    m_bd (m_tI 0 v2 ((377 * x2) + t1) v4) fun _ =>
    m_rt (.inl (t1 + 1))
def fn_M_copy_l41 (x0 : Option mA) (x1 : Int32) (x2 : Int32) (t6 : Int32) : mP ((Int32) ⊕ (Unit)) :=
  if 14 ≤ t6 then
    m_rt (.inr ())
  else
    m_bd (m_gR 11 23 x0) fun v7 =>
    m_bd (m_gR 11 23 x0) fun v8 =>
    m_bd (m_aJ v8 ((14 * x1) + t6)) fun v9 =>
    m_bd (m_tJ v7 ((14 * x2) + t6) v9) fun _ =>
    m_rt (.inl (t6 + 1))
def fn_M_copy (x0 : Option mA) (x1 : Int32) (x2 : Int32) : mP Unit :=
  m_th 11 x0 <|
  m_bd (m_lp (fn_M_copy_l2 x0 x1 x2) m_F 0) fun (t5 : Unit) =>
  m_bd (m_lp (fn_M_copy_l41 x0 x1 x2) m_F 0) fun (t10 : Unit) =>
  m_rt ()
set_option maxHeartbeats 4000000 in
set_option maxRecDepth 100000 in
theorem sd_M_copy (x0 : Option mA) (x1 : Int32) (x2 : Int32) : m_Sm k_M_copy 1 0 0 [.inr (.inr x0), .inl x1, .inl x2] (fn_M_copy x0 x1 x2) (fun _ => none) := by
  refine ⟨Nat.le_of_ble_eq_true rfl, ?_⟩
  refine sm_th ?_
  refine sm_iconst (pc' := 1) d_M_copy_0 rfl ic_0 (sm_istore_n (i := 3) (L' := [(3, .inl 0), (0, .inr (.inr x0)), (1, .inl x1), (2, .inl x2)]) (pc' := 2) d_M_copy_1 rfl rfl (Nat.le_of_ble_eq_true rfl) rfl ?_)
  refine sm_sub [0, 1, 2, 3] rfl ?_
  refine sm_bd (mid := fun (t5 : Unit) => .inl (39, [(0, .inr (.inr x0)), (1, .inl x1), (2, .inl x2)], [])) (sm_lp (hd := fun (t1 : Int32) => (.inl (2, [(3, .inl t1), (0, .inr (.inr x0)), (1, .inl x1), (2, .inl x2)], []) : mC)) (fun t1 => ?_) m_F 0) (fun t5 => ?_)
  · refine sm_iload_n (i := 3) (j := 0) (pc' := 3) d_M_copy_2 rfl rfl rfl (sm_sipush (pc' := 6) d_M_copy_3 rfl is_377 ?_)
    refine sm_icmp_ge (tgt := 39) (pc' := 9) d_M_copy_6 rfl rfl ?_ ?_
    · refine sm_sub [1, 2, 3] rfl ?_
      exact sm_rt rfl
    · refine sm_aload_n (i := 0) (j := 1) (pc' := 10) d_M_copy_9 rfl rfl rfl ?_
      refine sm_getR (pc' := 13) d_M_copy_10 rfl fl_M_35 rfl rfl (fun v2 => ?_)
      refine sm_sipush (pc' := 16) d_M_copy_13 rfl is_377 (sm_iload_n (i := 2) (j := 3) (pc' := 17) d_M_copy_16 rfl rfl rfl (sm_imul (pc' := 18) d_M_copy_17 rfl (sm_iload_n (i := 3) (j := 0) (pc' := 19) d_M_copy_18 rfl rfl rfl (sm_iadd (pc' := 20) d_M_copy_19 rfl (sm_aload_n (i := 0) (j := 1) (pc' := 21) d_M_copy_20 rfl rfl rfl ?_)))))
      refine sm_getR (pc' := 24) d_M_copy_21 rfl fl_M_35 rfl rfl (fun v3 => ?_)
      refine sm_sipush (pc' := 27) d_M_copy_24 rfl is_377 (sm_iload_n (i := 1) (j := 2) (pc' := 28) d_M_copy_27 rfl rfl rfl (sm_imul (pc' := 29) d_M_copy_28 rfl (sm_iload_n (i := 3) (j := 0) (pc' := 30) d_M_copy_29 rfl rfl rfl (sm_iadd (pc' := 31) d_M_copy_30 rfl ?_))))
      refine sm_iald (pc' := 32) d_M_copy_31 rfl (fun v4 => ?_)
      refine sm_iast (pc' := 33) d_M_copy_32 rfl (sm_iinc (j := 0) (L' := [(3, .inl (t1 + 1)), (0, .inr (.inr x0)), (1, .inl x1), (2, .inl x2)]) (pc' := 36) d_M_copy_33 rfl (v := (t1 + 1)) rfl (ix_1 _) (Nat.le_of_ble_eq_true rfl) rfl (sm_goto (tgt := 2) d_M_copy_36 rfl (sm_sub [0, 1, 2, 3] rfl ?_)))
      exact sm_rt rfl
  · refine sm_iconst (pc' := 40) d_M_copy_39 rfl ic_0 (sm_istore_n (i := 3) (L' := [(3, .inl 0), (0, .inr (.inr x0)), (1, .inl x1), (2, .inl x2)]) (pc' := 41) d_M_copy_40 rfl rfl (Nat.le_of_ble_eq_true rfl) rfl ?_)
    refine sm_sub [0, 1, 2, 3] rfl ?_
    refine sm_bd (mid := fun (t10 : Unit) => .inl (75, [], [])) (sm_lp (hd := fun (t6 : Int32) => (.inl (41, [(3, .inl t6), (0, .inr (.inr x0)), (1, .inl x1), (2, .inl x2)], []) : mC)) (fun t6 => ?_) m_F 0) (fun t10 => ?_)
    · refine sm_iload_n (i := 3) (j := 0) (pc' := 42) d_M_copy_41 rfl rfl rfl (sm_bipush (pc' := 44) d_M_copy_42 rfl ib_14 ?_)
      refine sm_icmp_ge (tgt := 75) (pc' := 47) d_M_copy_44 rfl rfl ?_ ?_
      · refine sm_sub [] rfl ?_
        exact sm_rt rfl
      · refine sm_aload_n (i := 0) (j := 1) (pc' := 48) d_M_copy_47 rfl rfl rfl ?_
        refine sm_getR (pc' := 51) d_M_copy_48 rfl fl_M_44 rfl rfl (fun v7 => ?_)
        refine sm_bipush (pc' := 53) d_M_copy_51 rfl ib_14 (sm_iload_n (i := 2) (j := 3) (pc' := 54) d_M_copy_53 rfl rfl rfl (sm_imul (pc' := 55) d_M_copy_54 rfl (sm_iload_n (i := 3) (j := 0) (pc' := 56) d_M_copy_55 rfl rfl rfl (sm_iadd (pc' := 57) d_M_copy_56 rfl (sm_aload_n (i := 0) (j := 1) (pc' := 58) d_M_copy_57 rfl rfl rfl ?_)))))
        refine sm_getR (pc' := 61) d_M_copy_58 rfl fl_M_44 rfl rfl (fun v8 => ?_)
        refine sm_bipush (pc' := 63) d_M_copy_61 rfl ib_14 (sm_iload_n (i := 1) (j := 2) (pc' := 64) d_M_copy_63 rfl rfl rfl (sm_imul (pc' := 65) d_M_copy_64 rfl (sm_iload_n (i := 3) (j := 0) (pc' := 66) d_M_copy_65 rfl rfl rfl (sm_iadd (pc' := 67) d_M_copy_66 rfl ?_))))
        refine sm_lald (pc' := 68) d_M_copy_67 rfl (fun v9 => ?_)
        refine sm_last (pc' := 69) d_M_copy_68 rfl (sm_iinc (j := 0) (L' := [(3, .inl (t6 + 1)), (0, .inr (.inr x0)), (1, .inl x1), (2, .inl x2)]) (pc' := 72) d_M_copy_69 rfl (v := (t6 + 1)) rfl (ix_1 _) (Nat.le_of_ble_eq_true rfl) rfl (sm_goto (tgt := 41) d_M_copy_72 rfl (sm_sub [0, 1, 2, 3] rfl ?_)))
        exact sm_rt rfl
    · exact sm_return d_M_copy_75 rfl rfl
theorem d_M_isSign_0 : m_D k_M_isSign 0 (.aload_n 0) 1 := (by decide +kernel : decode prog_14_method_26_code 0 = .ok (.aload_n 0, 1))
theorem d_M_isSign_1 : m_D k_M_isSign 1 (.getfield 136) 3 := (by decide +kernel : decode prog_14_method_26_code 1 = .ok (.getfield 136, 3))
theorem d_M_isSign_4 : m_D k_M_isSign 4 (.iconst 3) 1 := (by decide +kernel : decode prog_14_method_26_code 4 = .ok (.iconst 3, 1))
theorem d_M_isSign_5 : m_D k_M_isSign 5 (.if_icmp .ne 15) 3 := (by decide +kernel : decode prog_14_method_26_code 5 = .ok (.if_icmp .ne 15, 3))
theorem d_M_isSign_8 : m_D k_M_isSign 8 (.aload_n 0) 1 := (by decide +kernel : decode prog_14_method_26_code 8 = .ok (.aload_n 0, 1))
theorem d_M_isSign_9 : m_D k_M_isSign 9 (.getfield 155) 3 := (by decide +kernel : decode prog_14_method_26_code 9 = .ok (.getfield 155, 3))
theorem d_M_isSign_12 : m_D k_M_isSign 12 (.iload_n 1) 1 := (by decide +kernel : decode prog_14_method_26_code 12 = .ok (.iload_n 1, 1))
theorem d_M_isSign_13 : m_D k_M_isSign 13 (.if_icmp .ne 7) 3 := (by decide +kernel : decode prog_14_method_26_code 13 = .ok (.if_icmp .ne 7, 3))
theorem d_M_isSign_16 : m_D k_M_isSign 16 (.iconst 1) 1 := (by decide +kernel : decode prog_14_method_26_code 16 = .ok (.iconst 1, 1))
theorem d_M_isSign_17 : m_D k_M_isSign 17 (.goto 4) 3 := (by decide +kernel : decode prog_14_method_26_code 17 = .ok (.goto 4, 3))
theorem d_M_isSign_20 : m_D k_M_isSign 20 (.iconst 0) 1 := (by decide +kernel : decode prog_14_method_26_code 20 = .ok (.iconst 0, 1))
theorem d_M_isSign_21 : m_D k_M_isSign 21 (.ireturn) 1 := (by decide +kernel : decode prog_14_method_26_code 21 = .ok (.ireturn, 1))
def fn_M_isSign (x0 : Option mA) (x1 : Int32) : mP Int32 :=
  m_th 11 x0 <|
  m_bd (m_gI 11 14 x0) fun v1 =>
  if v1 = 3 then
    m_bd (m_gI 11 17 x0) fun v2 =>
    if v2 = x1 then
      m_rt 1
    else
      m_rt 0
  else
    m_rt 0
set_option maxHeartbeats 4000000 in
set_option maxRecDepth 100000 in
theorem sd_M_isSign (x0 : Option mA) (x1 : Int32) : m_Sm k_M_isSign 1 0 0 [.inr (.inr x0), .inl x1] (fn_M_isSign x0 x1) (fun b => some (.inl b)) := by
  refine ⟨Nat.le_of_ble_eq_true rfl, ?_⟩
  refine sm_th ?_
  refine sm_aload_n (i := 0) (j := 0) (pc' := 1) d_M_isSign_0 rfl rfl rfl ?_
  refine sm_getI (pc' := 4) d_M_isSign_1 rfl fl_M_136 rfl ⟨by decide, by decide⟩ (fun v1 => ?_)
  refine sm_iconst (pc' := 5) d_M_isSign_4 rfl ic_3 ?_
  refine sm_icmp_ne (tgt := 20) (pc' := 8) d_M_isSign_5 rfl rfl ?_ ?_
  · refine sm_iconst (pc' := 21) d_M_isSign_20 rfl ic_0 ?_
    exact sm_zreturn d_M_isSign_21 rfl (by decide) rfl
  · refine sm_aload_n (i := 0) (j := 0) (pc' := 9) d_M_isSign_8 rfl rfl rfl ?_
    refine sm_getI (pc' := 12) d_M_isSign_9 rfl fl_M_155 rfl ⟨by decide, by decide⟩ (fun v2 => ?_)
    refine sm_iload_n (i := 1) (j := 1) (pc' := 13) d_M_isSign_12 rfl rfl rfl ?_
    refine sm_icmp_ne (tgt := 20) (pc' := 16) d_M_isSign_13 rfl rfl ?_ ?_
    · refine sm_iconst (pc' := 21) d_M_isSign_20 rfl ic_0 ?_
      exact sm_zreturn d_M_isSign_21 rfl (by decide) rfl
    · refine sm_iconst (pc' := 17) d_M_isSign_16 rfl ic_1 (sm_goto (tgt := 21) d_M_isSign_17 rfl ?_)
      exact sm_zreturn d_M_isSign_21 rfl (by decide) rfl
theorem d_M_isWell_0 : m_D k_M_isWell 0 (.aload_n 0) 1 := (by decide +kernel : decode prog_14_method_54_code 0 = .ok (.aload_n 0, 1))
theorem d_M_isWell_1 : m_D k_M_isWell 1 (.aload_n 0) 1 := (by decide +kernel : decode prog_14_method_54_code 1 = .ok (.aload_n 0, 1))
theorem d_M_isWell_2 : m_D k_M_isWell 2 (.getfield 218) 3 := (by decide +kernel : decode prog_14_method_54_code 2 = .ok (.getfield 218, 3))
theorem d_M_isWell_5 : m_D k_M_isWell 5 (.putfield 28) 3 := (by decide +kernel : decode prog_14_method_54_code 5 = .ok (.putfield 28, 3))
theorem d_M_isWell_8 : m_D k_M_isWell 8 (.aload_n 0) 1 := (by decide +kernel : decode prog_14_method_54_code 8 = .ok (.aload_n 0, 1))
theorem d_M_isWell_9 : m_D k_M_isWell 9 (.aload_n 0) 1 := (by decide +kernel : decode prog_14_method_54_code 9 = .ok (.aload_n 0, 1))
theorem d_M_isWell_10 : m_D k_M_isWell 10 (.getfield 218) 3 := (by decide +kernel : decode prog_14_method_54_code 10 = .ok (.getfield 218, 3))
theorem d_M_isWell_13 : m_D k_M_isWell 13 (.ifCond .ne 7) 3 := (by decide +kernel : decode prog_14_method_54_code 13 = .ok (.ifCond .ne 7, 3))
theorem d_M_isWell_16 : m_D k_M_isWell 16 (.iconst (-1)) 1 := (by decide +kernel : decode prog_14_method_54_code 16 = .ok (.iconst (-1), 1))
theorem d_M_isWell_17 : m_D k_M_isWell 17 (.goto 7) 3 := (by decide +kernel : decode prog_14_method_54_code 17 = .ok (.goto 7, 3))
theorem d_M_isWell_20 : m_D k_M_isWell 20 (.aload_n 0) 1 := (by decide +kernel : decode prog_14_method_54_code 20 = .ok (.aload_n 0, 1))
theorem d_M_isWell_21 : m_D k_M_isWell 21 (.getfield 221) 3 := (by decide +kernel : decode prog_14_method_54_code 21 = .ok (.getfield 221, 3))
theorem d_M_isWell_24 : m_D k_M_isWell 24 (.putfield 32) 3 := (by decide +kernel : decode prog_14_method_54_code 24 = .ok (.putfield 32, 3))
theorem d_M_isWell_27 : m_D k_M_isWell 27 (.aload_n 0) 1 := (by decide +kernel : decode prog_14_method_54_code 27 = .ok (.aload_n 0, 1))
theorem d_M_isWell_28 : m_D k_M_isWell 28 (.getfield 218) 3 := (by decide +kernel : decode prog_14_method_54_code 28 = .ok (.getfield 218, 3))
theorem d_M_isWell_31 : m_D k_M_isWell 31 (.ifCond .eq 12) 3 := (by decide +kernel : decode prog_14_method_54_code 31 = .ok (.ifCond .eq 12, 3))
theorem d_M_isWell_34 : m_D k_M_isWell 34 (.aload_n 0) 1 := (by decide +kernel : decode prog_14_method_54_code 34 = .ok (.aload_n 0, 1))
theorem d_M_isWell_35 : m_D k_M_isWell 35 (.bipush 10) 2 := (by decide +kernel : decode prog_14_method_54_code 35 = .ok (.bipush 10, 2))
theorem d_M_isWell_37 : m_D k_M_isWell 37 (.invokevirtual 96) 3 := (by decide +kernel : decode prog_14_method_54_code 37 = .ok (.invokevirtual 96, 3))
theorem d_M_isWell_40 : m_D k_M_isWell 40 (.ifCond .eq 7) 3 := (by decide +kernel : decode prog_14_method_54_code 40 = .ok (.ifCond .eq 7, 3))
theorem d_M_isWell_43 : m_D k_M_isWell 43 (.iconst 1) 1 := (by decide +kernel : decode prog_14_method_54_code 43 = .ok (.iconst 1, 1))
theorem d_M_isWell_44 : m_D k_M_isWell 44 (.goto 4) 3 := (by decide +kernel : decode prog_14_method_54_code 44 = .ok (.goto 4, 3))
theorem d_M_isWell_47 : m_D k_M_isWell 47 (.iconst 0) 1 := (by decide +kernel : decode prog_14_method_54_code 47 = .ok (.iconst 0, 1))
theorem d_M_isWell_48 : m_D k_M_isWell 48 (.ireturn) 1 := (by decide +kernel : decode prog_14_method_54_code 48 = .ok (.ireturn, 1))
def fn_M_isWell (x0 : Option mA) : mP Int32 :=
  m_th 11 x0 <|
  m_bd (m_gI 11 12 x0) fun v1 =>
  m_bd (m_pI 11 10 x0 v1) fun _ =>
  m_bd (m_gI 11 12 x0) fun v2 =>
  m_bd (α := Int32) (
    if v2 = 0 then
      m_rt (-1)
    else
      m_bd (m_gI 11 13 x0) fun v3 =>
      m_rt v3
    ) fun (t4 : Int32) =>
  m_bd (m_pI 11 11 x0 t4) fun _ =>
  m_bd (m_gI 11 12 x0) fun v5 =>
  if v5 = 0 then
    m_rt 1
  else
    m_bd (fn_M_no x0 10) fun v6 =>
    if v6 = 0 then
      m_rt 0
    else
      m_rt 1
set_option maxHeartbeats 4000000 in
set_option maxRecDepth 100000 in
theorem sd_M_isWell (x0 : Option mA) : m_Sm k_M_isWell 2 0 0 [.inr (.inr x0)] (fn_M_isWell x0) (fun b => some (.inl b)) := by
  refine ⟨Nat.le_of_ble_eq_true rfl, ?_⟩
  refine sm_th ?_
  refine sm_aload_n (i := 0) (j := 0) (pc' := 1) d_M_isWell_0 rfl rfl rfl (sm_aload_n (i := 0) (j := 0) (pc' := 2) d_M_isWell_1 rfl rfl rfl ?_)
  refine sm_getI (pc' := 5) d_M_isWell_2 rfl fl_M_218 rfl ⟨by decide, by decide⟩ (fun v1 => ?_)
  refine sm_putI (pc' := 8) d_M_isWell_5 rfl fl_M_28 (Or.inl rfl) rfl (sm_aload_n (i := 0) (j := 0) (pc' := 9) d_M_isWell_8 rfl rfl rfl (sm_aload_n (i := 0) (j := 0) (pc' := 10) d_M_isWell_9 rfl rfl rfl ?_))
  refine sm_getI (pc' := 13) d_M_isWell_10 rfl fl_M_218 rfl ⟨by decide, by decide⟩ (fun v2 => ?_)
  refine sm_bd (mid := fun (t4 : Int32) => .inl (24, [(0, .inr (.inr x0))], [.inl t4, .inr (.inr x0)])) ?_ (fun t4 => ?_)
  · refine sm_if_ne (tgt := 20) (pc' := 16) d_M_isWell_13 rfl rfl ?_ ?_
    · refine sm_aload_n (i := 0) (j := 0) (pc' := 21) d_M_isWell_20 rfl rfl rfl ?_
      refine sm_getI (pc' := 24) d_M_isWell_21 rfl fl_M_221 rfl ⟨by decide, by decide⟩ (fun v3 => ?_)
      refine sm_sub [0] rfl ?_
      exact sm_rt rfl
    · refine sm_iconst (pc' := 17) d_M_isWell_16 rfl ic_m1 (sm_goto (tgt := 24) d_M_isWell_17 rfl (sm_sub [0] rfl ?_))
      exact sm_rt rfl
  · refine sm_putI (pc' := 27) d_M_isWell_24 rfl fl_M_32 (Or.inl rfl) rfl (sm_aload_n (i := 0) (j := 0) (pc' := 28) d_M_isWell_27 rfl rfl rfl ?_)
    refine sm_getI (pc' := 31) d_M_isWell_28 rfl fl_M_218 rfl ⟨by decide, by decide⟩ (fun v5 => ?_)
    refine sm_if_eq (tgt := 43) (pc' := 34) d_M_isWell_31 rfl rfl ?_ ?_
    · refine sm_iconst (pc' := 44) d_M_isWell_43 rfl ic_1 (sm_goto (tgt := 48) d_M_isWell_44 rfl ?_)
      exact sm_zreturn d_M_isWell_48 rfl (by decide) rfl
    · refine sm_aload_n (i := 0) (j := 0) (pc' := 35) d_M_isWell_34 rfl rfl rfl (sm_bipush (pc' := 37) d_M_isWell_35 rfl ib_10 ?_)
      refine sm_callVi (ci := 11) (x := x0) (av := [.inl 10]) (st := []) (mc := 0) (ms := 0) (pc' := 40) d_M_isWell_37 rfl (sd_M_no x0 10) m_lv rfl cv_M_no w_ml_M_96 rfl rfl (by decide) (Nat.le_of_ble_eq_true rfl) rfl rfl (fun v6 => ?_)
      refine sm_if_eq (tgt := 47) (pc' := 43) d_M_isWell_40 rfl rfl ?_ ?_
      · refine sm_iconst (pc' := 48) d_M_isWell_47 rfl ic_0 ?_
        exact sm_zreturn d_M_isWell_48 rfl (by decide) rfl
      · refine sm_iconst (pc' := 44) d_M_isWell_43 rfl ic_1 (sm_goto (tgt := 48) d_M_isWell_44 rfl ?_)
        exact sm_zreturn d_M_isWell_48 rfl (by decide) rfl
theorem d_M_isDigit_0 : m_D k_M_isDigit 0 (.iload_n 0) 1 := (by decide +kernel : decode prog_14_method_23_code 0 = .ok (.iload_n 0, 1))
theorem d_M_isDigit_1 : m_D k_M_isDigit 1 (.bipush 48) 2 := (by decide +kernel : decode prog_14_method_23_code 1 = .ok (.bipush 48, 2))
theorem d_M_isDigit_3 : m_D k_M_isDigit 3 (.if_icmp .lt 13) 3 := (by decide +kernel : decode prog_14_method_23_code 3 = .ok (.if_icmp .lt 13, 3))
theorem d_M_isDigit_6 : m_D k_M_isDigit 6 (.iload_n 0) 1 := (by decide +kernel : decode prog_14_method_23_code 6 = .ok (.iload_n 0, 1))
theorem d_M_isDigit_7 : m_D k_M_isDigit 7 (.bipush 57) 2 := (by decide +kernel : decode prog_14_method_23_code 7 = .ok (.bipush 57, 2))
theorem d_M_isDigit_9 : m_D k_M_isDigit 9 (.if_icmp .gt 7) 3 := (by decide +kernel : decode prog_14_method_23_code 9 = .ok (.if_icmp .gt 7, 3))
theorem d_M_isDigit_12 : m_D k_M_isDigit 12 (.iconst 1) 1 := (by decide +kernel : decode prog_14_method_23_code 12 = .ok (.iconst 1, 1))
theorem d_M_isDigit_13 : m_D k_M_isDigit 13 (.goto 4) 3 := (by decide +kernel : decode prog_14_method_23_code 13 = .ok (.goto 4, 3))
theorem d_M_isDigit_16 : m_D k_M_isDigit 16 (.iconst 0) 1 := (by decide +kernel : decode prog_14_method_23_code 16 = .ok (.iconst 0, 1))
theorem d_M_isDigit_17 : m_D k_M_isDigit 17 (.ireturn) 1 := (by decide +kernel : decode prog_14_method_23_code 17 = .ok (.ireturn, 1))
def fn_M_isDigit (x0 : Int32) : mP Int32 :=
  if x0 < 48 then
    m_rt 0
  else
    if 57 < x0 then
      m_rt 0
    else
      m_rt 1
set_option maxHeartbeats 4000000 in
set_option maxRecDepth 100000 in
theorem sd_M_isDigit (x0 : Int32) : m_Sm k_M_isDigit 1 0 0 [.inl x0] (fn_M_isDigit x0) (fun b => some (.inl b)) := by
  refine ⟨Nat.le_of_ble_eq_true rfl, ?_⟩
  refine sm_iload_n (i := 0) (j := 0) (pc' := 1) d_M_isDigit_0 rfl rfl rfl (sm_bipush (pc' := 3) d_M_isDigit_1 rfl ib_48 ?_)
  refine sm_icmp_lt (tgt := 16) (pc' := 6) d_M_isDigit_3 rfl rfl ?_ ?_
  · refine sm_iconst (pc' := 17) d_M_isDigit_16 rfl ic_0 ?_
    exact sm_zreturn d_M_isDigit_17 rfl (by decide) rfl
  · refine sm_iload_n (i := 0) (j := 0) (pc' := 7) d_M_isDigit_6 rfl rfl rfl (sm_bipush (pc' := 9) d_M_isDigit_7 rfl ib_57 ?_)
    refine sm_icmp_gt (tgt := 16) (pc' := 12) d_M_isDigit_9 rfl rfl ?_ ?_
    · refine sm_iconst (pc' := 17) d_M_isDigit_16 rfl ic_0 ?_
      exact sm_zreturn d_M_isDigit_17 rfl (by decide) rfl
    · refine sm_iconst (pc' := 13) d_M_isDigit_12 rfl ic_1 (sm_goto (tgt := 17) d_M_isDigit_13 rfl ?_)
      exact sm_zreturn d_M_isDigit_17 rfl (by decide) rfl
theorem d_M_isLetter_0 : m_D k_M_isLetter 0 (.iload_n 0) 1 := (by decide +kernel : decode prog_14_method_22_code 0 = .ok (.iload_n 0, 1))
theorem d_M_isLetter_1 : m_D k_M_isLetter 1 (.bipush 97) 2 := (by decide +kernel : decode prog_14_method_22_code 1 = .ok (.bipush 97, 2))
theorem d_M_isLetter_3 : m_D k_M_isLetter 3 (.if_icmp .lt 13) 3 := (by decide +kernel : decode prog_14_method_22_code 3 = .ok (.if_icmp .lt 13, 3))
theorem d_M_isLetter_6 : m_D k_M_isLetter 6 (.iload_n 0) 1 := (by decide +kernel : decode prog_14_method_22_code 6 = .ok (.iload_n 0, 1))
theorem d_M_isLetter_7 : m_D k_M_isLetter 7 (.bipush 122) 2 := (by decide +kernel : decode prog_14_method_22_code 7 = .ok (.bipush 122, 2))
theorem d_M_isLetter_9 : m_D k_M_isLetter 9 (.if_icmp .gt 7) 3 := (by decide +kernel : decode prog_14_method_22_code 9 = .ok (.if_icmp .gt 7, 3))
theorem d_M_isLetter_12 : m_D k_M_isLetter 12 (.iconst 1) 1 := (by decide +kernel : decode prog_14_method_22_code 12 = .ok (.iconst 1, 1))
theorem d_M_isLetter_13 : m_D k_M_isLetter 13 (.goto 4) 3 := (by decide +kernel : decode prog_14_method_22_code 13 = .ok (.goto 4, 3))
theorem d_M_isLetter_16 : m_D k_M_isLetter 16 (.iconst 0) 1 := (by decide +kernel : decode prog_14_method_22_code 16 = .ok (.iconst 0, 1))
theorem d_M_isLetter_17 : m_D k_M_isLetter 17 (.ireturn) 1 := (by decide +kernel : decode prog_14_method_22_code 17 = .ok (.ireturn, 1))
def fn_M_isLetter (x0 : Int32) : mP Int32 :=
  if x0 < 97 then
    m_rt 0
  else
    if 122 < x0 then
      m_rt 0
    else
      m_rt 1
set_option maxHeartbeats 4000000 in
set_option maxRecDepth 100000 in
theorem sd_M_isLetter (x0 : Int32) : m_Sm k_M_isLetter 1 0 0 [.inl x0] (fn_M_isLetter x0) (fun b => some (.inl b)) := by
  refine ⟨Nat.le_of_ble_eq_true rfl, ?_⟩
  refine sm_iload_n (i := 0) (j := 0) (pc' := 1) d_M_isLetter_0 rfl rfl rfl (sm_bipush (pc' := 3) d_M_isLetter_1 rfl ib_97 ?_)
  refine sm_icmp_lt (tgt := 16) (pc' := 6) d_M_isLetter_3 rfl rfl ?_ ?_
  · refine sm_iconst (pc' := 17) d_M_isLetter_16 rfl ic_0 ?_
    exact sm_zreturn d_M_isLetter_17 rfl (by decide) rfl
  · refine sm_iload_n (i := 0) (j := 0) (pc' := 7) d_M_isLetter_6 rfl rfl rfl (sm_bipush (pc' := 9) d_M_isLetter_7 rfl ib_122 ?_)
    refine sm_icmp_gt (tgt := 16) (pc' := 12) d_M_isLetter_9 rfl rfl ?_ ?_
    · refine sm_iconst (pc' := 17) d_M_isLetter_16 rfl ic_0 ?_
      exact sm_zreturn d_M_isLetter_17 rfl (by decide) rfl
    · refine sm_iconst (pc' := 13) d_M_isLetter_12 rfl ic_1 (sm_goto (tgt := 17) d_M_isLetter_13 rfl ?_)
      exact sm_zreturn d_M_isLetter_17 rfl (by decide) rfl
theorem d_M_isSignByte_0 : m_D k_M_isSignByte 0 (.iload_n 1) 1 := (by decide +kernel : decode prog_14_method_24_code 0 = .ok (.iload_n 1, 1))
theorem d_M_isSignByte_1 : m_D k_M_isSignByte 1 (.bipush 59) 2 := (by decide +kernel : decode prog_14_method_24_code 1 = .ok (.bipush 59, 2))
theorem d_M_isSignByte_3 : m_D k_M_isSignByte 3 (.if_icmp .eq 21) 3 := (by decide +kernel : decode prog_14_method_24_code 3 = .ok (.if_icmp .eq 21, 3))
theorem d_M_isSignByte_6 : m_D k_M_isSignByte 6 (.iload_n 1) 1 := (by decide +kernel : decode prog_14_method_24_code 6 = .ok (.iload_n 1, 1))
theorem d_M_isSignByte_7 : m_D k_M_isSignByte 7 (.bipush 60) 2 := (by decide +kernel : decode prog_14_method_24_code 7 = .ok (.bipush 60, 2))
theorem d_M_isSignByte_9 : m_D k_M_isSignByte 9 (.if_icmp .eq 15) 3 := (by decide +kernel : decode prog_14_method_24_code 9 = .ok (.if_icmp .eq 15, 3))
theorem d_M_isSignByte_12 : m_D k_M_isSignByte 12 (.iload_n 1) 1 := (by decide +kernel : decode prog_14_method_24_code 12 = .ok (.iload_n 1, 1))
theorem d_M_isSignByte_13 : m_D k_M_isSignByte 13 (.bipush 62) 2 := (by decide +kernel : decode prog_14_method_24_code 13 = .ok (.bipush 62, 2))
theorem d_M_isSignByte_15 : m_D k_M_isSignByte 15 (.if_icmp .eq 9) 3 := (by decide +kernel : decode prog_14_method_24_code 15 = .ok (.if_icmp .eq 9, 3))
theorem d_M_isSignByte_18 : m_D k_M_isSignByte 18 (.iload_n 1) 1 := (by decide +kernel : decode prog_14_method_24_code 18 = .ok (.iload_n 1, 1))
theorem d_M_isSignByte_19 : m_D k_M_isSignByte 19 (.bipush 61) 2 := (by decide +kernel : decode prog_14_method_24_code 19 = .ok (.bipush 61, 2))
theorem d_M_isSignByte_21 : m_D k_M_isSignByte 21 (.if_icmp .ne 7) 3 := (by decide +kernel : decode prog_14_method_24_code 21 = .ok (.if_icmp .ne 7, 3))
theorem d_M_isSignByte_24 : m_D k_M_isSignByte 24 (.iconst 1) 1 := (by decide +kernel : decode prog_14_method_24_code 24 = .ok (.iconst 1, 1))
theorem d_M_isSignByte_25 : m_D k_M_isSignByte 25 (.goto 4) 3 := (by decide +kernel : decode prog_14_method_24_code 25 = .ok (.goto 4, 3))
theorem d_M_isSignByte_28 : m_D k_M_isSignByte 28 (.iconst 0) 1 := (by decide +kernel : decode prog_14_method_24_code 28 = .ok (.iconst 0, 1))
theorem d_M_isSignByte_29 : m_D k_M_isSignByte 29 (.ireturn) 1 := (by decide +kernel : decode prog_14_method_24_code 29 = .ok (.ireturn, 1))
def fn_M_isSignByte (x0 : Option mA) (x1 : Int32) : mP Int32 :=
  m_th 11 x0 <|
  if x1 = 59 then
    m_rt 1
  else
    if x1 = 60 then
      m_rt 1
    else
      if x1 = 62 then
        m_rt 1
      else
        if x1 = 61 then
          m_rt 1
        else
          m_rt 0
set_option maxHeartbeats 4000000 in
set_option maxRecDepth 100000 in
theorem sd_M_isSignByte (x0 : Option mA) (x1 : Int32) : m_Sm k_M_isSignByte 1 0 0 [.inr (.inr x0), .inl x1] (fn_M_isSignByte x0 x1) (fun b => some (.inl b)) := by
  refine ⟨Nat.le_of_ble_eq_true rfl, ?_⟩
  refine sm_th ?_
  refine sm_iload_n (i := 1) (j := 1) (pc' := 1) d_M_isSignByte_0 rfl rfl rfl (sm_bipush (pc' := 3) d_M_isSignByte_1 rfl ib_59 ?_)
  refine sm_icmp_eq (tgt := 24) (pc' := 6) d_M_isSignByte_3 rfl rfl ?_ ?_
  · refine sm_iconst (pc' := 25) d_M_isSignByte_24 rfl ic_1 (sm_goto (tgt := 29) d_M_isSignByte_25 rfl ?_)
    exact sm_zreturn d_M_isSignByte_29 rfl (by decide) rfl
  · refine sm_iload_n (i := 1) (j := 1) (pc' := 7) d_M_isSignByte_6 rfl rfl rfl (sm_bipush (pc' := 9) d_M_isSignByte_7 rfl ib_60 ?_)
    refine sm_icmp_eq (tgt := 24) (pc' := 12) d_M_isSignByte_9 rfl rfl ?_ ?_
    · refine sm_iconst (pc' := 25) d_M_isSignByte_24 rfl ic_1 (sm_goto (tgt := 29) d_M_isSignByte_25 rfl ?_)
      exact sm_zreturn d_M_isSignByte_29 rfl (by decide) rfl
    · refine sm_iload_n (i := 1) (j := 1) (pc' := 13) d_M_isSignByte_12 rfl rfl rfl (sm_bipush (pc' := 15) d_M_isSignByte_13 rfl ib_62 ?_)
      refine sm_icmp_eq (tgt := 24) (pc' := 18) d_M_isSignByte_15 rfl rfl ?_ ?_
      · refine sm_iconst (pc' := 25) d_M_isSignByte_24 rfl ic_1 (sm_goto (tgt := 29) d_M_isSignByte_25 rfl ?_)
        exact sm_zreturn d_M_isSignByte_29 rfl (by decide) rfl
      · refine sm_iload_n (i := 1) (j := 1) (pc' := 19) d_M_isSignByte_18 rfl rfl rfl (sm_bipush (pc' := 21) d_M_isSignByte_19 rfl ib_61 ?_)
        refine sm_icmp_ne (tgt := 28) (pc' := 24) d_M_isSignByte_21 rfl rfl ?_ ?_
        · refine sm_iconst (pc' := 29) d_M_isSignByte_28 rfl ic_0 ?_
          exact sm_zreturn d_M_isSignByte_29 rfl (by decide) rfl
        · refine sm_iconst (pc' := 25) d_M_isSignByte_24 rfl ic_1 (sm_goto (tgt := 29) d_M_isSignByte_25 rfl ?_)
          exact sm_zreturn d_M_isSignByte_29 rfl (by decide) rfl
theorem d_M_look2_0 : m_D k_M_look2 0 (.iload_n 1) 1 := (by decide +kernel : decode prog_14_method_21_code 0 = .ok (.iload_n 1, 1))
theorem d_M_look2_1 : m_D k_M_look2 1 (.aload_n 0) 1 := (by decide +kernel : decode prog_14_method_21_code 1 = .ok (.aload_n 0, 1))
theorem d_M_look2_2 : m_D k_M_look2 2 (.getfield 124) 3 := (by decide +kernel : decode prog_14_method_21_code 2 = .ok (.getfield 124, 3))
theorem d_M_look2_5 : m_D k_M_look2 5 (.if_icmp .ge 16) 3 := (by decide +kernel : decode prog_14_method_21_code 5 = .ok (.if_icmp .ge 16, 3))
theorem d_M_look2_8 : m_D k_M_look2 8 (.aload_n 0) 1 := (by decide +kernel : decode prog_14_method_21_code 8 = .ok (.aload_n 0, 1))
theorem d_M_look2_9 : m_D k_M_look2 9 (.getfield 24) 3 := (by decide +kernel : decode prog_14_method_21_code 9 = .ok (.getfield 24, 3))
theorem d_M_look2_12 : m_D k_M_look2 12 (.iload_n 1) 1 := (by decide +kernel : decode prog_14_method_21_code 12 = .ok (.iload_n 1, 1))
theorem d_M_look2_13 : m_D k_M_look2 13 (.baload) 1 := (by decide +kernel : decode prog_14_method_21_code 13 = .ok (.baload, 1))
theorem d_M_look2_14 : m_D k_M_look2 14 (.sipush 255) 3 := (by decide +kernel : decode prog_14_method_21_code 14 = .ok (.sipush 255, 3))
theorem d_M_look2_17 : m_D k_M_look2 17 (.iand) 1 := (by decide +kernel : decode prog_14_method_21_code 17 = .ok (.iand, 1))
theorem d_M_look2_18 : m_D k_M_look2 18 (.goto 4) 3 := (by decide +kernel : decode prog_14_method_21_code 18 = .ok (.goto 4, 3))
theorem d_M_look2_21 : m_D k_M_look2 21 (.iconst 0) 1 := (by decide +kernel : decode prog_14_method_21_code 21 = .ok (.iconst 0, 1))
theorem d_M_look2_22 : m_D k_M_look2 22 (.ireturn) 1 := (by decide +kernel : decode prog_14_method_21_code 22 = .ok (.ireturn, 1))
def fn_M_look2 (x0 : Option mA) (x1 : Int32) : mP Int32 :=
  m_th 11 x0 <|
  m_bd (m_gI 11 9 x0) fun v1 =>
  if v1 ≤ x1 then
    m_rt 0
  else
    m_bd (m_gR 11 7 x0) fun v2 =>
    m_bd (m_aI 2 v2 x1) fun v3 =>
    m_rt (v3 &&& 255)
set_option maxHeartbeats 4000000 in
set_option maxRecDepth 100000 in
theorem sd_M_look2 (x0 : Option mA) (x1 : Int32) : m_Sm k_M_look2 1 0 0 [.inr (.inr x0), .inl x1] (fn_M_look2 x0 x1) (fun b => some (.inl b)) := by
  refine ⟨Nat.le_of_ble_eq_true rfl, ?_⟩
  refine sm_th ?_
  refine sm_iload_n (i := 1) (j := 1) (pc' := 1) d_M_look2_0 rfl rfl rfl (sm_aload_n (i := 0) (j := 0) (pc' := 2) d_M_look2_1 rfl rfl rfl ?_)
  refine sm_getI (pc' := 5) d_M_look2_2 rfl fl_M_124 rfl ⟨by decide, by decide⟩ (fun v1 => ?_)
  refine sm_icmp_ge (tgt := 21) (pc' := 8) d_M_look2_5 rfl rfl ?_ ?_
  · refine sm_iconst (pc' := 22) d_M_look2_21 rfl ic_0 ?_
    exact sm_ireturn d_M_look2_22 rfl rfl
  · refine sm_aload_n (i := 0) (j := 0) (pc' := 9) d_M_look2_8 rfl rfl rfl ?_
    refine sm_getR (pc' := 12) d_M_look2_9 rfl fl_M_24 rfl rfl (fun v2 => ?_)
    refine sm_iload_n (i := 1) (j := 1) (pc' := 13) d_M_look2_12 rfl rfl rfl ?_
    refine sm_bald (pc' := 14) d_M_look2_13 rfl (fun v3 => ?_)
    refine sm_sipush (pc' := 17) d_M_look2_14 rfl is_255 (sm_iand (pc' := 18) d_M_look2_17 rfl (sm_goto (tgt := 22) d_M_look2_18 rfl ?_))
    exact sm_ireturn d_M_look2_22 rfl rfl
theorem d_M_advance_0 : m_D k_M_advance 0 (.aload_n 0) 1 := (by decide +kernel : decode prog_14_method_25_code 0 = .ok (.aload_n 0, 1))
theorem d_M_advance_1 : m_D k_M_advance 1 (.aload_n 0) 1 := (by decide +kernel : decode prog_14_method_25_code 1 = .ok (.aload_n 0, 1))
theorem d_M_advance_2 : m_D k_M_advance 2 (.getfield 127) 3 := (by decide +kernel : decode prog_14_method_25_code 2 = .ok (.getfield 127, 3))
theorem d_M_advance_5 : m_D k_M_advance 5 (.putfield 130) 3 := (by decide +kernel : decode prog_14_method_25_code 5 = .ok (.putfield 130, 3))
theorem d_M_advance_8 : m_D k_M_advance 8 (.aload_n 0) 1 := (by decide +kernel : decode prog_14_method_25_code 8 = .ok (.aload_n 0, 1))
theorem d_M_advance_9 : m_D k_M_advance 9 (.getfield 130) 3 := (by decide +kernel : decode prog_14_method_25_code 9 = .ok (.getfield 130, 3))
theorem d_M_advance_12 : m_D k_M_advance 12 (.aload_n 0) 1 := (by decide +kernel : decode prog_14_method_25_code 12 = .ok (.aload_n 0, 1))
theorem d_M_advance_13 : m_D k_M_advance 13 (.getfield 124) 3 := (by decide +kernel : decode prog_14_method_25_code 13 = .ok (.getfield 124, 3))
theorem d_M_advance_16 : m_D k_M_advance 16 (.if_icmp .ge 42) 3 := (by decide +kernel : decode prog_14_method_25_code 16 = .ok (.if_icmp .ge 42, 3))
theorem d_M_advance_19 : m_D k_M_advance 19 (.aload_n 0) 1 := (by decide +kernel : decode prog_14_method_25_code 19 = .ok (.aload_n 0, 1))
theorem d_M_advance_20 : m_D k_M_advance 20 (.aload_n 0) 1 := (by decide +kernel : decode prog_14_method_25_code 20 = .ok (.aload_n 0, 1))
theorem d_M_advance_21 : m_D k_M_advance 21 (.getfield 130) 3 := (by decide +kernel : decode prog_14_method_25_code 21 = .ok (.getfield 130, 3))
theorem d_M_advance_24 : m_D k_M_advance 24 (.invokevirtual 133) 3 := (by decide +kernel : decode prog_14_method_25_code 24 = .ok (.invokevirtual 133, 3))
theorem d_M_advance_27 : m_D k_M_advance 27 (.bipush 10) 2 := (by decide +kernel : decode prog_14_method_25_code 27 = .ok (.bipush 10, 2))
theorem d_M_advance_29 : m_D k_M_advance 29 (.if_icmp .eq 16) 3 := (by decide +kernel : decode prog_14_method_25_code 29 = .ok (.if_icmp .eq 16, 3))
theorem d_M_advance_32 : m_D k_M_advance 32 (.aload_n 0) 1 := (by decide +kernel : decode prog_14_method_25_code 32 = .ok (.aload_n 0, 1))
theorem d_M_advance_33 : m_D k_M_advance 33 (.aload_n 0) 1 := (by decide +kernel : decode prog_14_method_25_code 33 = .ok (.aload_n 0, 1))
theorem d_M_advance_34 : m_D k_M_advance 34 (.getfield 130) 3 := (by decide +kernel : decode prog_14_method_25_code 34 = .ok (.getfield 130, 3))
theorem d_M_advance_37 : m_D k_M_advance 37 (.invokevirtual 133) 3 := (by decide +kernel : decode prog_14_method_25_code 37 = .ok (.invokevirtual 133, 3))
theorem d_M_advance_40 : m_D k_M_advance 40 (.bipush 32) 2 := (by decide +kernel : decode prog_14_method_25_code 40 = .ok (.bipush 32, 2))
theorem d_M_advance_42 : m_D k_M_advance 42 (.if_icmp .ne 16) 3 := (by decide +kernel : decode prog_14_method_25_code 42 = .ok (.if_icmp .ne 16, 3))
theorem d_M_advance_45 : m_D k_M_advance 45 (.aload_n 0) 1 := (by decide +kernel : decode prog_14_method_25_code 45 = .ok (.aload_n 0, 1))
theorem d_M_advance_46 : m_D k_M_advance 46 (.dup) 1 := (by decide +kernel : decode prog_14_method_25_code 46 = .ok (.dup, 1))
theorem d_M_advance_47 : m_D k_M_advance 47 (.getfield 130) 3 := (by decide +kernel : decode prog_14_method_25_code 47 = .ok (.getfield 130, 3))
theorem d_M_advance_50 : m_D k_M_advance 50 (.iconst 1) 1 := (by decide +kernel : decode prog_14_method_25_code 50 = .ok (.iconst 1, 1))
theorem d_M_advance_51 : m_D k_M_advance 51 (.iadd) 1 := (by decide +kernel : decode prog_14_method_25_code 51 = .ok (.iadd, 1))
theorem d_M_advance_52 : m_D k_M_advance 52 (.putfield 130) 3 := (by decide +kernel : decode prog_14_method_25_code 52 = .ok (.putfield 130, 3))
theorem d_M_advance_55 : m_D k_M_advance 55 (.goto (-47)) 3 := (by decide +kernel : decode prog_14_method_25_code 55 = .ok (.goto (-47), 3))
theorem d_M_advance_58 : m_D k_M_advance 58 (.aload_n 0) 1 := (by decide +kernel : decode prog_14_method_25_code 58 = .ok (.aload_n 0, 1))
theorem d_M_advance_59 : m_D k_M_advance 59 (.aload_n 0) 1 := (by decide +kernel : decode prog_14_method_25_code 59 = .ok (.aload_n 0, 1))
theorem d_M_advance_60 : m_D k_M_advance 60 (.getfield 130) 3 := (by decide +kernel : decode prog_14_method_25_code 60 = .ok (.getfield 130, 3))
theorem d_M_advance_63 : m_D k_M_advance 63 (.putfield 127) 3 := (by decide +kernel : decode prog_14_method_25_code 63 = .ok (.putfield 127, 3))
theorem d_M_advance_66 : m_D k_M_advance 66 (.aload_n 0) 1 := (by decide +kernel : decode prog_14_method_25_code 66 = .ok (.aload_n 0, 1))
theorem d_M_advance_67 : m_D k_M_advance 67 (.getfield 130) 3 := (by decide +kernel : decode prog_14_method_25_code 67 = .ok (.getfield 130, 3))
theorem d_M_advance_70 : m_D k_M_advance 70 (.aload_n 0) 1 := (by decide +kernel : decode prog_14_method_25_code 70 = .ok (.aload_n 0, 1))
theorem d_M_advance_71 : m_D k_M_advance 71 (.getfield 124) 3 := (by decide +kernel : decode prog_14_method_25_code 71 = .ok (.getfield 124, 3))
theorem d_M_advance_74 : m_D k_M_advance 74 (.if_icmp .lt 9) 3 := (by decide +kernel : decode prog_14_method_25_code 74 = .ok (.if_icmp .lt 9, 3))
theorem d_M_advance_77 : m_D k_M_advance 77 (.aload_n 0) 1 := (by decide +kernel : decode prog_14_method_25_code 77 = .ok (.aload_n 0, 1))
theorem d_M_advance_78 : m_D k_M_advance 78 (.iconst 0) 1 := (by decide +kernel : decode prog_14_method_25_code 78 = .ok (.iconst 0, 1))
theorem d_M_advance_79 : m_D k_M_advance 79 (.putfield 136) 3 := (by decide +kernel : decode prog_14_method_25_code 79 = .ok (.putfield 136, 3))
theorem d_M_advance_82 : m_D k_M_advance 82 (.return_) 1 := (by decide +kernel : decode prog_14_method_25_code 82 = .ok (.return_, 1))
theorem d_M_advance_83 : m_D k_M_advance 83 (.aload_n 0) 1 := (by decide +kernel : decode prog_14_method_25_code 83 = .ok (.aload_n 0, 1))
theorem d_M_advance_84 : m_D k_M_advance 84 (.aload_n 0) 1 := (by decide +kernel : decode prog_14_method_25_code 84 = .ok (.aload_n 0, 1))
theorem d_M_advance_85 : m_D k_M_advance 85 (.getfield 130) 3 := (by decide +kernel : decode prog_14_method_25_code 85 = .ok (.getfield 130, 3))
theorem d_M_advance_88 : m_D k_M_advance 88 (.invokevirtual 133) 3 := (by decide +kernel : decode prog_14_method_25_code 88 = .ok (.invokevirtual 133, 3))
theorem d_M_advance_91 : m_D k_M_advance 91 (.istore_n 1) 1 := (by decide +kernel : decode prog_14_method_25_code 91 = .ok (.istore_n 1, 1))
theorem d_M_advance_92 : m_D k_M_advance 92 (.iload_n 1) 1 := (by decide +kernel : decode prog_14_method_25_code 92 = .ok (.iload_n 1, 1))
theorem d_M_advance_93 : m_D k_M_advance 93 (.invokestatic 139) 3 := (by decide +kernel : decode prog_14_method_25_code 93 = .ok (.invokestatic 139, 3))
theorem d_M_advance_96 : m_D k_M_advance 96 (.ifCond .eq 102) 3 := (by decide +kernel : decode prog_14_method_25_code 96 = .ok (.ifCond .eq 102, 3))
theorem d_M_advance_99 : m_D k_M_advance 99 (.aload_n 0) 1 := (by decide +kernel : decode prog_14_method_25_code 99 = .ok (.aload_n 0, 1))
theorem d_M_advance_100 : m_D k_M_advance 100 (.iconst 1) 1 := (by decide +kernel : decode prog_14_method_25_code 100 = .ok (.iconst 1, 1))
theorem d_M_advance_101 : m_D k_M_advance 101 (.putfield 136) 3 := (by decide +kernel : decode prog_14_method_25_code 101 = .ok (.putfield 136, 3))
theorem d_M_advance_104 : m_D k_M_advance 104 (.aload_n 0) 1 := (by decide +kernel : decode prog_14_method_25_code 104 = .ok (.aload_n 0, 1))
theorem d_M_advance_105 : m_D k_M_advance 105 (.lconst 0) 1 := (by decide +kernel : decode prog_14_method_25_code 105 = .ok (.lconst 0, 1))
theorem d_M_advance_106 : m_D k_M_advance 106 (.putfield 142) 3 := (by decide +kernel : decode prog_14_method_25_code 106 = .ok (.putfield 142, 3))
theorem d_M_advance_109 : m_D k_M_advance 109 (.aload_n 0) 1 := (by decide +kernel : decode prog_14_method_25_code 109 = .ok (.aload_n 0, 1))
theorem d_M_advance_110 : m_D k_M_advance 110 (.aload_n 0) 1 := (by decide +kernel : decode prog_14_method_25_code 110 = .ok (.aload_n 0, 1))
theorem d_M_advance_111 : m_D k_M_advance 111 (.getfield 127) 3 := (by decide +kernel : decode prog_14_method_25_code 111 = .ok (.getfield 127, 3))
theorem d_M_advance_114 : m_D k_M_advance 114 (.invokevirtual 133) 3 := (by decide +kernel : decode prog_14_method_25_code 114 = .ok (.invokevirtual 133, 3))
theorem d_M_advance_117 : m_D k_M_advance 117 (.invokestatic 139) 3 := (by decide +kernel : decode prog_14_method_25_code 117 = .ok (.invokestatic 139, 3))
theorem d_M_advance_120 : m_D k_M_advance 120 (.ifCond .eq 62) 3 := (by decide +kernel : decode prog_14_method_25_code 120 = .ok (.ifCond .eq 62, 3))
theorem d_M_advance_123 : m_D k_M_advance 123 (.aload_n 0) 1 := (by decide +kernel : decode prog_14_method_25_code 123 = .ok (.aload_n 0, 1))
theorem d_M_advance_124 : m_D k_M_advance 124 (.aload_n 0) 1 := (by decide +kernel : decode prog_14_method_25_code 124 = .ok (.aload_n 0, 1))
theorem d_M_advance_125 : m_D k_M_advance 125 (.getfield 127) 3 := (by decide +kernel : decode prog_14_method_25_code 125 = .ok (.getfield 127, 3))
theorem d_M_advance_128 : m_D k_M_advance 128 (.aload_n 0) 1 := (by decide +kernel : decode prog_14_method_25_code 128 = .ok (.aload_n 0, 1))
theorem d_M_advance_129 : m_D k_M_advance 129 (.getfield 130) 3 := (by decide +kernel : decode prog_14_method_25_code 129 = .ok (.getfield 130, 3))
theorem d_M_advance_132 : m_D k_M_advance 132 (.isub) 1 := (by decide +kernel : decode prog_14_method_25_code 132 = .ok (.isub, 1))
theorem d_M_advance_133 : m_D k_M_advance 133 (.bipush 8) 2 := (by decide +kernel : decode prog_14_method_25_code 133 = .ok (.bipush 8, 2))
theorem d_M_advance_135 : m_D k_M_advance 135 (.if_icmp .ge 28) 3 := (by decide +kernel : decode prog_14_method_25_code 135 = .ok (.if_icmp .ge 28, 3))
theorem d_M_advance_138 : m_D k_M_advance 138 (.aload_n 0) 1 := (by decide +kernel : decode prog_14_method_25_code 138 = .ok (.aload_n 0, 1))
theorem d_M_advance_139 : m_D k_M_advance 139 (.getfield 142) 3 := (by decide +kernel : decode prog_14_method_25_code 139 = .ok (.getfield 142, 3))
theorem d_M_advance_142 : m_D k_M_advance 142 (.ldc2_w 145) 3 := (by decide +kernel : decode prog_14_method_25_code 142 = .ok (.ldc2_w 145, 3))
theorem d_M_advance_145 : m_D k_M_advance 145 (.lmul) 1 := (by decide +kernel : decode prog_14_method_25_code 145 = .ok (.lmul, 1))
theorem d_M_advance_146 : m_D k_M_advance 146 (.aload_n 0) 1 := (by decide +kernel : decode prog_14_method_25_code 146 = .ok (.aload_n 0, 1))
theorem d_M_advance_147 : m_D k_M_advance 147 (.aload_n 0) 1 := (by decide +kernel : decode prog_14_method_25_code 147 = .ok (.aload_n 0, 1))
theorem d_M_advance_148 : m_D k_M_advance 148 (.getfield 127) 3 := (by decide +kernel : decode prog_14_method_25_code 148 = .ok (.getfield 127, 3))
theorem d_M_advance_151 : m_D k_M_advance 151 (.invokevirtual 133) 3 := (by decide +kernel : decode prog_14_method_25_code 151 = .ok (.invokevirtual 133, 3))
theorem d_M_advance_154 : m_D k_M_advance 154 (.i2l) 1 := (by decide +kernel : decode prog_14_method_25_code 154 = .ok (.i2l, 1))
theorem d_M_advance_155 : m_D k_M_advance 155 (.ladd) 1 := (by decide +kernel : decode prog_14_method_25_code 155 = .ok (.ladd, 1))
theorem d_M_advance_156 : m_D k_M_advance 156 (.ldc2_w 147) 3 := (by decide +kernel : decode prog_14_method_25_code 156 = .ok (.ldc2_w 147, 3))
theorem d_M_advance_159 : m_D k_M_advance 159 (.lsub) 1 := (by decide +kernel : decode prog_14_method_25_code 159 = .ok (.lsub, 1))
theorem d_M_advance_160 : m_D k_M_advance 160 (.goto 6) 3 := (by decide +kernel : decode prog_14_method_25_code 160 = .ok (.goto 6, 3))
theorem d_M_advance_163 : m_D k_M_advance 163 (.ldc2_w 112) 3 := (by decide +kernel : decode prog_14_method_25_code 163 = .ok (.ldc2_w 112, 3))
theorem d_M_advance_166 : m_D k_M_advance 166 (.putfield 142) 3 := (by decide +kernel : decode prog_14_method_25_code 166 = .ok (.putfield 142, 3))
theorem d_M_advance_169 : m_D k_M_advance 169 (.aload_n 0) 1 := (by decide +kernel : decode prog_14_method_25_code 169 = .ok (.aload_n 0, 1))
theorem d_M_advance_170 : m_D k_M_advance 170 (.dup) 1 := (by decide +kernel : decode prog_14_method_25_code 170 = .ok (.dup, 1))
theorem d_M_advance_171 : m_D k_M_advance 171 (.getfield 127) 3 := (by decide +kernel : decode prog_14_method_25_code 171 = .ok (.getfield 127, 3))
theorem d_M_advance_174 : m_D k_M_advance 174 (.iconst 1) 1 := (by decide +kernel : decode prog_14_method_25_code 174 = .ok (.iconst 1, 1))
theorem d_M_advance_175 : m_D k_M_advance 175 (.iadd) 1 := (by decide +kernel : decode prog_14_method_25_code 175 = .ok (.iadd, 1))
theorem d_M_advance_176 : m_D k_M_advance 176 (.putfield 127) 3 := (by decide +kernel : decode prog_14_method_25_code 176 = .ok (.putfield 127, 3))
theorem d_M_advance_179 : m_D k_M_advance 179 (.goto (-70)) 3 := (by decide +kernel : decode prog_14_method_25_code 179 = .ok (.goto (-70), 3))
theorem d_M_advance_182 : m_D k_M_advance 182 (.aload_n 0) 1 := (by decide +kernel : decode prog_14_method_25_code 182 = .ok (.aload_n 0, 1))
theorem d_M_advance_183 : m_D k_M_advance 183 (.aload_n 0) 1 := (by decide +kernel : decode prog_14_method_25_code 183 = .ok (.aload_n 0, 1))
theorem d_M_advance_184 : m_D k_M_advance 184 (.getfield 127) 3 := (by decide +kernel : decode prog_14_method_25_code 184 = .ok (.getfield 127, 3))
theorem d_M_advance_187 : m_D k_M_advance 187 (.aload_n 0) 1 := (by decide +kernel : decode prog_14_method_25_code 187 = .ok (.aload_n 0, 1))
theorem d_M_advance_188 : m_D k_M_advance 188 (.getfield 130) 3 := (by decide +kernel : decode prog_14_method_25_code 188 = .ok (.getfield 130, 3))
theorem d_M_advance_191 : m_D k_M_advance 191 (.isub) 1 := (by decide +kernel : decode prog_14_method_25_code 191 = .ok (.isub, 1))
theorem d_M_advance_192 : m_D k_M_advance 192 (.putfield 149) 3 := (by decide +kernel : decode prog_14_method_25_code 192 = .ok (.putfield 149, 3))
theorem d_M_advance_195 : m_D k_M_advance 195 (.goto 135) 3 := (by decide +kernel : decode prog_14_method_25_code 195 = .ok (.goto 135, 3))
theorem d_M_advance_198 : m_D k_M_advance 198 (.iload_n 1) 1 := (by decide +kernel : decode prog_14_method_25_code 198 = .ok (.iload_n 1, 1))
theorem d_M_advance_199 : m_D k_M_advance 199 (.invokestatic 152) 3 := (by decide +kernel : decode prog_14_method_25_code 199 = .ok (.invokestatic 152, 3))
theorem d_M_advance_202 : m_D k_M_advance 202 (.ifCond .eq 96) 3 := (by decide +kernel : decode prog_14_method_25_code 202 = .ok (.ifCond .eq 96, 3))
theorem d_M_advance_205 : m_D k_M_advance 205 (.aload_n 0) 1 := (by decide +kernel : decode prog_14_method_25_code 205 = .ok (.aload_n 0, 1))
theorem d_M_advance_206 : m_D k_M_advance 206 (.iconst 0) 1 := (by decide +kernel : decode prog_14_method_25_code 206 = .ok (.iconst 0, 1))
theorem d_M_advance_207 : m_D k_M_advance 207 (.putfield 155) 3 := (by decide +kernel : decode prog_14_method_25_code 207 = .ok (.putfield 155, 3))
theorem d_M_advance_210 : m_D k_M_advance 210 (.aload_n 0) 1 := (by decide +kernel : decode prog_14_method_25_code 210 = .ok (.aload_n 0, 1))
theorem d_M_advance_211 : m_D k_M_advance 211 (.aload_n 0) 1 := (by decide +kernel : decode prog_14_method_25_code 211 = .ok (.aload_n 0, 1))
theorem d_M_advance_212 : m_D k_M_advance 212 (.getfield 127) 3 := (by decide +kernel : decode prog_14_method_25_code 212 = .ok (.getfield 127, 3))
theorem d_M_advance_215 : m_D k_M_advance 215 (.invokevirtual 133) 3 := (by decide +kernel : decode prog_14_method_25_code 215 = .ok (.invokevirtual 133, 3))
theorem d_M_advance_218 : m_D k_M_advance 218 (.invokestatic 152) 3 := (by decide +kernel : decode prog_14_method_25_code 218 = .ok (.invokestatic 152, 3))
theorem d_M_advance_221 : m_D k_M_advance 221 (.ifCond .eq 52) 3 := (by decide +kernel : decode prog_14_method_25_code 221 = .ok (.ifCond .eq 52, 3))
theorem d_M_advance_224 : m_D k_M_advance 224 (.aload_n 0) 1 := (by decide +kernel : decode prog_14_method_25_code 224 = .ok (.aload_n 0, 1))
theorem d_M_advance_225 : m_D k_M_advance 225 (.getfield 127) 3 := (by decide +kernel : decode prog_14_method_25_code 225 = .ok (.getfield 127, 3))
theorem d_M_advance_228 : m_D k_M_advance 228 (.aload_n 0) 1 := (by decide +kernel : decode prog_14_method_25_code 228 = .ok (.aload_n 0, 1))
theorem d_M_advance_229 : m_D k_M_advance 229 (.getfield 130) 3 := (by decide +kernel : decode prog_14_method_25_code 229 = .ok (.getfield 130, 3))
theorem d_M_advance_232 : m_D k_M_advance 232 (.isub) 1 := (by decide +kernel : decode prog_14_method_25_code 232 = .ok (.isub, 1))
theorem d_M_advance_233 : m_D k_M_advance 233 (.iconst 4) 1 := (by decide +kernel : decode prog_14_method_25_code 233 = .ok (.iconst 4, 1))
theorem d_M_advance_234 : m_D k_M_advance 234 (.if_icmp .ge 26) 3 := (by decide +kernel : decode prog_14_method_25_code 234 = .ok (.if_icmp .ge 26, 3))
theorem d_M_advance_237 : m_D k_M_advance 237 (.aload_n 0) 1 := (by decide +kernel : decode prog_14_method_25_code 237 = .ok (.aload_n 0, 1))
theorem d_M_advance_238 : m_D k_M_advance 238 (.bipush 10) 2 := (by decide +kernel : decode prog_14_method_25_code 238 = .ok (.bipush 10, 2))
theorem d_M_advance_240 : m_D k_M_advance 240 (.aload_n 0) 1 := (by decide +kernel : decode prog_14_method_25_code 240 = .ok (.aload_n 0, 1))
theorem d_M_advance_241 : m_D k_M_advance 241 (.getfield 155) 3 := (by decide +kernel : decode prog_14_method_25_code 241 = .ok (.getfield 155, 3))
theorem d_M_advance_244 : m_D k_M_advance 244 (.imul) 1 := (by decide +kernel : decode prog_14_method_25_code 244 = .ok (.imul, 1))
theorem d_M_advance_245 : m_D k_M_advance 245 (.aload_n 0) 1 := (by decide +kernel : decode prog_14_method_25_code 245 = .ok (.aload_n 0, 1))
theorem d_M_advance_246 : m_D k_M_advance 246 (.aload_n 0) 1 := (by decide +kernel : decode prog_14_method_25_code 246 = .ok (.aload_n 0, 1))
theorem d_M_advance_247 : m_D k_M_advance 247 (.getfield 127) 3 := (by decide +kernel : decode prog_14_method_25_code 247 = .ok (.getfield 127, 3))
theorem d_M_advance_250 : m_D k_M_advance 250 (.invokevirtual 133) 3 := (by decide +kernel : decode prog_14_method_25_code 250 = .ok (.invokevirtual 133, 3))
theorem d_M_advance_253 : m_D k_M_advance 253 (.iadd) 1 := (by decide +kernel : decode prog_14_method_25_code 253 = .ok (.iadd, 1))
theorem d_M_advance_254 : m_D k_M_advance 254 (.bipush 48) 2 := (by decide +kernel : decode prog_14_method_25_code 254 = .ok (.bipush 48, 2))
theorem d_M_advance_256 : m_D k_M_advance 256 (.isub) 1 := (by decide +kernel : decode prog_14_method_25_code 256 = .ok (.isub, 1))
theorem d_M_advance_257 : m_D k_M_advance 257 (.putfield 155) 3 := (by decide +kernel : decode prog_14_method_25_code 257 = .ok (.putfield 155, 3))
theorem d_M_advance_260 : m_D k_M_advance 260 (.aload_n 0) 1 := (by decide +kernel : decode prog_14_method_25_code 260 = .ok (.aload_n 0, 1))
theorem d_M_advance_261 : m_D k_M_advance 261 (.dup) 1 := (by decide +kernel : decode prog_14_method_25_code 261 = .ok (.dup, 1))
theorem d_M_advance_262 : m_D k_M_advance 262 (.getfield 127) 3 := (by decide +kernel : decode prog_14_method_25_code 262 = .ok (.getfield 127, 3))
theorem d_M_advance_265 : m_D k_M_advance 265 (.iconst 1) 1 := (by decide +kernel : decode prog_14_method_25_code 265 = .ok (.iconst 1, 1))
theorem d_M_advance_266 : m_D k_M_advance 266 (.iadd) 1 := (by decide +kernel : decode prog_14_method_25_code 266 = .ok (.iadd, 1))
theorem d_M_advance_267 : m_D k_M_advance 267 (.putfield 127) 3 := (by decide +kernel : decode prog_14_method_25_code 267 = .ok (.putfield 127, 3))
theorem d_M_advance_270 : m_D k_M_advance 270 (.goto (-60)) 3 := (by decide +kernel : decode prog_14_method_25_code 270 = .ok (.goto (-60), 3))
theorem d_M_advance_273 : m_D k_M_advance 273 (.aload_n 0) 1 := (by decide +kernel : decode prog_14_method_25_code 273 = .ok (.aload_n 0, 1))
theorem d_M_advance_274 : m_D k_M_advance 274 (.aload_n 0) 1 := (by decide +kernel : decode prog_14_method_25_code 274 = .ok (.aload_n 0, 1))
theorem d_M_advance_275 : m_D k_M_advance 275 (.getfield 127) 3 := (by decide +kernel : decode prog_14_method_25_code 275 = .ok (.getfield 127, 3))
theorem d_M_advance_278 : m_D k_M_advance 278 (.aload_n 0) 1 := (by decide +kernel : decode prog_14_method_25_code 278 = .ok (.aload_n 0, 1))
theorem d_M_advance_279 : m_D k_M_advance 279 (.getfield 130) 3 := (by decide +kernel : decode prog_14_method_25_code 279 = .ok (.getfield 130, 3))
theorem d_M_advance_282 : m_D k_M_advance 282 (.isub) 1 := (by decide +kernel : decode prog_14_method_25_code 282 = .ok (.isub, 1))
theorem d_M_advance_283 : m_D k_M_advance 283 (.iconst 4) 1 := (by decide +kernel : decode prog_14_method_25_code 283 = .ok (.iconst 4, 1))
theorem d_M_advance_284 : m_D k_M_advance 284 (.if_icmp .le 7) 3 := (by decide +kernel : decode prog_14_method_25_code 284 = .ok (.if_icmp .le 7, 3))
theorem d_M_advance_287 : m_D k_M_advance 287 (.iconst 4) 1 := (by decide +kernel : decode prog_14_method_25_code 287 = .ok (.iconst 4, 1))
theorem d_M_advance_288 : m_D k_M_advance 288 (.goto 4) 3 := (by decide +kernel : decode prog_14_method_25_code 288 = .ok (.goto 4, 3))
theorem d_M_advance_291 : m_D k_M_advance 291 (.iconst 2) 1 := (by decide +kernel : decode prog_14_method_25_code 291 = .ok (.iconst 2, 1))
theorem d_M_advance_292 : m_D k_M_advance 292 (.putfield 136) 3 := (by decide +kernel : decode prog_14_method_25_code 292 = .ok (.putfield 136, 3))
theorem d_M_advance_295 : m_D k_M_advance 295 (.goto 35) 3 := (by decide +kernel : decode prog_14_method_25_code 295 = .ok (.goto 35, 3))
theorem d_M_advance_298 : m_D k_M_advance 298 (.aload_n 0) 1 := (by decide +kernel : decode prog_14_method_25_code 298 = .ok (.aload_n 0, 1))
theorem d_M_advance_299 : m_D k_M_advance 299 (.aload_n 0) 1 := (by decide +kernel : decode prog_14_method_25_code 299 = .ok (.aload_n 0, 1))
theorem d_M_advance_300 : m_D k_M_advance 300 (.getfield 130) 3 := (by decide +kernel : decode prog_14_method_25_code 300 = .ok (.getfield 130, 3))
theorem d_M_advance_303 : m_D k_M_advance 303 (.iconst 1) 1 := (by decide +kernel : decode prog_14_method_25_code 303 = .ok (.iconst 1, 1))
theorem d_M_advance_304 : m_D k_M_advance 304 (.iadd) 1 := (by decide +kernel : decode prog_14_method_25_code 304 = .ok (.iadd, 1))
theorem d_M_advance_305 : m_D k_M_advance 305 (.putfield 127) 3 := (by decide +kernel : decode prog_14_method_25_code 305 = .ok (.putfield 127, 3))
theorem d_M_advance_308 : m_D k_M_advance 308 (.aload_n 0) 1 := (by decide +kernel : decode prog_14_method_25_code 308 = .ok (.aload_n 0, 1))
theorem d_M_advance_309 : m_D k_M_advance 309 (.iload_n 1) 1 := (by decide +kernel : decode prog_14_method_25_code 309 = .ok (.iload_n 1, 1))
theorem d_M_advance_310 : m_D k_M_advance 310 (.putfield 155) 3 := (by decide +kernel : decode prog_14_method_25_code 310 = .ok (.putfield 155, 3))
theorem d_M_advance_313 : m_D k_M_advance 313 (.aload_n 0) 1 := (by decide +kernel : decode prog_14_method_25_code 313 = .ok (.aload_n 0, 1))
theorem d_M_advance_314 : m_D k_M_advance 314 (.aload_n 0) 1 := (by decide +kernel : decode prog_14_method_25_code 314 = .ok (.aload_n 0, 1))
theorem d_M_advance_315 : m_D k_M_advance 315 (.iload_n 1) 1 := (by decide +kernel : decode prog_14_method_25_code 315 = .ok (.iload_n 1, 1))
theorem d_M_advance_316 : m_D k_M_advance 316 (.invokevirtual 158) 3 := (by decide +kernel : decode prog_14_method_25_code 316 = .ok (.invokevirtual 158, 3))
theorem d_M_advance_319 : m_D k_M_advance 319 (.ifCond .eq 7) 3 := (by decide +kernel : decode prog_14_method_25_code 319 = .ok (.ifCond .eq 7, 3))
theorem d_M_advance_322 : m_D k_M_advance 322 (.iconst 3) 1 := (by decide +kernel : decode prog_14_method_25_code 322 = .ok (.iconst 3, 1))
theorem d_M_advance_323 : m_D k_M_advance 323 (.goto 4) 3 := (by decide +kernel : decode prog_14_method_25_code 323 = .ok (.goto 4, 3))
theorem d_M_advance_326 : m_D k_M_advance 326 (.iconst 4) 1 := (by decide +kernel : decode prog_14_method_25_code 326 = .ok (.iconst 4, 1))
theorem d_M_advance_327 : m_D k_M_advance 327 (.putfield 136) 3 := (by decide +kernel : decode prog_14_method_25_code 327 = .ok (.putfield 136, 3))
theorem d_M_advance_330 : m_D k_M_advance 330 (.return_) 1 := (by decide +kernel : decode prog_14_method_25_code 330 = .ok (.return_, 1))
def fn_M_advance_l8 (x0 : Option mA) (t2 : Unit) : mP ((Unit) ⊕ (Unit)) :=
  m_bd (m_gI 11 15 x0) fun v3 =>
  m_bd (m_gI 11 9 x0) fun v4 =>
  if v4 ≤ v3 then
    m_rt (.inr ())
  else
    m_bd (m_gI 11 15 x0) fun v5 =>
    m_bd (fn_M_look2 x0 v5) fun v6 =>
    if v6 = 10 then
      m_bd (m_gI 11 15 x0) fun v7 =>
      m_bd (m_pI 11 15 x0 (v7 + 1)) fun _ =>
      m_rt (.inl ())
    else
      m_bd (m_gI 11 15 x0) fun v8 =>
      m_bd (fn_M_look2 x0 v8) fun v9 =>
      if v9 = 32 then
        m_bd (m_gI 11 15 x0) fun v10 =>
        m_bd (m_pI 11 15 x0 (v10 + 1)) fun _ =>
        m_rt (.inl ())
      else
        m_rt (.inr ())
def fn_M_advance_l210 (x0 : Option mA) (t21 : Unit) : mP ((Unit) ⊕ (Unit)) :=
  m_bd (m_gI 11 16 x0) fun v22 =>
  m_bd (fn_M_look2 x0 v22) fun v23 =>
  m_bd (fn_M_isDigit v23) fun v24 =>
  if v24 = 0 then
    m_rt (.inr ())
  else
    m_bd (m_gI 11 16 x0) fun v25 =>
    m_bd (m_gI 11 15 x0) fun v26 =>
    m_bd (α := Unit) (
      if 4 ≤ (v25 - v26) then
        m_rt ()
      else
        m_bd (m_gI 11 17 x0) fun v27 =>
        m_bd (m_gI 11 16 x0) fun v28 =>
        m_bd (fn_M_look2 x0 v28) fun v29 =>
        m_bd (m_pI 11 17 x0 (((10 * v27) + v29) - 48)) fun _ =>
        m_rt ()
      ) fun (t30 : Unit) =>
    m_bd (m_gI 11 16 x0) fun v31 =>
    m_bd (m_pI 11 16 x0 (v31 + 1)) fun _ =>
    m_rt (.inl ())
def fn_M_advance_l109 (x0 : Option mA) (t35 : Unit) : mP ((Unit) ⊕ (Unit)) :=
  m_bd (m_gI 11 16 x0) fun v36 =>
  m_bd (fn_M_look2 x0 v36) fun v37 =>
  m_bd (fn_M_isLetter v37) fun v38 =>
  if v38 = 0 then
    m_rt (.inr ())
  else
    m_bd (m_gI 11 16 x0) fun v39 =>
    m_bd (m_gI 11 15 x0) fun v40 =>
    m_bd (α := Int64) (
      if 8 ≤ (v39 - v40) then
        m_rt (-1)
      else
        m_bd (m_gJ 11 19 x0) fun v41 =>
        m_bd (m_gI 11 16 x0) fun v42 =>
        m_bd (fn_M_look2 x0 v42) fun v43 =>
        m_rt (((v41 * 32) + (v43).toInt64) - 96)
      ) fun (t44 : Int64) =>
    m_bd (m_pJ 11 19 x0 t44) fun _ =>
    m_bd (m_gI 11 16 x0) fun v45 =>
    m_bd (m_pI 11 16 x0 (v45 + 1)) fun _ =>
    m_rt (.inl ())
def fn_M_advance (x0 : Option mA) : mP Unit :=
  m_th 11 x0 <|
  m_bd (m_gI 11 16 x0) fun v1 =>
  m_bd (m_pI 11 15 x0 v1) fun _ =>
  m_bd (m_lp (fn_M_advance_l8 x0) m_F ()) fun (t11 : Unit) =>
  m_bd (m_gI 11 15 x0) fun v12 =>
  m_bd (m_pI 11 16 x0 v12) fun _ =>
  m_bd (m_gI 11 15 x0) fun v13 =>
  m_bd (m_gI 11 9 x0) fun v14 =>
  if v13 < v14 then
    m_bd (m_gI 11 15 x0) fun v15 =>
    m_bd (fn_M_look2 x0 v15) fun v16 =>
    m_bd (fn_M_isLetter v16) fun v17 =>
    if v17 = 0 then
      m_bd (fn_M_isDigit v16) fun v18 =>
      if v18 = 0 then
        m_bd (m_gI 11 15 x0) fun v19 =>
        m_bd (m_pI 11 16 x0 (v19 + 1)) fun _ =>
        m_bd (m_pI 11 17 x0 v16) fun _ =>
        m_bd (fn_M_isSignByte x0 v16) fun v20 =>
        if v20 = 0 then
          m_bd (m_pI 11 14 x0 4) fun _ =>
          m_rt ()
        else
          m_bd (m_pI 11 14 x0 3) fun _ =>
          m_rt ()
      else
        m_bd (m_pI 11 17 x0 0) fun _ =>
        m_bd (m_lp (fn_M_advance_l210 x0) m_F ()) fun (t32 : Unit) =>
        m_bd (m_gI 11 16 x0) fun v33 =>
        m_bd (m_gI 11 15 x0) fun v34 =>
        if (v33 - v34) ≤ 4 then
          m_bd (m_pI 11 14 x0 2) fun _ =>
          m_rt ()
        else
          m_bd (m_pI 11 14 x0 4) fun _ =>
          m_rt ()
    else
      m_bd (m_pI 11 14 x0 1) fun _ =>
      m_bd (m_pJ 11 19 x0 0) fun _ =>
      m_bd (m_lp (fn_M_advance_l109 x0) m_F ()) fun (t46 : Unit) =>
      m_bd (m_gI 11 16 x0) fun v47 =>
      m_bd (m_gI 11 15 x0) fun v48 =>
      m_bd (m_pI 11 18 x0 (v47 - v48)) fun _ =>
      m_rt ()
  else
    m_bd (m_pI 11 14 x0 0) fun _ =>
    m_rt ()
set_option maxHeartbeats 4000000 in
set_option maxRecDepth 100000 in
theorem sd_M_advance (x0 : Option mA) : m_Sm k_M_advance 2 0 0 [.inr (.inr x0)] (fn_M_advance x0) (fun _ => none) := by
  refine ⟨Nat.le_of_ble_eq_true rfl, ?_⟩
  refine sm_th ?_
  refine sm_aload_n (i := 0) (j := 0) (pc' := 1) d_M_advance_0 rfl rfl rfl (sm_aload_n (i := 0) (j := 0) (pc' := 2) d_M_advance_1 rfl rfl rfl ?_)
  refine sm_getI (pc' := 5) d_M_advance_2 rfl fl_M_127 rfl ⟨by decide, by decide⟩ (fun v1 => ?_)
  refine sm_putI (pc' := 8) d_M_advance_5 rfl fl_M_130 (Or.inl rfl) rfl ?_
  refine sm_sub [0] rfl ?_
  refine sm_bd (mid := fun (t11 : Unit) => .inl (58, [(0, .inr (.inr x0))], [])) (sm_lp (hd := fun (t2 : Unit) => (.inl (8, [(0, .inr (.inr x0))], []) : mC)) (fun t2 => ?_) m_F ()) (fun t11 => ?_)
  · refine sm_aload_n (i := 0) (j := 0) (pc' := 9) d_M_advance_8 rfl rfl rfl ?_
    refine sm_getI (pc' := 12) d_M_advance_9 rfl fl_M_130 rfl ⟨by decide, by decide⟩ (fun v3 => ?_)
    refine sm_aload_n (i := 0) (j := 0) (pc' := 13) d_M_advance_12 rfl rfl rfl ?_
    refine sm_getI (pc' := 16) d_M_advance_13 rfl fl_M_124 rfl ⟨by decide, by decide⟩ (fun v4 => ?_)
    refine sm_icmp_ge (tgt := 58) (pc' := 19) d_M_advance_16 rfl rfl ?_ ?_
    · refine sm_sub [0] rfl ?_
      exact sm_rt rfl
    · refine sm_aload_n (i := 0) (j := 0) (pc' := 20) d_M_advance_19 rfl rfl rfl (sm_aload_n (i := 0) (j := 0) (pc' := 21) d_M_advance_20 rfl rfl rfl ?_)
      refine sm_getI (pc' := 24) d_M_advance_21 rfl fl_M_130 rfl ⟨by decide, by decide⟩ (fun v5 => ?_)
      refine sm_callVi (ci := 11) (x := x0) (av := [.inl v5]) (st := []) (mc := 0) (ms := 0) (pc' := 27) d_M_advance_24 rfl (sd_M_look2 x0 v5) m_lv rfl cv_M_look2 w_ml_M_133 rfl rfl (by decide) (Nat.le_of_ble_eq_true rfl) rfl rfl (fun v6 => ?_)
      refine sm_bipush (pc' := 29) d_M_advance_27 rfl ib_10 ?_
      refine sm_icmp_eq (tgt := 45) (pc' := 32) d_M_advance_29 rfl rfl ?_ ?_
      · refine sm_aload_n (i := 0) (j := 0) (pc' := 46) d_M_advance_45 rfl rfl rfl (sm_dup (pc' := 47) d_M_advance_46 rfl rfl ?_)
        refine sm_getI (pc' := 50) d_M_advance_47 rfl fl_M_130 rfl ⟨by decide, by decide⟩ (fun v7 => ?_)
        refine sm_iconst (pc' := 51) d_M_advance_50 rfl ic_1 (sm_iadd (pc' := 52) d_M_advance_51 rfl (sm_putI (pc' := 55) d_M_advance_52 rfl fl_M_130 (Or.inl rfl) rfl (sm_goto (tgt := 8) d_M_advance_55 rfl (sm_sub [0] rfl ?_))))
        exact sm_rt rfl
      · refine sm_aload_n (i := 0) (j := 0) (pc' := 33) d_M_advance_32 rfl rfl rfl (sm_aload_n (i := 0) (j := 0) (pc' := 34) d_M_advance_33 rfl rfl rfl ?_)
        refine sm_getI (pc' := 37) d_M_advance_34 rfl fl_M_130 rfl ⟨by decide, by decide⟩ (fun v8 => ?_)
        refine sm_callVi (ci := 11) (x := x0) (av := [.inl v8]) (st := []) (mc := 0) (ms := 0) (pc' := 40) d_M_advance_37 rfl (sd_M_look2 x0 v8) m_lv rfl cv_M_look2 w_ml_M_133 rfl rfl (by decide) (Nat.le_of_ble_eq_true rfl) rfl rfl (fun v9 => ?_)
        refine sm_bipush (pc' := 42) d_M_advance_40 rfl ib_32 ?_
        refine sm_icmp_ne (tgt := 58) (pc' := 45) d_M_advance_42 rfl rfl ?_ ?_
        · refine sm_sub [0] rfl ?_
          exact sm_rt rfl
        · refine sm_aload_n (i := 0) (j := 0) (pc' := 46) d_M_advance_45 rfl rfl rfl (sm_dup (pc' := 47) d_M_advance_46 rfl rfl ?_)
          refine sm_getI (pc' := 50) d_M_advance_47 rfl fl_M_130 rfl ⟨by decide, by decide⟩ (fun v10 => ?_)
          refine sm_iconst (pc' := 51) d_M_advance_50 rfl ic_1 (sm_iadd (pc' := 52) d_M_advance_51 rfl (sm_putI (pc' := 55) d_M_advance_52 rfl fl_M_130 (Or.inl rfl) rfl (sm_goto (tgt := 8) d_M_advance_55 rfl (sm_sub [0] rfl ?_))))
          exact sm_rt rfl
  · refine sm_aload_n (i := 0) (j := 0) (pc' := 59) d_M_advance_58 rfl rfl rfl (sm_aload_n (i := 0) (j := 0) (pc' := 60) d_M_advance_59 rfl rfl rfl ?_)
    refine sm_getI (pc' := 63) d_M_advance_60 rfl fl_M_130 rfl ⟨by decide, by decide⟩ (fun v12 => ?_)
    refine sm_putI (pc' := 66) d_M_advance_63 rfl fl_M_127 (Or.inl rfl) rfl (sm_aload_n (i := 0) (j := 0) (pc' := 67) d_M_advance_66 rfl rfl rfl ?_)
    refine sm_getI (pc' := 70) d_M_advance_67 rfl fl_M_130 rfl ⟨by decide, by decide⟩ (fun v13 => ?_)
    refine sm_aload_n (i := 0) (j := 0) (pc' := 71) d_M_advance_70 rfl rfl rfl ?_
    refine sm_getI (pc' := 74) d_M_advance_71 rfl fl_M_124 rfl ⟨by decide, by decide⟩ (fun v14 => ?_)
    refine sm_icmp_lt (tgt := 83) (pc' := 77) d_M_advance_74 rfl rfl ?_ ?_
    · refine sm_aload_n (i := 0) (j := 0) (pc' := 84) d_M_advance_83 rfl rfl rfl (sm_aload_n (i := 0) (j := 0) (pc' := 85) d_M_advance_84 rfl rfl rfl ?_)
      refine sm_getI (pc' := 88) d_M_advance_85 rfl fl_M_130 rfl ⟨by decide, by decide⟩ (fun v15 => ?_)
      refine sm_callVi (ci := 11) (x := x0) (av := [.inl v15]) (st := []) (mc := 0) (ms := 0) (pc' := 91) d_M_advance_88 rfl (sd_M_look2 x0 v15) m_lv rfl cv_M_look2 w_ml_M_133 rfl rfl (by decide) (Nat.le_of_ble_eq_true rfl) rfl rfl (fun v16 => ?_)
      refine sm_istore_n (i := 1) (L' := [(1, .inl v16), (0, .inr (.inr x0))]) (pc' := 92) d_M_advance_91 rfl rfl (Nat.le_of_ble_eq_true rfl) rfl (sm_iload_n (i := 1) (j := 0) (pc' := 93) d_M_advance_92 rfl rfl rfl ?_)
      refine sm_callSi (av := [.inl v16]) (st := []) (mc := 0) (ms := 0) (pc' := 96) d_M_advance_93 rfl (sd_M_isLetter v16) cs_M_isLetter w_ml_M_139 rfl rfl (by decide) (Nat.le_of_ble_eq_true rfl) rfl rfl (fun v17 => ?_)
      refine sm_if_eq (tgt := 198) (pc' := 99) d_M_advance_96 rfl rfl ?_ ?_
      · refine sm_iload_n (i := 1) (j := 0) (pc' := 199) d_M_advance_198 rfl rfl rfl ?_
        refine sm_callSi (av := [.inl v16]) (st := []) (mc := 0) (ms := 0) (pc' := 202) d_M_advance_199 rfl (sd_M_isDigit v16) cs_M_isDigit w_ml_M_152 rfl rfl (by decide) (Nat.le_of_ble_eq_true rfl) rfl rfl (fun v18 => ?_)
        refine sm_if_eq (tgt := 298) (pc' := 205) d_M_advance_202 rfl rfl ?_ ?_
        · refine sm_aload_n (i := 0) (j := 1) (pc' := 299) d_M_advance_298 rfl rfl rfl (sm_aload_n (i := 0) (j := 1) (pc' := 300) d_M_advance_299 rfl rfl rfl ?_)
          refine sm_getI (pc' := 303) d_M_advance_300 rfl fl_M_130 rfl ⟨by decide, by decide⟩ (fun v19 => ?_)
          refine sm_iconst (pc' := 304) d_M_advance_303 rfl ic_1 (sm_iadd (pc' := 305) d_M_advance_304 rfl (sm_putI (pc' := 308) d_M_advance_305 rfl fl_M_127 (Or.inl rfl) rfl (sm_aload_n (i := 0) (j := 1) (pc' := 309) d_M_advance_308 rfl rfl rfl (sm_iload_n (i := 1) (j := 0) (pc' := 310) d_M_advance_309 rfl rfl rfl (sm_putI (pc' := 313) d_M_advance_310 rfl fl_M_155 (Or.inl rfl) rfl (sm_aload_n (i := 0) (j := 1) (pc' := 314) d_M_advance_313 rfl rfl rfl (sm_aload_n (i := 0) (j := 1) (pc' := 315) d_M_advance_314 rfl rfl rfl (sm_iload_n (i := 1) (j := 0) (pc' := 316) d_M_advance_315 rfl rfl rfl ?_))))))))
          refine sm_callVi (ci := 11) (x := x0) (av := [.inl v16]) (st := [.inr (.inr x0)]) (mc := 0) (ms := 0) (pc' := 319) d_M_advance_316 rfl (sd_M_isSignByte x0 v16) m_lv rfl cv_M_isSignByte w_ml_M_158 rfl rfl (by decide) (Nat.le_of_ble_eq_true rfl) rfl rfl (fun v20 => ?_)
          refine sm_if_eq (tgt := 326) (pc' := 322) d_M_advance_319 rfl rfl ?_ ?_
          · refine sm_iconst (pc' := 327) d_M_advance_326 rfl ic_4 (sm_putI (pc' := 330) d_M_advance_327 rfl fl_M_136 (Or.inl rfl) rfl ?_)
            exact sm_return d_M_advance_330 rfl rfl
          · refine sm_iconst (pc' := 323) d_M_advance_322 rfl ic_3 (sm_goto (tgt := 327) d_M_advance_323 rfl (sm_putI (pc' := 330) d_M_advance_327 rfl fl_M_136 (Or.inl rfl) rfl ?_))
            exact sm_return d_M_advance_330 rfl rfl
        · refine sm_aload_n (i := 0) (j := 1) (pc' := 206) d_M_advance_205 rfl rfl rfl (sm_iconst (pc' := 207) d_M_advance_206 rfl ic_0 (sm_putI (pc' := 210) d_M_advance_207 rfl fl_M_155 (Or.inl rfl) rfl ?_))
          refine sm_sub [1] rfl ?_
          refine sm_bd (mid := fun (t32 : Unit) => .inl (273, [(0, .inr (.inr x0))], [])) (sm_lp (hd := fun (t21 : Unit) => (.inl (210, [(0, .inr (.inr x0))], []) : mC)) (fun t21 => ?_) m_F ()) (fun t32 => ?_)
          · refine sm_aload_n (i := 0) (j := 0) (pc' := 211) d_M_advance_210 rfl rfl rfl (sm_aload_n (i := 0) (j := 0) (pc' := 212) d_M_advance_211 rfl rfl rfl ?_)
            refine sm_getI (pc' := 215) d_M_advance_212 rfl fl_M_127 rfl ⟨by decide, by decide⟩ (fun v22 => ?_)
            refine sm_callVi (ci := 11) (x := x0) (av := [.inl v22]) (st := []) (mc := 0) (ms := 0) (pc' := 218) d_M_advance_215 rfl (sd_M_look2 x0 v22) m_lv rfl cv_M_look2 w_ml_M_133 rfl rfl (by decide) (Nat.le_of_ble_eq_true rfl) rfl rfl (fun v23 => ?_)
            refine sm_callSi (av := [.inl v23]) (st := []) (mc := 0) (ms := 0) (pc' := 221) d_M_advance_218 rfl (sd_M_isDigit v23) cs_M_isDigit w_ml_M_152 rfl rfl (by decide) (Nat.le_of_ble_eq_true rfl) rfl rfl (fun v24 => ?_)
            refine sm_if_eq (tgt := 273) (pc' := 224) d_M_advance_221 rfl rfl ?_ ?_
            · refine sm_sub [0] rfl ?_
              exact sm_rt rfl
            · refine sm_aload_n (i := 0) (j := 0) (pc' := 225) d_M_advance_224 rfl rfl rfl ?_
              refine sm_getI (pc' := 228) d_M_advance_225 rfl fl_M_127 rfl ⟨by decide, by decide⟩ (fun v25 => ?_)
              refine sm_aload_n (i := 0) (j := 0) (pc' := 229) d_M_advance_228 rfl rfl rfl ?_
              refine sm_getI (pc' := 232) d_M_advance_229 rfl fl_M_130 rfl ⟨by decide, by decide⟩ (fun v26 => ?_)
              refine sm_isub (pc' := 233) d_M_advance_232 rfl (sm_iconst (pc' := 234) d_M_advance_233 rfl ic_4 ?_)
              refine sm_bd (mid := fun (t30 : Unit) => .inl (260, [(0, .inr (.inr x0))], [])) ?_ (fun t30 => ?_)
              · refine sm_icmp_ge (tgt := 260) (pc' := 237) d_M_advance_234 rfl rfl ?_ ?_
                · refine sm_sub [0] rfl ?_
                  exact sm_rt rfl
                · refine sm_aload_n (i := 0) (j := 0) (pc' := 238) d_M_advance_237 rfl rfl rfl (sm_bipush (pc' := 240) d_M_advance_238 rfl ib_10 (sm_aload_n (i := 0) (j := 0) (pc' := 241) d_M_advance_240 rfl rfl rfl ?_))
                  refine sm_getI (pc' := 244) d_M_advance_241 rfl fl_M_155 rfl ⟨by decide, by decide⟩ (fun v27 => ?_)
                  refine sm_imul (pc' := 245) d_M_advance_244 rfl (sm_aload_n (i := 0) (j := 0) (pc' := 246) d_M_advance_245 rfl rfl rfl (sm_aload_n (i := 0) (j := 0) (pc' := 247) d_M_advance_246 rfl rfl rfl ?_))
                  refine sm_getI (pc' := 250) d_M_advance_247 rfl fl_M_127 rfl ⟨by decide, by decide⟩ (fun v28 => ?_)
                  refine sm_callVi (ci := 11) (x := x0) (av := [.inl v28]) (st := [.inl (10 * v27), .inr (.inr x0)]) (mc := 0) (ms := 0) (pc' := 253) d_M_advance_250 rfl (sd_M_look2 x0 v28) m_lv rfl cv_M_look2 w_ml_M_133 rfl rfl (by decide) (Nat.le_of_ble_eq_true rfl) rfl rfl (fun v29 => ?_)
                  refine sm_iadd (pc' := 254) d_M_advance_253 rfl (sm_bipush (pc' := 256) d_M_advance_254 rfl ib_48 (sm_isub (pc' := 257) d_M_advance_256 rfl (sm_putI (pc' := 260) d_M_advance_257 rfl fl_M_155 (Or.inl rfl) rfl (sm_sub [0] rfl ?_))))
                  exact sm_rt rfl
              · refine sm_aload_n (i := 0) (j := 0) (pc' := 261) d_M_advance_260 rfl rfl rfl (sm_dup (pc' := 262) d_M_advance_261 rfl rfl ?_)
                refine sm_getI (pc' := 265) d_M_advance_262 rfl fl_M_127 rfl ⟨by decide, by decide⟩ (fun v31 => ?_)
                refine sm_iconst (pc' := 266) d_M_advance_265 rfl ic_1 (sm_iadd (pc' := 267) d_M_advance_266 rfl (sm_putI (pc' := 270) d_M_advance_267 rfl fl_M_127 (Or.inl rfl) rfl (sm_goto (tgt := 210) d_M_advance_270 rfl (sm_sub [0] rfl ?_))))
                exact sm_rt rfl
          · refine sm_aload_n (i := 0) (j := 0) (pc' := 274) d_M_advance_273 rfl rfl rfl (sm_aload_n (i := 0) (j := 0) (pc' := 275) d_M_advance_274 rfl rfl rfl ?_)
            refine sm_getI (pc' := 278) d_M_advance_275 rfl fl_M_127 rfl ⟨by decide, by decide⟩ (fun v33 => ?_)
            refine sm_aload_n (i := 0) (j := 0) (pc' := 279) d_M_advance_278 rfl rfl rfl ?_
            refine sm_getI (pc' := 282) d_M_advance_279 rfl fl_M_130 rfl ⟨by decide, by decide⟩ (fun v34 => ?_)
            refine sm_isub (pc' := 283) d_M_advance_282 rfl (sm_iconst (pc' := 284) d_M_advance_283 rfl ic_4 ?_)
            refine sm_icmp_le (tgt := 291) (pc' := 287) d_M_advance_284 rfl rfl ?_ ?_
            · refine sm_iconst (pc' := 292) d_M_advance_291 rfl ic_2 (sm_putI (pc' := 295) d_M_advance_292 rfl fl_M_136 (Or.inl rfl) rfl (sm_goto (tgt := 330) d_M_advance_295 rfl ?_))
              exact sm_return d_M_advance_330 rfl rfl
            · refine sm_iconst (pc' := 288) d_M_advance_287 rfl ic_4 (sm_goto (tgt := 292) d_M_advance_288 rfl (sm_putI (pc' := 295) d_M_advance_292 rfl fl_M_136 (Or.inl rfl) rfl (sm_goto (tgt := 330) d_M_advance_295 rfl ?_)))
              exact sm_return d_M_advance_330 rfl rfl
      · refine sm_aload_n (i := 0) (j := 1) (pc' := 100) d_M_advance_99 rfl rfl rfl (sm_iconst (pc' := 101) d_M_advance_100 rfl ic_1 (sm_putI (pc' := 104) d_M_advance_101 rfl fl_M_136 (Or.inl rfl) rfl (sm_aload_n (i := 0) (j := 1) (pc' := 105) d_M_advance_104 rfl rfl rfl (sm_lconst (pc' := 106) (v := 0) d_M_advance_105 rfl rfl (sm_putJ (pc' := 109) d_M_advance_106 rfl fl_M_142 (Or.inl rfl) rfl ?_)))))
        refine sm_sub [1] rfl ?_
        refine sm_bd (mid := fun (t46 : Unit) => .inl (182, [(0, .inr (.inr x0))], [])) (sm_lp (hd := fun (t35 : Unit) => (.inl (109, [(0, .inr (.inr x0))], []) : mC)) (fun t35 => ?_) m_F ()) (fun t46 => ?_)
        · refine sm_aload_n (i := 0) (j := 0) (pc' := 110) d_M_advance_109 rfl rfl rfl (sm_aload_n (i := 0) (j := 0) (pc' := 111) d_M_advance_110 rfl rfl rfl ?_)
          refine sm_getI (pc' := 114) d_M_advance_111 rfl fl_M_127 rfl ⟨by decide, by decide⟩ (fun v36 => ?_)
          refine sm_callVi (ci := 11) (x := x0) (av := [.inl v36]) (st := []) (mc := 0) (ms := 0) (pc' := 117) d_M_advance_114 rfl (sd_M_look2 x0 v36) m_lv rfl cv_M_look2 w_ml_M_133 rfl rfl (by decide) (Nat.le_of_ble_eq_true rfl) rfl rfl (fun v37 => ?_)
          refine sm_callSi (av := [.inl v37]) (st := []) (mc := 0) (ms := 0) (pc' := 120) d_M_advance_117 rfl (sd_M_isLetter v37) cs_M_isLetter w_ml_M_139 rfl rfl (by decide) (Nat.le_of_ble_eq_true rfl) rfl rfl (fun v38 => ?_)
          refine sm_if_eq (tgt := 182) (pc' := 123) d_M_advance_120 rfl rfl ?_ ?_
          · refine sm_sub [0] rfl ?_
            exact sm_rt rfl
          · refine sm_aload_n (i := 0) (j := 0) (pc' := 124) d_M_advance_123 rfl rfl rfl (sm_aload_n (i := 0) (j := 0) (pc' := 125) d_M_advance_124 rfl rfl rfl ?_)
            refine sm_getI (pc' := 128) d_M_advance_125 rfl fl_M_127 rfl ⟨by decide, by decide⟩ (fun v39 => ?_)
            refine sm_aload_n (i := 0) (j := 0) (pc' := 129) d_M_advance_128 rfl rfl rfl ?_
            refine sm_getI (pc' := 132) d_M_advance_129 rfl fl_M_130 rfl ⟨by decide, by decide⟩ (fun v40 => ?_)
            refine sm_isub (pc' := 133) d_M_advance_132 rfl (sm_bipush (pc' := 135) d_M_advance_133 rfl ib_8 ?_)
            refine sm_bd (mid := fun (t44 : Int64) => .inl (166, [(0, .inr (.inr x0))], [.inr (.inl t44), .inr (.inr x0)])) ?_ (fun t44 => ?_)
            · refine sm_icmp_ge (tgt := 163) (pc' := 138) d_M_advance_135 rfl rfl ?_ ?_
              · refine sm_ldc2 (v := (-1)) (pc' := 166) d_M_advance_163 rfl w_cl_M_112 (sm_sub [0] rfl ?_)
                exact sm_rt rfl
              · refine sm_aload_n (i := 0) (j := 0) (pc' := 139) d_M_advance_138 rfl rfl rfl ?_
                refine sm_getJ (pc' := 142) d_M_advance_139 rfl fl_M_142 rfl rfl (fun v41 => ?_)
                refine sm_ldc2 (v := 32) (pc' := 145) d_M_advance_142 rfl w_cl_M_145 (sm_lmul (pc' := 146) d_M_advance_145 rfl (sm_aload_n (i := 0) (j := 0) (pc' := 147) d_M_advance_146 rfl rfl rfl (sm_aload_n (i := 0) (j := 0) (pc' := 148) d_M_advance_147 rfl rfl rfl ?_)))
                refine sm_getI (pc' := 151) d_M_advance_148 rfl fl_M_127 rfl ⟨by decide, by decide⟩ (fun v42 => ?_)
                refine sm_callVi (ci := 11) (x := x0) (av := [.inl v42]) (st := [.inr (.inl (v41 * 32)), .inr (.inr x0)]) (mc := 0) (ms := 0) (pc' := 154) d_M_advance_151 rfl (sd_M_look2 x0 v42) m_lv rfl cv_M_look2 w_ml_M_133 rfl rfl (by decide) (Nat.le_of_ble_eq_true rfl) rfl rfl (fun v43 => ?_)
                refine sm_i2l (pc' := 155) d_M_advance_154 rfl (sm_ladd (pc' := 156) d_M_advance_155 rfl (sm_ldc2 (v := 96) (pc' := 159) d_M_advance_156 rfl w_cl_M_147 (sm_lsub (pc' := 160) d_M_advance_159 rfl (sm_goto (tgt := 166) d_M_advance_160 rfl (sm_sub [0] rfl ?_)))))
                exact sm_rt rfl
            · refine sm_putJ (pc' := 169) d_M_advance_166 rfl fl_M_142 (Or.inl rfl) rfl (sm_aload_n (i := 0) (j := 0) (pc' := 170) d_M_advance_169 rfl rfl rfl (sm_dup (pc' := 171) d_M_advance_170 rfl rfl ?_))
              refine sm_getI (pc' := 174) d_M_advance_171 rfl fl_M_127 rfl ⟨by decide, by decide⟩ (fun v45 => ?_)
              refine sm_iconst (pc' := 175) d_M_advance_174 rfl ic_1 (sm_iadd (pc' := 176) d_M_advance_175 rfl (sm_putI (pc' := 179) d_M_advance_176 rfl fl_M_127 (Or.inl rfl) rfl (sm_goto (tgt := 109) d_M_advance_179 rfl (sm_sub [0] rfl ?_))))
              exact sm_rt rfl
        · refine sm_aload_n (i := 0) (j := 0) (pc' := 183) d_M_advance_182 rfl rfl rfl (sm_aload_n (i := 0) (j := 0) (pc' := 184) d_M_advance_183 rfl rfl rfl ?_)
          refine sm_getI (pc' := 187) d_M_advance_184 rfl fl_M_127 rfl ⟨by decide, by decide⟩ (fun v47 => ?_)
          refine sm_aload_n (i := 0) (j := 0) (pc' := 188) d_M_advance_187 rfl rfl rfl ?_
          refine sm_getI (pc' := 191) d_M_advance_188 rfl fl_M_130 rfl ⟨by decide, by decide⟩ (fun v48 => ?_)
          refine sm_isub (pc' := 192) d_M_advance_191 rfl (sm_putI (pc' := 195) d_M_advance_192 rfl fl_M_149 (Or.inl rfl) rfl (sm_goto (tgt := 330) d_M_advance_195 rfl ?_))
          exact sm_return d_M_advance_330 rfl rfl
    · refine sm_aload_n (i := 0) (j := 0) (pc' := 78) d_M_advance_77 rfl rfl rfl (sm_iconst (pc' := 79) d_M_advance_78 rfl ic_0 (sm_putI (pc' := 82) d_M_advance_79 rfl fl_M_136 (Or.inl rfl) rfl ?_))
      exact sm_return d_M_advance_82 rfl rfl
