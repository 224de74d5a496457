/-! 20.cls5, laid by wip/whole/gen.py -/
theorem d_Ah_takeMostSaving_0 : m_D k_Ah_takeMostSaving 0 (.iconst 0) 1 := (by decide +kernel : decode prog_2_method_6_code 0 = .ok (.iconst 0, 1))
theorem d_Ah_takeMostSaving_1 : m_D k_Ah_takeMostSaving 1 (.istore_n 2) 1 := (by decide +kernel : decode prog_2_method_6_code 1 = .ok (.istore_n 2, 1))
theorem d_Ah_takeMostSaving_2 : m_D k_Ah_takeMostSaving 2 (.iconst 1) 1 := (by decide +kernel : decode prog_2_method_6_code 2 = .ok (.iconst 1, 1))
theorem d_Ah_takeMostSaving_3 : m_D k_Ah_takeMostSaving 3 (.istore_n 3) 1 := (by decide +kernel : decode prog_2_method_6_code 3 = .ok (.istore_n 3, 1))
theorem d_Ah_takeMostSaving_4 : m_D k_Ah_takeMostSaving 4 (.iload_n 3) 1 := (by decide +kernel : decode prog_2_method_6_code 4 = .ok (.iload_n 3, 1))
theorem d_Ah_takeMostSaving_5 : m_D k_Ah_takeMostSaving 5 (.iload_n 1) 1 := (by decide +kernel : decode prog_2_method_6_code 5 = .ok (.iload_n 1, 1))
theorem d_Ah_takeMostSaving_6 : m_D k_Ah_takeMostSaving 6 (.if_icmp .ge 26) 3 := (by decide +kernel : decode prog_2_method_6_code 6 = .ok (.if_icmp .ge 26, 3))
theorem d_Ah_takeMostSaving_9 : m_D k_Ah_takeMostSaving 9 (.aload_n 0) 1 := (by decide +kernel : decode prog_2_method_6_code 9 = .ok (.aload_n 0, 1))
theorem d_Ah_takeMostSaving_10 : m_D k_Ah_takeMostSaving 10 (.getfield 18) 3 := (by decide +kernel : decode prog_2_method_6_code 10 = .ok (.getfield 18, 3))
theorem d_Ah_takeMostSaving_13 : m_D k_Ah_takeMostSaving 13 (.iload_n 3) 1 := (by decide +kernel : decode prog_2_method_6_code 13 = .ok (.iload_n 3, 1))
theorem d_Ah_takeMostSaving_14 : m_D k_Ah_takeMostSaving 14 (.iaload) 1 := (by decide +kernel : decode prog_2_method_6_code 14 = .ok (.iaload, 1))
theorem d_Ah_takeMostSaving_15 : m_D k_Ah_takeMostSaving 15 (.aload_n 0) 1 := (by decide +kernel : decode prog_2_method_6_code 15 = .ok (.aload_n 0, 1))
theorem d_Ah_takeMostSaving_16 : m_D k_Ah_takeMostSaving 16 (.getfield 18) 3 := (by decide +kernel : decode prog_2_method_6_code 16 = .ok (.getfield 18, 3))
theorem d_Ah_takeMostSaving_19 : m_D k_Ah_takeMostSaving 19 (.iload_n 2) 1 := (by decide +kernel : decode prog_2_method_6_code 19 = .ok (.iload_n 2, 1))
theorem d_Ah_takeMostSaving_20 : m_D k_Ah_takeMostSaving 20 (.iaload) 1 := (by decide +kernel : decode prog_2_method_6_code 20 = .ok (.iaload, 1))
theorem d_Ah_takeMostSaving_21 : m_D k_Ah_takeMostSaving 21 (.if_icmp .le 5) 3 := (by decide +kernel : decode prog_2_method_6_code 21 = .ok (.if_icmp .le 5, 3))
theorem d_Ah_takeMostSaving_24 : m_D k_Ah_takeMostSaving 24 (.iload_n 3) 1 := (by decide +kernel : decode prog_2_method_6_code 24 = .ok (.iload_n 3, 1))
theorem d_Ah_takeMostSaving_25 : m_D k_Ah_takeMostSaving 25 (.istore_n 2) 1 := (by decide +kernel : decode prog_2_method_6_code 25 = .ok (.istore_n 2, 1))
theorem d_Ah_takeMostSaving_26 : m_D k_Ah_takeMostSaving 26 (.iinc 3 1) 3 := (by decide +kernel : decode prog_2_method_6_code 26 = .ok (.iinc 3 1, 3))
theorem d_Ah_takeMostSaving_29 : m_D k_Ah_takeMostSaving 29 (.goto (-25)) 3 := (by decide +kernel : decode prog_2_method_6_code 29 = .ok (.goto (-25), 3))
theorem d_Ah_takeMostSaving_32 : m_D k_Ah_takeMostSaving 32 (.aload_n 0) 1 := (by decide +kernel : decode prog_2_method_6_code 32 = .ok (.aload_n 0, 1))
theorem d_Ah_takeMostSaving_33 : m_D k_Ah_takeMostSaving 33 (.getfield 18) 3 := (by decide +kernel : decode prog_2_method_6_code 33 = .ok (.getfield 18, 3))
theorem d_Ah_takeMostSaving_36 : m_D k_Ah_takeMostSaving 36 (.iload_n 2) 1 := (by decide +kernel : decode prog_2_method_6_code 36 = .ok (.iload_n 2, 1))
theorem d_Ah_takeMostSaving_37 : m_D k_Ah_takeMostSaving 37 (.iaload) 1 := (by decide +kernel : decode prog_2_method_6_code 37 = .ok (.iaload, 1))
theorem d_Ah_takeMostSaving_38 : m_D k_Ah_takeMostSaving 38 (.istore_n 3) 1 := (by decide +kernel : decode prog_2_method_6_code 38 = .ok (.istore_n 3, 1))
theorem d_Ah_takeMostSaving_39 : m_D k_Ah_takeMostSaving 39 (.aload_n 0) 1 := (by decide +kernel : decode prog_2_method_6_code 39 = .ok (.aload_n 0, 1))
theorem d_Ah_takeMostSaving_40 : m_D k_Ah_takeMostSaving 40 (.getfield 18) 3 := (by decide +kernel : decode prog_2_method_6_code 40 = .ok (.getfield 18, 3))
theorem d_Ah_takeMostSaving_43 : m_D k_Ah_takeMostSaving 43 (.iload_n 2) 1 := (by decide +kernel : decode prog_2_method_6_code 43 = .ok (.iload_n 2, 1))
theorem d_Ah_takeMostSaving_44 : m_D k_Ah_takeMostSaving 44 (.iconst 0) 1 := (by decide +kernel : decode prog_2_method_6_code 44 = .ok (.iconst 0, 1))
theorem d_Ah_takeMostSaving_45 : m_D k_Ah_takeMostSaving 45 (.iastore) 1 := (by decide +kernel : decode prog_2_method_6_code 45 = .ok (.iastore, 1))
theorem d_Ah_takeMostSaving_46 : m_D k_Ah_takeMostSaving 46 (.iload_n 3) 1 := (by decide +kernel : decode prog_2_method_6_code 46 = .ok (.iload_n 3, 1))
theorem d_Ah_takeMostSaving_47 : m_D k_Ah_takeMostSaving 47 (.ireturn) 1 := (by decide +kernel : decode prog_2_method_6_code 47 = .ok (.ireturn, 1))
def fn_Ah_takeMostSaving_l4 (x0 : Option mA) (x1 : Int32) (t1 : Int32 × Int32) : mP ((Int32 × Int32) ⊕ (Int32)) :=
  if x1 ≤ t1.2 then
    m_rt (.inr t1.1)
  else
    m_bd (m_gR 7 2 x0) fun v2 =>
    m_bd (m_aI 0 v2 t1.2) fun v3 =>
    m_bd (m_gR 7 2 x0) fun v4 =>
    m_bd (m_aI 0 v4 t1.1) fun v5 =>
    m_bd (α := Int32) (
      if v3 ≤ v5 then
        m_rt t1.1
      else
        m_rt t1.2
      ) fun (t6 : Int32) =>
    m_rt (.inl (t6, (t1.2 + 1)))
def fn_Ah_takeMostSaving (x0 : Option mA) (x1 : Int32) : mP Int32 :=
  m_th 7 x0 <|
  m_bd (m_lp (fn_Ah_takeMostSaving_l4 x0 x1) m_F (0, 1)) fun (t7 : Int32) =>
  m_bd (m_gR 7 2 x0) fun v8 =>
  m_bd (m_aI 0 v8 t7) fun v9 =>
  m_bd (m_gR 7 2 x0) fun v10 =>
  m_bd (m_tI 0 v10 t7 0) fun _ =>
  m_rt v9
set_option maxHeartbeats 4000000 in
set_option maxRecDepth 100000 in
theorem sd_Ah_takeMostSaving (x0 : Option mA) (x1 : Int32) : m_Sm k_Ah_takeMostSaving 1 0 0 [.inr (.inr x0), .inl x1] (fn_Ah_takeMostSaving x0 x1) (fun b => some (.inl b)) := by
  refine ⟨Nat.le_of_ble_eq_true rfl, ?_⟩
  refine sm_th ?_
  refine sm_iconst (pc' := 1) d_Ah_takeMostSaving_0 rfl ic_0 (sm_istore_n (i := 2) (L' := [(2, .inl 0), (0, .inr (.inr x0)), (1, .inl x1)]) (pc' := 2) d_Ah_takeMostSaving_1 rfl rfl (Nat.le_of_ble_eq_true rfl) rfl (sm_iconst (pc' := 3) d_Ah_takeMostSaving_2 rfl ic_1 (sm_istore_n (i := 3) (L' := [(3, .inl 1), (2, .inl 0), (0, .inr (.inr x0)), (1, .inl x1)]) (pc' := 4) d_Ah_takeMostSaving_3 rfl rfl (Nat.le_of_ble_eq_true rfl) rfl ?_)))
  refine sm_sub [1, 0, 2, 3] rfl ?_
  refine sm_bd (mid := fun (t7 : Int32) => .inl (32, [(2, .inl t7), (0, .inr (.inr x0))], [])) (sm_lp (hd := fun (t1 : Int32 × Int32) => (.inl (4, [(2, .inl t1.1), (3, .inl t1.2), (0, .inr (.inr x0)), (1, .inl x1)], []) : mC)) (fun t1 => ?_) m_F (0, 1)) (fun t7 => ?_)
  · refine sm_iload_n (i := 3) (j := 1) (pc' := 5) d_Ah_takeMostSaving_4 rfl rfl rfl (sm_iload_n (i := 1) (j := 3) (pc' := 6) d_Ah_takeMostSaving_5 rfl rfl rfl ?_)
    refine sm_icmp_ge (tgt := 32) (pc' := 9) d_Ah_takeMostSaving_6 rfl rfl ?_ ?_
    · refine sm_sub [0, 2] rfl ?_
      exact sm_rt rfl
    · refine sm_aload_n (i := 0) (j := 2) (pc' := 10) d_Ah_takeMostSaving_9 rfl rfl rfl ?_
      refine sm_getR (pc' := 13) d_Ah_takeMostSaving_10 rfl fl_Ah_18 rfl rfl (fun v2 => ?_)
      refine sm_iload_n (i := 3) (j := 1) (pc' := 14) d_Ah_takeMostSaving_13 rfl rfl rfl ?_
      refine sm_iald (pc' := 15) d_Ah_takeMostSaving_14 rfl (fun v3 => ?_)
      refine sm_aload_n (i := 0) (j := 2) (pc' := 16) d_Ah_takeMostSaving_15 rfl rfl rfl ?_
      refine sm_getR (pc' := 19) d_Ah_takeMostSaving_16 rfl fl_Ah_18 rfl rfl (fun v4 => ?_)
      refine sm_iload_n (i := 2) (j := 0) (pc' := 20) d_Ah_takeMostSaving_19 rfl rfl rfl ?_
      refine sm_iald (pc' := 21) d_Ah_takeMostSaving_20 rfl (fun v5 => ?_)
      refine sm_bd (mid := fun (t6 : Int32) => .inl (26, [(0, .inr (.inr x0)), (1, .inl x1), (2, .inl t6), (3, .inl t1.2)], [])) ?_ (fun t6 => ?_)
      · refine sm_icmp_le (tgt := 26) (pc' := 24) d_Ah_takeMostSaving_21 rfl rfl ?_ ?_
        · refine sm_sub [2, 3, 0, 1] rfl ?_
          exact sm_rt rfl
        · refine sm_iload_n (i := 3) (j := 1) (pc' := 25) d_Ah_takeMostSaving_24 rfl rfl rfl (sm_istore_n (i := 2) (L' := [(2, .inl t1.2), (3, .inl t1.2), (0, .inr (.inr x0)), (1, .inl x1)]) (pc' := 26) d_Ah_takeMostSaving_25 rfl rfl (Nat.le_of_ble_eq_true rfl) rfl (sm_sub [2, 3, 0, 1] rfl ?_))
          exact sm_rt rfl
      · refine sm_iinc (j := 3) (L' := [(3, .inl (t1.2 + 1)), (0, .inr (.inr x0)), (1, .inl x1), (2, .inl t6)]) (pc' := 29) d_Ah_takeMostSaving_26 rfl (v := (t1.2 + 1)) rfl (ix_1 _) (Nat.le_of_ble_eq_true rfl) rfl (sm_goto (tgt := 4) d_Ah_takeMostSaving_29 rfl (sm_sub [3, 0, 1, 2] rfl ?_))
        exact sm_rt rfl
  · refine sm_aload_n (i := 0) (j := 1) (pc' := 33) d_Ah_takeMostSaving_32 rfl rfl rfl ?_
    refine sm_getR (pc' := 36) d_Ah_takeMostSaving_33 rfl fl_Ah_18 rfl rfl (fun v8 => ?_)
    refine sm_iload_n (i := 2) (j := 0) (pc' := 37) d_Ah_takeMostSaving_36 rfl rfl rfl ?_
    refine sm_iald (pc' := 38) d_Ah_takeMostSaving_37 rfl (fun v9 => ?_)
    refine sm_istore_n (i := 3) (L' := [(3, .inl v9), (2, .inl t7), (0, .inr (.inr x0))]) (pc' := 39) d_Ah_takeMostSaving_38 rfl rfl (Nat.le_of_ble_eq_true rfl) rfl (sm_aload_n (i := 0) (j := 2) (pc' := 40) d_Ah_takeMostSaving_39 rfl rfl rfl ?_)
    refine sm_getR (pc' := 43) d_Ah_takeMostSaving_40 rfl fl_Ah_18 rfl rfl (fun v10 => ?_)
    refine sm_iload_n (i := 2) (j := 1) (pc' := 44) d_Ah_takeMostSaving_43 rfl rfl rfl (sm_iconst (pc' := 45) d_Ah_takeMostSaving_44 rfl ic_0 (sm_iast (pc' := 46) d_Ah_takeMostSaving_45 rfl (sm_iload_n (i := 3) (j := 0) (pc' := 47) d_Ah_takeMostSaving_46 rfl rfl rfl ?_)))
    exact sm_ireturn d_Ah_takeMostSaving_47 rfl rfl
theorem d_Ah_fewestJars_0 : m_D k_Ah_fewestJars 0 (.aload_n 1) 1 := (by decide +kernel : decode prog_2_method_5_code 0 = .ok (.aload_n 1, 1))
theorem d_Ah_fewestJars_1 : m_D k_Ah_fewestJars 1 (.getfield 25) 3 := (by decide +kernel : decode prog_2_method_5_code 1 = .ok (.getfield 25, 3))
theorem d_Ah_fewestJars_4 : m_D k_Ah_fewestJars 4 (.iload_n 2) 1 := (by decide +kernel : decode prog_2_method_5_code 4 = .ok (.iload_n 2, 1))
theorem d_Ah_fewestJars_5 : m_D k_Ah_fewestJars 5 (.aaload) 1 := (by decide +kernel : decode prog_2_method_5_code 5 = .ok (.aaload, 1))
theorem d_Ah_fewestJars_6 : m_D k_Ah_fewestJars 6 (.astore 4) 2 := (by decide +kernel : decode prog_2_method_5_code 6 = .ok (.astore 4, 2))
theorem d_Ah_fewestJars_8 : m_D k_Ah_fewestJars 8 (.aload 4) 2 := (by decide +kernel : decode prog_2_method_5_code 8 = .ok (.aload 4, 2))
theorem d_Ah_fewestJars_10 : m_D k_Ah_fewestJars 10 (.invokevirtual 35) 3 := (by decide +kernel : decode prog_2_method_5_code 10 = .ok (.invokevirtual 35, 3))
theorem d_Ah_fewestJars_13 : m_D k_Ah_fewestJars 13 (.ifCond .eq 5) 3 := (by decide +kernel : decode prog_2_method_5_code 13 = .ok (.ifCond .eq 5, 3))
theorem d_Ah_fewestJars_16 : m_D k_Ah_fewestJars 16 (.iconst (-1)) 1 := (by decide +kernel : decode prog_2_method_5_code 16 = .ok (.iconst (-1), 1))
theorem d_Ah_fewestJars_17 : m_D k_Ah_fewestJars 17 (.ireturn) 1 := (by decide +kernel : decode prog_2_method_5_code 17 = .ok (.ireturn, 1))
theorem d_Ah_fewestJars_18 : m_D k_Ah_fewestJars 18 (.aload 4) 2 := (by decide +kernel : decode prog_2_method_5_code 18 = .ok (.aload 4, 2))
theorem d_Ah_fewestJars_20 : m_D k_Ah_fewestJars 20 (.getfield 59) 3 := (by decide +kernel : decode prog_2_method_5_code 20 = .ok (.getfield 59, 3))
theorem d_Ah_fewestJars_23 : m_D k_Ah_fewestJars 23 (.iconst 1) 1 := (by decide +kernel : decode prog_2_method_5_code 23 = .ok (.iconst 1, 1))
theorem d_Ah_fewestJars_24 : m_D k_Ah_fewestJars 24 (.iadd) 1 := (by decide +kernel : decode prog_2_method_5_code 24 = .ok (.iadd, 1))
theorem d_Ah_fewestJars_25 : m_D k_Ah_fewestJars 25 (.aload 4) 2 := (by decide +kernel : decode prog_2_method_5_code 25 = .ok (.aload 4, 2))
theorem d_Ah_fewestJars_27 : m_D k_Ah_fewestJars 27 (.getfield 74) 3 := (by decide +kernel : decode prog_2_method_5_code 27 = .ok (.getfield 74, 3))
theorem d_Ah_fewestJars_30 : m_D k_Ah_fewestJars 30 (.isub) 1 := (by decide +kernel : decode prog_2_method_5_code 30 = .ok (.isub, 1))
theorem d_Ah_fewestJars_31 : m_D k_Ah_fewestJars 31 (.aload 4) 2 := (by decide +kernel : decode prog_2_method_5_code 31 = .ok (.aload 4, 2))
theorem d_Ah_fewestJars_33 : m_D k_Ah_fewestJars 33 (.getfield 77) 3 := (by decide +kernel : decode prog_2_method_5_code 33 = .ok (.getfield 77, 3))
theorem d_Ah_fewestJars_36 : m_D k_Ah_fewestJars 36 (.isub) 1 := (by decide +kernel : decode prog_2_method_5_code 36 = .ok (.isub, 1))
theorem d_Ah_fewestJars_37 : m_D k_Ah_fewestJars 37 (.istore 5) 2 := (by decide +kernel : decode prog_2_method_5_code 37 = .ok (.istore 5, 2))
theorem d_Ah_fewestJars_39 : m_D k_Ah_fewestJars 39 (.iconst 0) 1 := (by decide +kernel : decode prog_2_method_5_code 39 = .ok (.iconst 0, 1))
theorem d_Ah_fewestJars_40 : m_D k_Ah_fewestJars 40 (.istore 6) 2 := (by decide +kernel : decode prog_2_method_5_code 40 = .ok (.istore 6, 2))
theorem d_Ah_fewestJars_42 : m_D k_Ah_fewestJars 42 (.iload 6) 2 := (by decide +kernel : decode prog_2_method_5_code 42 = .ok (.iload 6, 2))
theorem d_Ah_fewestJars_44 : m_D k_Ah_fewestJars 44 (.iload_n 3) 1 := (by decide +kernel : decode prog_2_method_5_code 44 = .ok (.iload_n 3, 1))
theorem d_Ah_fewestJars_45 : m_D k_Ah_fewestJars 45 (.if_icmp .ge 86) 3 := (by decide +kernel : decode prog_2_method_5_code 45 = .ok (.if_icmp .ge 86, 3))
theorem d_Ah_fewestJars_48 : m_D k_Ah_fewestJars 48 (.aload_n 1) 1 := (by decide +kernel : decode prog_2_method_5_code 48 = .ok (.aload_n 1, 1))
theorem d_Ah_fewestJars_49 : m_D k_Ah_fewestJars 49 (.iload_n 2) 1 := (by decide +kernel : decode prog_2_method_5_code 49 = .ok (.iload_n 2, 1))
theorem d_Ah_fewestJars_50 : m_D k_Ah_fewestJars 50 (.iload 6) 2 := (by decide +kernel : decode prog_2_method_5_code 50 = .ok (.iload 6, 2))
theorem d_Ah_fewestJars_52 : m_D k_Ah_fewestJars 52 (.iconst 1) 1 := (by decide +kernel : decode prog_2_method_5_code 52 = .ok (.iconst 1, 1))
theorem d_Ah_fewestJars_53 : m_D k_Ah_fewestJars 53 (.iadd) 1 := (by decide +kernel : decode prog_2_method_5_code 53 = .ok (.iadd, 1))
theorem d_Ah_fewestJars_54 : m_D k_Ah_fewestJars 54 (.invokevirtual 80) 3 := (by decide +kernel : decode prog_2_method_5_code 54 = .ok (.invokevirtual 80, 3))
theorem d_Ah_fewestJars_57 : m_D k_Ah_fewestJars 57 (.istore 7) 2 := (by decide +kernel : decode prog_2_method_5_code 57 = .ok (.istore 7, 2))
theorem d_Ah_fewestJars_59 : m_D k_Ah_fewestJars 59 (.aload 4) 2 := (by decide +kernel : decode prog_2_method_5_code 59 = .ok (.aload 4, 2))
theorem d_Ah_fewestJars_61 : m_D k_Ah_fewestJars 61 (.getfield 83) 3 := (by decide +kernel : decode prog_2_method_5_code 61 = .ok (.getfield 83, 3))
theorem d_Ah_fewestJars_64 : m_D k_Ah_fewestJars 64 (.iload 6) 2 := (by decide +kernel : decode prog_2_method_5_code 64 = .ok (.iload 6, 2))
theorem d_Ah_fewestJars_66 : m_D k_Ah_fewestJars 66 (.if_icmp .le 7) 3 := (by decide +kernel : decode prog_2_method_5_code 66 = .ok (.if_icmp .le 7, 3))
theorem d_Ah_fewestJars_69 : m_D k_Ah_fewestJars 69 (.iconst 1) 1 := (by decide +kernel : decode prog_2_method_5_code 69 = .ok (.iconst 1, 1))
theorem d_Ah_fewestJars_70 : m_D k_Ah_fewestJars 70 (.goto 4) 3 := (by decide +kernel : decode prog_2_method_5_code 70 = .ok (.goto 4, 3))
theorem d_Ah_fewestJars_73 : m_D k_Ah_fewestJars 73 (.iconst 0) 1 := (by decide +kernel : decode prog_2_method_5_code 73 = .ok (.iconst 0, 1))
theorem d_Ah_fewestJars_74 : m_D k_Ah_fewestJars 74 (.istore 8) 2 := (by decide +kernel : decode prog_2_method_5_code 74 = .ok (.istore 8, 2))
theorem d_Ah_fewestJars_76 : m_D k_Ah_fewestJars 76 (.iload 7) 2 := (by decide +kernel : decode prog_2_method_5_code 76 = .ok (.iload 7, 2))
theorem d_Ah_fewestJars_78 : m_D k_Ah_fewestJars 78 (.aload_n 1) 1 := (by decide +kernel : decode prog_2_method_5_code 78 = .ok (.aload_n 1, 1))
theorem d_Ah_fewestJars_79 : m_D k_Ah_fewestJars 79 (.getfield 47) 3 := (by decide +kernel : decode prog_2_method_5_code 79 = .ok (.getfield 47, 3))
theorem d_Ah_fewestJars_82 : m_D k_Ah_fewestJars 82 (.iload 8) 2 := (by decide +kernel : decode prog_2_method_5_code 82 = .ok (.iload 8, 2))
theorem d_Ah_fewestJars_84 : m_D k_Ah_fewestJars 84 (.invokestatic 86) 3 := (by decide +kernel : decode prog_2_method_5_code 84 = .ok (.invokestatic 86, 3))
theorem d_Ah_fewestJars_87 : m_D k_Ah_fewestJars 87 (.istore 9) 2 := (by decide +kernel : decode prog_2_method_5_code 87 = .ok (.istore 9, 2))
theorem d_Ah_fewestJars_89 : m_D k_Ah_fewestJars 89 (.aload_n 0) 1 := (by decide +kernel : decode prog_2_method_5_code 89 = .ok (.aload_n 0, 1))
theorem d_Ah_fewestJars_90 : m_D k_Ah_fewestJars 90 (.getfield 18) 3 := (by decide +kernel : decode prog_2_method_5_code 90 = .ok (.getfield 18, 3))
theorem d_Ah_fewestJars_93 : m_D k_Ah_fewestJars 93 (.iload 6) 2 := (by decide +kernel : decode prog_2_method_5_code 93 = .ok (.iload 6, 2))
theorem d_Ah_fewestJars_95 : m_D k_Ah_fewestJars 95 (.iload 8) 2 := (by decide +kernel : decode prog_2_method_5_code 95 = .ok (.iload 8, 2))
theorem d_Ah_fewestJars_97 : m_D k_Ah_fewestJars 97 (.ifCond .eq 7) 3 := (by decide +kernel : decode prog_2_method_5_code 97 = .ok (.ifCond .eq 7, 3))
theorem d_Ah_fewestJars_100 : m_D k_Ah_fewestJars 100 (.iconst 0) 1 := (by decide +kernel : decode prog_2_method_5_code 100 = .ok (.iconst 0, 1))
theorem d_Ah_fewestJars_101 : m_D k_Ah_fewestJars 101 (.goto 16) 3 := (by decide +kernel : decode prog_2_method_5_code 101 = .ok (.goto 16, 3))
theorem d_Ah_fewestJars_104 : m_D k_Ah_fewestJars 104 (.iload 9) 2 := (by decide +kernel : decode prog_2_method_5_code 104 = .ok (.iload 9, 2))
theorem d_Ah_fewestJars_106 : m_D k_Ah_fewestJars 106 (.iload 7) 2 := (by decide +kernel : decode prog_2_method_5_code 106 = .ok (.iload 7, 2))
theorem d_Ah_fewestJars_108 : m_D k_Ah_fewestJars 108 (.aload_n 1) 1 := (by decide +kernel : decode prog_2_method_5_code 108 = .ok (.aload_n 1, 1))
theorem d_Ah_fewestJars_109 : m_D k_Ah_fewestJars 109 (.getfield 47) 3 := (by decide +kernel : decode prog_2_method_5_code 109 = .ok (.getfield 47, 3))
theorem d_Ah_fewestJars_112 : m_D k_Ah_fewestJars 112 (.iconst 1) 1 := (by decide +kernel : decode prog_2_method_5_code 112 = .ok (.iconst 1, 1))
theorem d_Ah_fewestJars_113 : m_D k_Ah_fewestJars 113 (.invokestatic 86) 3 := (by decide +kernel : decode prog_2_method_5_code 113 = .ok (.invokestatic 86, 3))
theorem d_Ah_fewestJars_116 : m_D k_Ah_fewestJars 116 (.isub) 1 := (by decide +kernel : decode prog_2_method_5_code 116 = .ok (.isub, 1))
theorem d_Ah_fewestJars_117 : m_D k_Ah_fewestJars 117 (.iastore) 1 := (by decide +kernel : decode prog_2_method_5_code 117 = .ok (.iastore, 1))
theorem d_Ah_fewestJars_118 : m_D k_Ah_fewestJars 118 (.iload 5) 2 := (by decide +kernel : decode prog_2_method_5_code 118 = .ok (.iload 5, 2))
theorem d_Ah_fewestJars_120 : m_D k_Ah_fewestJars 120 (.iload 9) 2 := (by decide +kernel : decode prog_2_method_5_code 120 = .ok (.iload 9, 2))
theorem d_Ah_fewestJars_122 : m_D k_Ah_fewestJars 122 (.iadd) 1 := (by decide +kernel : decode prog_2_method_5_code 122 = .ok (.iadd, 1))
theorem d_Ah_fewestJars_123 : m_D k_Ah_fewestJars 123 (.istore 5) 2 := (by decide +kernel : decode prog_2_method_5_code 123 = .ok (.istore 5, 2))
theorem d_Ah_fewestJars_125 : m_D k_Ah_fewestJars 125 (.iinc 6 1) 3 := (by decide +kernel : decode prog_2_method_5_code 125 = .ok (.iinc 6 1, 3))
theorem d_Ah_fewestJars_128 : m_D k_Ah_fewestJars 128 (.goto (-86)) 3 := (by decide +kernel : decode prog_2_method_5_code 128 = .ok (.goto (-86), 3))
theorem d_Ah_fewestJars_131 : m_D k_Ah_fewestJars 131 (.iconst 0) 1 := (by decide +kernel : decode prog_2_method_5_code 131 = .ok (.iconst 0, 1))
theorem d_Ah_fewestJars_132 : m_D k_Ah_fewestJars 132 (.istore 6) 2 := (by decide +kernel : decode prog_2_method_5_code 132 = .ok (.istore 6, 2))
theorem d_Ah_fewestJars_134 : m_D k_Ah_fewestJars 134 (.iload 6) 2 := (by decide +kernel : decode prog_2_method_5_code 134 = .ok (.iload 6, 2))
theorem d_Ah_fewestJars_136 : m_D k_Ah_fewestJars 136 (.iload_n 3) 1 := (by decide +kernel : decode prog_2_method_5_code 136 = .ok (.iload_n 3, 1))
theorem d_Ah_fewestJars_137 : m_D k_Ah_fewestJars 137 (.if_icmp .ge 24) 3 := (by decide +kernel : decode prog_2_method_5_code 137 = .ok (.if_icmp .ge 24, 3))
theorem d_Ah_fewestJars_140 : m_D k_Ah_fewestJars 140 (.iload 5) 2 := (by decide +kernel : decode prog_2_method_5_code 140 = .ok (.iload 5, 2))
theorem d_Ah_fewestJars_142 : m_D k_Ah_fewestJars 142 (.ifCond .le 19) 3 := (by decide +kernel : decode prog_2_method_5_code 142 = .ok (.ifCond .le 19, 3))
theorem d_Ah_fewestJars_145 : m_D k_Ah_fewestJars 145 (.iload 5) 2 := (by decide +kernel : decode prog_2_method_5_code 145 = .ok (.iload 5, 2))
theorem d_Ah_fewestJars_147 : m_D k_Ah_fewestJars 147 (.aload_n 0) 1 := (by decide +kernel : decode prog_2_method_5_code 147 = .ok (.aload_n 0, 1))
theorem d_Ah_fewestJars_148 : m_D k_Ah_fewestJars 148 (.iload_n 3) 1 := (by decide +kernel : decode prog_2_method_5_code 148 = .ok (.iload_n 3, 1))
theorem d_Ah_fewestJars_149 : m_D k_Ah_fewestJars 149 (.invokevirtual 90) 3 := (by decide +kernel : decode prog_2_method_5_code 149 = .ok (.invokevirtual 90, 3))
theorem d_Ah_fewestJars_152 : m_D k_Ah_fewestJars 152 (.isub) 1 := (by decide +kernel : decode prog_2_method_5_code 152 = .ok (.isub, 1))
theorem d_Ah_fewestJars_153 : m_D k_Ah_fewestJars 153 (.istore 5) 2 := (by decide +kernel : decode prog_2_method_5_code 153 = .ok (.istore 5, 2))
theorem d_Ah_fewestJars_155 : m_D k_Ah_fewestJars 155 (.iinc 6 1) 3 := (by decide +kernel : decode prog_2_method_5_code 155 = .ok (.iinc 6 1, 3))
theorem d_Ah_fewestJars_158 : m_D k_Ah_fewestJars 158 (.goto (-24)) 3 := (by decide +kernel : decode prog_2_method_5_code 158 = .ok (.goto (-24), 3))
theorem d_Ah_fewestJars_161 : m_D k_Ah_fewestJars 161 (.iload 5) 2 := (by decide +kernel : decode prog_2_method_5_code 161 = .ok (.iload 5, 2))
theorem d_Ah_fewestJars_163 : m_D k_Ah_fewestJars 163 (.ifCond .le 7) 3 := (by decide +kernel : decode prog_2_method_5_code 163 = .ok (.ifCond .le 7, 3))
theorem d_Ah_fewestJars_166 : m_D k_Ah_fewestJars 166 (.iconst (-1)) 1 := (by decide +kernel : decode prog_2_method_5_code 166 = .ok (.iconst (-1), 1))
theorem d_Ah_fewestJars_167 : m_D k_Ah_fewestJars 167 (.goto 5) 3 := (by decide +kernel : decode prog_2_method_5_code 167 = .ok (.goto 5, 3))
theorem d_Ah_fewestJars_170 : m_D k_Ah_fewestJars 170 (.iload 6) 2 := (by decide +kernel : decode prog_2_method_5_code 170 = .ok (.iload 6, 2))
theorem d_Ah_fewestJars_172 : m_D k_Ah_fewestJars 172 (.ireturn) 1 := (by decide +kernel : decode prog_2_method_5_code 172 = .ok (.ireturn, 1))
def fn_Ah_fewestJars_l42 (x0 : Option mA) (x1 : Option mA) (x2 : Int32) (x3 : Int32) (v2 : Option mA) (t7 : Int32 × Int32) : mP ((Int32 × Int32) ⊕ (Int32)) :=
  if x3 ≤ t7.2 then
    m_rt (.inr t7.1)
  else
    m_bd (fn_Fa_lovedAhead x1 x2 (t7.2 + 1)) fun v8 =>
    m_bd (m_gI 5 4 v2) fun v9 =>
    m_bd (α := Int32) (
      if v9 ≤ t7.2 then
        m_rt 0
      else
        m_rt 1
      ) fun (t10 : Int32) =>
    m_bd (m_gI 3 4 x1) fun v11 =>
    m_bd (fn_Th_biteBy v8 v11 t10) fun v12 =>
    m_bd (m_gR 7 2 x0) fun v13 =>
    m_bd (α := Int32) (
      if t10 = 0 then
        m_bd (m_gI 3 4 x1) fun v14 =>
        m_bd (fn_Th_biteBy v8 v14 1) fun v15 =>
        m_rt (v12 - v15)
      else
        m_rt 0
      ) fun (t16 : Int32) =>
    m_bd (m_tI 0 v13 t7.2 t16) fun _ =>
    m_rt (.inl ((t7.1 + v12), (t7.2 + 1)))
def fn_Ah_fewestJars_l134 (x0 : Option mA) (x3 : Int32) (t18 : Int32 × Int32) : mP ((Int32 × Int32) ⊕ (Int32 × Int32)) :=
  if x3 ≤ t18.2 then
    m_rt (.inr (t18.1, t18.2))
  else
    if t18.1 ≤ 0 then
      m_rt (.inr (t18.1, t18.2))
    else
      m_bd (fn_Ah_takeMostSaving x0 x3) fun v19 =>
      m_rt (.inl ((t18.1 - v19), (t18.2 + 1)))
def fn_Ah_fewestJars (x0 : Option mA) (x1 : Option mA) (x2 : Int32) (x3 : Int32) : mP Int32 :=
  m_th 7 x0 <|
  m_bd (m_gR 3 8 x1) fun v1 =>
  m_bd (m_aR 7 v1 x2) fun v2 =>
  m_bd (fn_Th_isThrough v2) fun v3 =>
  if v3 = 0 then
    m_bd (m_gI 5 3 v2) fun v4 =>
    m_bd (m_gI 5 1 v2) fun v5 =>
    m_bd (m_gI 5 2 v2) fun v6 =>
    m_bd (m_lp (fn_Ah_fewestJars_l42 x0 x1 x2 x3 v2) m_F ((((v4 + 1) - v5) - v6), 0)) fun (t17 : Int32) =>
    m_bd (m_lp (fn_Ah_fewestJars_l134 x0 x3) m_F (t17, 0)) fun (t20 : Int32 × Int32) =>
    if t20.1 ≤ 0 then
      m_rt t20.2
    else
      m_rt (-1)
  else
    m_rt (-1)
set_option maxHeartbeats 4000000 in
set_option maxRecDepth 100000 in
theorem sd_Ah_fewestJars (x0 : Option mA) (x1 : Option mA) (x2 : Int32) (x3 : Int32) : m_Sm k_Ah_fewestJars 4 0 0 [.inr (.inr x0), .inr (.inr x1), .inl x2, .inl x3] (fn_Ah_fewestJars x0 x1 x2 x3) (fun b => some (.inl b)) := by
  refine ⟨Nat.le_of_ble_eq_true rfl, ?_⟩
  refine sm_th ?_
  refine sm_aload_n (i := 1) (j := 1) (pc' := 1) d_Ah_fewestJars_0 rfl rfl rfl ?_
  refine sm_getR (pc' := 4) d_Ah_fewestJars_1 rfl fl_Ah_25 rfl rfl (fun v1 => ?_)
  refine sm_iload_n (i := 2) (j := 2) (pc' := 5) d_Ah_fewestJars_4 rfl rfl rfl ?_
  refine sm_aald (t := 7) ⟨by decide, by decide⟩ rfl (pc' := 6) d_Ah_fewestJars_5 rfl (fun v2 => ?_)
  refine sm_astore (L' := [(4, .inr (.inr v2)), (0, .inr (.inr x0)), (1, .inr (.inr x1)), (2, .inl x2), (3, .inl x3)]) (pc' := 8) d_Ah_fewestJars_6 rfl (Nat.le_of_ble_eq_true rfl) rfl (sm_aload (j := 0) (pc' := 10) d_Ah_fewestJars_8 rfl rfl ?_)
  refine sm_callVi (ci := 5) (x := v2) (av := []) (st := []) (mc := 0) (ms := 0) (pc' := 13) d_Ah_fewestJars_10 rfl (sd_Th_isThrough v2) m_lv rfl cv_Th_isThrough w_ml_Ah_35 rfl rfl (by decide) (Nat.le_of_ble_eq_true rfl) rfl rfl (fun v3 => ?_)
  refine sm_if_eq (tgt := 18) (pc' := 16) d_Ah_fewestJars_13 rfl rfl ?_ ?_
  · refine sm_aload (j := 0) (pc' := 20) d_Ah_fewestJars_18 rfl rfl ?_
    refine sm_getI (pc' := 23) d_Ah_fewestJars_20 rfl fl_Ah_59 rfl ⟨by decide, by decide⟩ (fun v4 => ?_)
    refine sm_iconst (pc' := 24) d_Ah_fewestJars_23 rfl ic_1 (sm_iadd (pc' := 25) d_Ah_fewestJars_24 rfl (sm_aload (j := 0) (pc' := 27) d_Ah_fewestJars_25 rfl rfl ?_))
    refine sm_getI (pc' := 30) d_Ah_fewestJars_27 rfl fl_Ah_74 rfl ⟨by decide, by decide⟩ (fun v5 => ?_)
    refine sm_isub (pc' := 31) d_Ah_fewestJars_30 rfl (sm_aload (j := 0) (pc' := 33) d_Ah_fewestJars_31 rfl rfl ?_)
    refine sm_getI (pc' := 36) d_Ah_fewestJars_33 rfl fl_Ah_77 rfl ⟨by decide, by decide⟩ (fun v6 => ?_)
    refine sm_isub (pc' := 37) d_Ah_fewestJars_36 rfl (sm_istore (L' := [(5, .inl (((v4 + 1) - v5) - v6)), (4, .inr (.inr v2)), (0, .inr (.inr x0)), (1, .inr (.inr x1)), (2, .inl x2), (3, .inl x3)]) (pc' := 39) d_Ah_fewestJars_37 rfl (Nat.le_of_ble_eq_true rfl) rfl (sm_iconst (pc' := 40) d_Ah_fewestJars_39 rfl ic_0 (sm_istore (L' := [(6, .inl 0), (5, .inl (((v4 + 1) - v5) - v6)), (4, .inr (.inr v2)), (0, .inr (.inr x0)), (1, .inr (.inr x1)), (2, .inl x2), (3, .inl x3)]) (pc' := 42) d_Ah_fewestJars_40 rfl (Nat.le_of_ble_eq_true rfl) rfl ?_)))
    refine sm_sub [1, 0, 3, 4, 5, 6, 2] rfl ?_
    refine sm_bd (mid := fun (t17 : Int32) => .inl (131, [(5, .inl t17), (0, .inr (.inr x0)), (3, .inl x3)], [])) (sm_lp (hd := fun (t7 : Int32 × Int32) => (.inl (42, [(5, .inl t7.1), (6, .inl t7.2), (0, .inr (.inr x0)), (1, .inr (.inr x1)), (2, .inl x2), (3, .inl x3), (4, .inr (.inr v2))], []) : mC)) (fun t7 => ?_) m_F ((((v4 + 1) - v5) - v6), 0)) (fun t17 => ?_)
    · refine sm_iload (j := 1) (pc' := 44) d_Ah_fewestJars_42 rfl rfl (sm_iload_n (i := 3) (j := 5) (pc' := 45) d_Ah_fewestJars_44 rfl rfl rfl ?_)
      refine sm_icmp_ge (tgt := 131) (pc' := 48) d_Ah_fewestJars_45 rfl rfl ?_ ?_
      · refine sm_sub [0, 2, 5] rfl ?_
        exact sm_rt rfl
      · refine sm_aload_n (i := 1) (j := 3) (pc' := 49) d_Ah_fewestJars_48 rfl rfl rfl (sm_iload_n (i := 2) (j := 4) (pc' := 50) d_Ah_fewestJars_49 rfl rfl rfl (sm_iload (j := 1) (pc' := 52) d_Ah_fewestJars_50 rfl rfl (sm_iconst (pc' := 53) d_Ah_fewestJars_52 rfl ic_1 (sm_iadd (pc' := 54) d_Ah_fewestJars_53 rfl ?_))))
        refine sm_callVi (ci := 3) (x := x1) (av := [.inl x2, .inl (t7.2 + 1)]) (st := []) (mc := 0) (ms := 0) (pc' := 57) d_Ah_fewestJars_54 rfl (sd_Fa_lovedAhead x1 x2 (t7.2 + 1)) m_lv rfl cv_Fa_lovedAhead w_ml_Ah_80 rfl rfl (by decide) (Nat.le_of_ble_eq_true rfl) rfl rfl (fun v8 => ?_)
        refine sm_istore (L' := [(7, .inl v8), (5, .inl t7.1), (6, .inl t7.2), (0, .inr (.inr x0)), (1, .inr (.inr x1)), (2, .inl x2), (3, .inl x3), (4, .inr (.inr v2))]) (pc' := 59) d_Ah_fewestJars_57 rfl (Nat.le_of_ble_eq_true rfl) rfl (sm_aload (j := 7) (pc' := 61) d_Ah_fewestJars_59 rfl rfl ?_)
        refine sm_getI (pc' := 64) d_Ah_fewestJars_61 rfl fl_Ah_83 rfl ⟨by decide, by decide⟩ (fun v9 => ?_)
        refine sm_iload (j := 2) (pc' := 66) d_Ah_fewestJars_64 rfl rfl ?_
        refine sm_bd (mid := fun (t10 : Int32) => .inl (74, [(0, .inr (.inr x0)), (1, .inr (.inr x1)), (2, .inl x2), (3, .inl x3), (4, .inr (.inr v2)), (5, .inl t7.1), (6, .inl t7.2), (7, .inl v8)], [.inl t10])) ?_ (fun t10 => ?_)
        · refine sm_icmp_le (tgt := 73) (pc' := 69) d_Ah_fewestJars_66 rfl rfl ?_ ?_
          · refine sm_iconst (pc' := 74) d_Ah_fewestJars_73 rfl ic_0 (sm_sub [3, 4, 5, 6, 7, 1, 2, 0] rfl ?_)
            exact sm_rt rfl
          · refine sm_iconst (pc' := 70) d_Ah_fewestJars_69 rfl ic_1 (sm_goto (tgt := 74) d_Ah_fewestJars_70 rfl (sm_sub [3, 4, 5, 6, 7, 1, 2, 0] rfl ?_))
            exact sm_rt rfl
        · refine sm_istore (L' := [(8, .inl t10), (0, .inr (.inr x0)), (1, .inr (.inr x1)), (2, .inl x2), (3, .inl x3), (4, .inr (.inr v2)), (5, .inl t7.1), (6, .inl t7.2), (7, .inl v8)]) (pc' := 76) d_Ah_fewestJars_74 rfl (Nat.le_of_ble_eq_true rfl) rfl (sm_iload (j := 8) (pc' := 78) d_Ah_fewestJars_76 rfl rfl (sm_aload_n (i := 1) (j := 2) (pc' := 79) d_Ah_fewestJars_78 rfl rfl rfl ?_))
          refine sm_getI (pc' := 82) d_Ah_fewestJars_79 rfl fl_Ah_47 rfl ⟨by decide, by decide⟩ (fun v11 => ?_)
          refine sm_iload (j := 0) (pc' := 84) d_Ah_fewestJars_82 rfl rfl ?_
          refine sm_callSi (av := [.inl v8, .inl v11, .inl t10]) (st := []) (mc := 0) (ms := 0) (pc' := 87) d_Ah_fewestJars_84 rfl (sd_Th_biteBy v8 v11 t10) cs_Th_biteBy w_ml_Ah_86 rfl rfl (by decide) (Nat.le_of_ble_eq_true rfl) rfl rfl (fun v12 => ?_)
          refine sm_istore (L' := [(9, .inl v12), (8, .inl t10), (0, .inr (.inr x0)), (1, .inr (.inr x1)), (2, .inl x2), (3, .inl x3), (4, .inr (.inr v2)), (5, .inl t7.1), (6, .inl t7.2), (7, .inl v8)]) (pc' := 89) d_Ah_fewestJars_87 rfl (Nat.le_of_ble_eq_true rfl) rfl (sm_aload_n (i := 0) (j := 2) (pc' := 90) d_Ah_fewestJars_89 rfl rfl rfl ?_)
          refine sm_getR (pc' := 93) d_Ah_fewestJars_90 rfl fl_Ah_18 rfl rfl (fun v13 => ?_)
          refine sm_iload (j := 8) (pc' := 95) d_Ah_fewestJars_93 rfl rfl (sm_iload (j := 1) (pc' := 97) d_Ah_fewestJars_95 rfl rfl ?_)
          refine sm_bd (mid := fun (t16 : Int32) => .inl (117, [(0, .inr (.inr x0)), (1, .inr (.inr x1)), (2, .inl x2), (3, .inl x3), (4, .inr (.inr v2)), (5, .inl t7.1), (6, .inl t7.2), (9, .inl v12)], [.inl t16, .inl t7.2, .inr (.inr v13)])) ?_ (fun t16 => ?_)
          · refine sm_if_eq (tgt := 104) (pc' := 100) d_Ah_fewestJars_97 rfl rfl ?_ ?_
            · refine sm_iload (j := 0) (pc' := 106) d_Ah_fewestJars_104 rfl rfl (sm_iload (j := 9) (pc' := 108) d_Ah_fewestJars_106 rfl rfl (sm_aload_n (i := 1) (j := 3) (pc' := 109) d_Ah_fewestJars_108 rfl rfl rfl ?_))
              refine sm_getI (pc' := 112) d_Ah_fewestJars_109 rfl fl_Ah_47 rfl ⟨by decide, by decide⟩ (fun v14 => ?_)
              refine sm_iconst (pc' := 113) d_Ah_fewestJars_112 rfl ic_1 ?_
              refine sm_callSi (av := [.inl v8, .inl v14, .inl 1]) (st := [.inl v12, .inl t7.2, .inr (.inr v13)]) (mc := 0) (ms := 0) (pc' := 116) d_Ah_fewestJars_113 rfl (sd_Th_biteBy v8 v14 1) cs_Th_biteBy w_ml_Ah_86 rfl rfl (by decide) (Nat.le_of_ble_eq_true rfl) rfl rfl (fun v15 => ?_)
              refine sm_isub (pc' := 117) d_Ah_fewestJars_116 rfl (sm_sub [2, 3, 4, 5, 6, 7, 8, 0] rfl ?_)
              exact sm_rt rfl
            · refine sm_iconst (pc' := 101) d_Ah_fewestJars_100 rfl ic_0 (sm_goto (tgt := 117) d_Ah_fewestJars_101 rfl (sm_sub [2, 3, 4, 5, 6, 7, 8, 0] rfl ?_))
              exact sm_rt rfl
          · refine sm_iast (pc' := 118) d_Ah_fewestJars_117 rfl (sm_iload (j := 5) (pc' := 120) d_Ah_fewestJars_118 rfl rfl (sm_iload (j := 7) (pc' := 122) d_Ah_fewestJars_120 rfl rfl (sm_iadd (pc' := 123) d_Ah_fewestJars_122 rfl (sm_istore (L' := [(5, .inl (t7.1 + v12)), (0, .inr (.inr x0)), (1, .inr (.inr x1)), (2, .inl x2), (3, .inl x3), (4, .inr (.inr v2)), (6, .inl t7.2), (9, .inl v12)]) (pc' := 125) d_Ah_fewestJars_123 rfl (Nat.le_of_ble_eq_true rfl) rfl (sm_iinc (j := 6) (L' := [(6, .inl (t7.2 + 1)), (5, .inl (t7.1 + v12)), (0, .inr (.inr x0)), (1, .inr (.inr x1)), (2, .inl x2), (3, .inl x3), (4, .inr (.inr v2)), (9, .inl v12)]) (pc' := 128) d_Ah_fewestJars_125 rfl (v := (t7.2 + 1)) rfl (ix_1 _) (Nat.le_of_ble_eq_true rfl) rfl (sm_goto (tgt := 42) d_Ah_fewestJars_128 rfl (sm_sub [1, 0, 2, 3, 4, 5, 6] rfl ?_)))))))
            exact sm_rt rfl
    · refine sm_iconst (pc' := 132) d_Ah_fewestJars_131 rfl ic_0 (sm_istore (L' := [(6, .inl 0), (5, .inl t17), (0, .inr (.inr x0)), (3, .inl x3)]) (pc' := 134) d_Ah_fewestJars_132 rfl (Nat.le_of_ble_eq_true rfl) rfl ?_)
      refine sm_sub [1, 0, 2, 3] rfl ?_
      refine sm_bd (mid := fun (t20 : Int32 × Int32) => .inl (161, [(5, .inl t20.1), (6, .inl t20.2)], [])) (sm_lp (hd := fun (t18 : Int32 × Int32) => (.inl (134, [(5, .inl t18.1), (6, .inl t18.2), (0, .inr (.inr x0)), (3, .inl x3)], []) : mC)) (fun t18 => ?_) m_F (t17, 0)) (fun t20 => ?_)
      · refine sm_iload (j := 1) (pc' := 136) d_Ah_fewestJars_134 rfl rfl (sm_iload_n (i := 3) (j := 3) (pc' := 137) d_Ah_fewestJars_136 rfl rfl rfl ?_)
        refine sm_icmp_ge (tgt := 161) (pc' := 140) d_Ah_fewestJars_137 rfl rfl ?_ ?_
        · refine sm_sub [0, 1] rfl ?_
          exact sm_rt rfl
        · refine sm_iload (j := 0) (pc' := 142) d_Ah_fewestJars_140 rfl rfl ?_
          refine sm_if_le (tgt := 161) (pc' := 145) d_Ah_fewestJars_142 rfl rfl ?_ ?_
          · refine sm_sub [0, 1] rfl ?_
            exact sm_rt rfl
          · refine sm_iload (j := 0) (pc' := 147) d_Ah_fewestJars_145 rfl rfl (sm_aload_n (i := 0) (j := 2) (pc' := 148) d_Ah_fewestJars_147 rfl rfl rfl (sm_iload_n (i := 3) (j := 3) (pc' := 149) d_Ah_fewestJars_148 rfl rfl rfl ?_))
            refine sm_callVi (ci := 7) (x := x0) (av := [.inl x3]) (st := [.inl t18.1]) (mc := 0) (ms := 0) (pc' := 152) d_Ah_fewestJars_149 rfl (sd_Ah_takeMostSaving x0 x3) m_lv rfl cv_Ah_takeMostSaving w_ml_Ah_90 rfl rfl (by decide) (Nat.le_of_ble_eq_true rfl) rfl rfl (fun v19 => ?_)
            refine sm_isub (pc' := 153) d_Ah_fewestJars_152 rfl (sm_istore (L' := [(5, .inl (t18.1 - v19)), (6, .inl t18.2), (0, .inr (.inr x0)), (3, .inl x3)]) (pc' := 155) d_Ah_fewestJars_153 rfl (Nat.le_of_ble_eq_true rfl) rfl (sm_iinc (j := 1) (L' := [(6, .inl (t18.2 + 1)), (5, .inl (t18.1 - v19)), (0, .inr (.inr x0)), (3, .inl x3)]) (pc' := 158) d_Ah_fewestJars_155 rfl (v := (t18.2 + 1)) rfl (ix_1 _) (Nat.le_of_ble_eq_true rfl) rfl (sm_goto (tgt := 134) d_Ah_fewestJars_158 rfl (sm_sub [1, 0, 2, 3] rfl ?_))))
            exact sm_rt rfl
      · refine sm_iload (j := 0) (pc' := 163) d_Ah_fewestJars_161 rfl rfl ?_
        refine sm_if_le (tgt := 170) (pc' := 166) d_Ah_fewestJars_163 rfl rfl ?_ ?_
        · refine sm_iload (j := 1) (pc' := 172) d_Ah_fewestJars_170 rfl rfl ?_
          exact sm_ireturn d_Ah_fewestJars_172 rfl rfl
        · refine sm_iconst (pc' := 167) d_Ah_fewestJars_166 rfl ic_m1 (sm_goto (tgt := 172) d_Ah_fewestJars_167 rfl ?_)
          exact sm_ireturn d_Ah_fewestJars_172 rfl rfl
  · refine sm_iconst (pc' := 17) d_Ah_fewestJars_16 rfl ic_m1 ?_
    exact sm_ireturn d_Ah_fewestJars_17 rfl rfl
theorem d_C_jars_0 : m_D k_C_jars 0 (.aload_n 0) 1 := (by decide +kernel : decode prog_1_method_45_code 0 = .ok (.aload_n 0, 1))
theorem d_C_jars_1 : m_D k_C_jars 1 (.aload_n 0) 1 := (by decide +kernel : decode prog_1_method_45_code 1 = .ok (.aload_n 0, 1))
theorem d_C_jars_2 : m_D k_C_jars 2 (.iload_n 1) 1 := (by decide +kernel : decode prog_1_method_45_code 2 = .ok (.iload_n 1, 1))
theorem d_C_jars_3 : m_D k_C_jars 3 (.invokevirtual 233) 3 := (by decide +kernel : decode prog_1_method_45_code 3 = .ok (.invokevirtual 233, 3))
theorem d_C_jars_6 : m_D k_C_jars 6 (.ifCond .ne 7) 3 := (by decide +kernel : decode prog_1_method_45_code 6 = .ok (.ifCond .ne 7, 3))
theorem d_C_jars_9 : m_D k_C_jars 9 (.iconst 2) 1 := (by decide +kernel : decode prog_1_method_45_code 9 = .ok (.iconst 2, 1))
theorem d_C_jars_10 : m_D k_C_jars 10 (.goto 18) 3 := (by decide +kernel : decode prog_1_method_45_code 10 = .ok (.goto 18, 3))
theorem d_C_jars_13 : m_D k_C_jars 13 (.iload_n 2) 1 := (by decide +kernel : decode prog_1_method_45_code 13 = .ok (.iload_n 2, 1))
theorem d_C_jars_14 : m_D k_C_jars 14 (.iconst 0) 1 := (by decide +kernel : decode prog_1_method_45_code 14 = .ok (.iconst 0, 1))
theorem d_C_jars_15 : m_D k_C_jars 15 (.bipush 8) 2 := (by decide +kernel : decode prog_1_method_45_code 15 = .ok (.bipush 8, 2))
theorem d_C_jars_17 : m_D k_C_jars 17 (.invokestatic 269) 3 := (by decide +kernel : decode prog_1_method_45_code 17 = .ok (.invokestatic 269, 3))
theorem d_C_jars_20 : m_D k_C_jars 20 (.ifCond .ne 7) 3 := (by decide +kernel : decode prog_1_method_45_code 20 = .ok (.ifCond .ne 7, 3))
theorem d_C_jars_23 : m_D k_C_jars 23 (.iconst 5) 1 := (by decide +kernel : decode prog_1_method_45_code 23 = .ok (.iconst 5, 1))
theorem d_C_jars_24 : m_D k_C_jars 24 (.goto 4) 3 := (by decide +kernel : decode prog_1_method_45_code 24 = .ok (.goto 4, 3))
theorem d_C_jars_27 : m_D k_C_jars 27 (.iconst 0) 1 := (by decide +kernel : decode prog_1_method_45_code 27 = .ok (.iconst 0, 1))
theorem d_C_jars_28 : m_D k_C_jars 28 (.putfield 9) 3 := (by decide +kernel : decode prog_1_method_45_code 28 = .ok (.putfield 9, 3))
theorem d_C_jars_31 : m_D k_C_jars 31 (.aload_n 0) 1 := (by decide +kernel : decode prog_1_method_45_code 31 = .ok (.aload_n 0, 1))
theorem d_C_jars_32 : m_D k_C_jars 32 (.getfield 9) 3 := (by decide +kernel : decode prog_1_method_45_code 32 = .ok (.getfield 9, 3))
theorem d_C_jars_35 : m_D k_C_jars 35 (.ifCond .eq 5) 3 := (by decide +kernel : decode prog_1_method_45_code 35 = .ok (.ifCond .eq 5, 3))
theorem d_C_jars_38 : m_D k_C_jars 38 (.iconst (-1)) 1 := (by decide +kernel : decode prog_1_method_45_code 38 = .ok (.iconst (-1), 1))
theorem d_C_jars_39 : m_D k_C_jars 39 (.ireturn) 1 := (by decide +kernel : decode prog_1_method_45_code 39 = .ok (.ireturn, 1))
theorem d_C_jars_40 : m_D k_C_jars 40 (.aload_n 0) 1 := (by decide +kernel : decode prog_1_method_45_code 40 = .ok (.aload_n 0, 1))
theorem d_C_jars_41 : m_D k_C_jars 41 (.aload_n 0) 1 := (by decide +kernel : decode prog_1_method_45_code 41 = .ok (.aload_n 0, 1))
theorem d_C_jars_42 : m_D k_C_jars 42 (.getfield 61) 3 := (by decide +kernel : decode prog_1_method_45_code 42 = .ok (.getfield 61, 3))
theorem d_C_jars_45 : m_D k_C_jars 45 (.aload_n 0) 1 := (by decide +kernel : decode prog_1_method_45_code 45 = .ok (.aload_n 0, 1))
theorem d_C_jars_46 : m_D k_C_jars 46 (.getfield 37) 3 := (by decide +kernel : decode prog_1_method_45_code 46 = .ok (.getfield 37, 3))
theorem d_C_jars_49 : m_D k_C_jars 49 (.iload_n 1) 1 := (by decide +kernel : decode prog_1_method_45_code 49 = .ok (.iload_n 1, 1))
theorem d_C_jars_50 : m_D k_C_jars 50 (.iload_n 2) 1 := (by decide +kernel : decode prog_1_method_45_code 50 = .ok (.iload_n 2, 1))
theorem d_C_jars_51 : m_D k_C_jars 51 (.invokevirtual 321) 3 := (by decide +kernel : decode prog_1_method_45_code 51 = .ok (.invokevirtual 321, 3))
theorem d_C_jars_54 : m_D k_C_jars 54 (.invokevirtual 310) 3 := (by decide +kernel : decode prog_1_method_45_code 54 = .ok (.invokevirtual 310, 3))
theorem d_C_jars_57 : m_D k_C_jars 57 (.ireturn) 1 := (by decide +kernel : decode prog_1_method_45_code 57 = .ok (.ireturn, 1))
def fn_C_jars (x0 : Option mA) (x1 : Int32) (x2 : Int32) : mP Int32 :=
  m_th 0 x0 <|
  m_bd (fn_C_isThing x0 x1) fun v1 =>
  m_bd (α := Int32) (
    if v1 = 0 then
      m_rt 2
    else
      m_bd (fn_C_isWithin x2 0 8) fun v2 =>
      if v2 = 0 then
        m_rt 5
      else
        m_rt 0
    ) fun (t3 : Int32) =>
  m_bd (m_pI 0 0 x0 t3) fun _ =>
  m_bd (m_gI 0 0 x0) fun v4 =>
  if v4 = 0 then
    m_bd (m_gR 0 10 x0) fun v5 =>
    m_bd (m_gR 0 5 x0) fun v6 =>
    m_bd (fn_Ah_fewestJars v5 v6 x1 x2) fun v7 =>
    m_bd (fn_C_orNone x0 v7) fun v8 =>
    m_rt v8
  else
    m_rt (-1)
set_option maxHeartbeats 4000000 in
set_option maxRecDepth 100000 in
theorem sd_C_jars (x0 : Option mA) (x1 : Int32) (x2 : Int32) : m_Sm k_C_jars 5 0 0 [.inr (.inr x0), .inl x1, .inl x2] (fn_C_jars x0 x1 x2) (fun b => some (.inl b)) := by
  refine ⟨Nat.le_of_ble_eq_true rfl, ?_⟩
  refine sm_th ?_
  refine sm_aload_n (i := 0) (j := 0) (pc' := 1) d_C_jars_0 rfl rfl rfl (sm_aload_n (i := 0) (j := 0) (pc' := 2) d_C_jars_1 rfl rfl rfl (sm_iload_n (i := 1) (j := 1) (pc' := 3) d_C_jars_2 rfl rfl rfl ?_))
  refine sm_callVi (ci := 0) (x := x0) (av := [.inl x1]) (st := [.inr (.inr x0)]) (mc := 0) (ms := 0) (pc' := 6) d_C_jars_3 rfl (sd_C_isThing x0 x1) m_lv rfl cv_C_isThing w_ml_C_233 rfl rfl (by decide) (Nat.le_of_ble_eq_true rfl) rfl rfl (fun v1 => ?_)
  refine sm_bd (mid := fun (t3 : Int32) => .inl (28, [(0, .inr (.inr x0)), (1, .inl x1), (2, .inl x2)], [.inl t3, .inr (.inr x0)])) ?_ (fun t3 => ?_)
  · refine sm_if_ne (tgt := 13) (pc' := 9) d_C_jars_6 rfl rfl ?_ ?_
    · refine sm_iload_n (i := 2) (j := 2) (pc' := 14) d_C_jars_13 rfl rfl rfl (sm_iconst (pc' := 15) d_C_jars_14 rfl ic_0 (sm_bipush (pc' := 17) d_C_jars_15 rfl ib_8 ?_))
      refine sm_callSi (av := [.inl x2, .inl 0, .inl 8]) (st := [.inr (.inr x0)]) (mc := 0) (ms := 0) (pc' := 20) d_C_jars_17 rfl (sd_C_isWithin x2 0 8) cs_C_isWithin w_ml_C_269 rfl rfl (by decide) (Nat.le_of_ble_eq_true rfl) rfl rfl (fun v2 => ?_)
      refine sm_if_ne (tgt := 27) (pc' := 23) d_C_jars_20 rfl rfl ?_ ?_
      · refine sm_iconst (pc' := 28) d_C_jars_27 rfl ic_0 (sm_sub [0, 1, 2] rfl ?_)
        exact sm_rt rfl
      · refine sm_iconst (pc' := 24) d_C_jars_23 rfl ic_5 (sm_goto (tgt := 28) d_C_jars_24 rfl (sm_sub [0, 1, 2] rfl ?_))
        exact sm_rt rfl
    · refine sm_iconst (pc' := 10) d_C_jars_9 rfl ic_2 (sm_goto (tgt := 28) d_C_jars_10 rfl (sm_sub [0, 1, 2] rfl ?_))
      exact sm_rt rfl
  · refine sm_putI (pc' := 31) d_C_jars_28 rfl fl_C_9 (Or.inl rfl) rfl (sm_aload_n (i := 0) (j := 0) (pc' := 32) d_C_jars_31 rfl rfl rfl ?_)
    refine sm_getI (pc' := 35) d_C_jars_32 rfl fl_C_9 rfl ⟨by decide, by decide⟩ (fun v4 => ?_)
    refine sm_if_eq (tgt := 40) (pc' := 38) d_C_jars_35 rfl rfl ?_ ?_
    · refine sm_aload_n (i := 0) (j := 0) (pc' := 41) d_C_jars_40 rfl rfl rfl (sm_aload_n (i := 0) (j := 0) (pc' := 42) d_C_jars_41 rfl rfl rfl ?_)
      refine sm_getR (pc' := 45) d_C_jars_42 rfl fl_C_61 rfl rfl (fun v5 => ?_)
      refine sm_aload_n (i := 0) (j := 0) (pc' := 46) d_C_jars_45 rfl rfl rfl ?_
      refine sm_getR (pc' := 49) d_C_jars_46 rfl fl_C_37 rfl rfl (fun v6 => ?_)
      refine sm_iload_n (i := 1) (j := 1) (pc' := 50) d_C_jars_49 rfl rfl rfl (sm_iload_n (i := 2) (j := 2) (pc' := 51) d_C_jars_50 rfl rfl rfl ?_)
      refine sm_callVi (ci := 7) (x := v5) (av := [.inr (.inr v6), .inl x1, .inl x2]) (st := [.inr (.inr x0)]) (mc := 0) (ms := 0) (pc' := 54) d_C_jars_51 rfl (sd_Ah_fewestJars v5 v6 x1 x2) m_lv rfl cv_Ah_fewestJars w_ml_C_321 rfl rfl (by decide) (Nat.le_of_ble_eq_true rfl) rfl rfl (fun v7 => ?_)
      refine sm_callVi (ci := 0) (x := x0) (av := [.inl v7]) (st := []) (mc := 0) (ms := 0) (pc' := 57) d_C_jars_54 rfl (sd_C_orNone x0 v7) m_lv rfl cv_C_orNone w_ml_C_310 rfl rfl (by decide) (Nat.le_of_ble_eq_true rfl) rfl rfl (fun v8 => ?_)
      exact sm_ireturn d_C_jars_57 rfl rfl
    · refine sm_iconst (pc' := 39) d_C_jars_38 rfl ic_m1 ?_
      exact sm_ireturn d_C_jars_39 rfl rfl
theorem d_C_isSet_0 : m_D k_C_isSet 0 (.iload_n 0) 1 := (by decide +kernel : decode prog_1_method_48_code 0 = .ok (.iload_n 0, 1))
theorem d_C_isSet_1 : m_D k_C_isSet 1 (.ifCond .lt 14) 3 := (by decide +kernel : decode prog_1_method_48_code 1 = .ok (.ifCond .lt 14, 3))
theorem d_C_isSet_4 : m_D k_C_isSet 4 (.iload_n 0) 1 := (by decide +kernel : decode prog_1_method_48_code 4 = .ok (.iload_n 0, 1))
theorem d_C_isSet_5 : m_D k_C_isSet 5 (.iconst 1) 1 := (by decide +kernel : decode prog_1_method_48_code 5 = .ok (.iconst 1, 1))
theorem d_C_isSet_6 : m_D k_C_isSet 6 (.iload_n 1) 1 := (by decide +kernel : decode prog_1_method_48_code 6 = .ok (.iload_n 1, 1))
theorem d_C_isSet_7 : m_D k_C_isSet 7 (.ishl) 1 := (by decide +kernel : decode prog_1_method_48_code 7 = .ok (.ishl, 1))
theorem d_C_isSet_8 : m_D k_C_isSet 8 (.if_icmp .ge 7) 3 := (by decide +kernel : decode prog_1_method_48_code 8 = .ok (.if_icmp .ge 7, 3))
theorem d_C_isSet_11 : m_D k_C_isSet 11 (.iconst 1) 1 := (by decide +kernel : decode prog_1_method_48_code 11 = .ok (.iconst 1, 1))
theorem d_C_isSet_12 : m_D k_C_isSet 12 (.goto 4) 3 := (by decide +kernel : decode prog_1_method_48_code 12 = .ok (.goto 4, 3))
theorem d_C_isSet_15 : m_D k_C_isSet 15 (.iconst 0) 1 := (by decide +kernel : decode prog_1_method_48_code 15 = .ok (.iconst 0, 1))
theorem d_C_isSet_16 : m_D k_C_isSet 16 (.ireturn) 1 := (by decide +kernel : decode prog_1_method_48_code 16 = .ok (.ireturn, 1))
def fn_C_isSet (x0 : Int32) (x1 : Int32) : mP Int32 :=
  if x0 < 0 then
    m_rt 0
  else
    if (1 <<< (x1 &&& 31)) ≤ x0 then
      m_rt 0
    else
      m_rt 1
set_option maxHeartbeats 4000000 in
set_option maxRecDepth 100000 in
theorem sd_C_isSet (x0 : Int32) (x1 : Int32) : m_Sm k_C_isSet 1 0 0 [.inl x0, .inl x1] (fn_C_isSet x0 x1) (fun b => some (.inl b)) := by
  refine ⟨Nat.le_of_ble_eq_true rfl, ?_⟩
  refine sm_iload_n (i := 0) (j := 0) (pc' := 1) d_C_isSet_0 rfl rfl rfl ?_
  refine sm_if_lt (tgt := 15) (pc' := 4) d_C_isSet_1 rfl rfl ?_ ?_
  · refine sm_iconst (pc' := 16) d_C_isSet_15 rfl ic_0 ?_
    exact sm_zreturn d_C_isSet_16 rfl (by decide) rfl
  · refine sm_iload_n (i := 0) (j := 0) (pc' := 5) d_C_isSet_4 rfl rfl rfl (sm_iconst (pc' := 6) d_C_isSet_5 rfl ic_1 (sm_iload_n (i := 1) (j := 1) (pc' := 7) d_C_isSet_6 rfl rfl rfl (sm_ishl (pc' := 8) d_C_isSet_7 rfl ?_)))
    refine sm_icmp_ge (tgt := 15) (pc' := 11) d_C_isSet_8 rfl rfl ?_ ?_
    · refine sm_iconst (pc' := 16) d_C_isSet_15 rfl ic_0 ?_
      exact sm_zreturn d_C_isSet_16 rfl (by decide) rfl
    · refine sm_iconst (pc' := 12) d_C_isSet_11 rfl ic_1 (sm_goto (tgt := 16) d_C_isSet_12 rfl ?_)
      exact sm_zreturn d_C_isSet_16 rfl (by decide) rfl
theorem d_C_jarsFor_0 : m_D k_C_jarsFor 0 (.aload_n 0) 1 := (by decide +kernel : decode prog_1_method_46_code 0 = .ok (.aload_n 0, 1))
theorem d_C_jarsFor_1 : m_D k_C_jarsFor 1 (.iload_n 1) 1 := (by decide +kernel : decode prog_1_method_46_code 1 = .ok (.iload_n 1, 1))
theorem d_C_jarsFor_2 : m_D k_C_jarsFor 2 (.aload_n 0) 1 := (by decide +kernel : decode prog_1_method_46_code 2 = .ok (.aload_n 0, 1))
theorem d_C_jarsFor_3 : m_D k_C_jarsFor 3 (.getfield 37) 3 := (by decide +kernel : decode prog_1_method_46_code 3 = .ok (.getfield 37, 3))
theorem d_C_jarsFor_6 : m_D k_C_jarsFor 6 (.getfield 156) 3 := (by decide +kernel : decode prog_1_method_46_code 6 = .ok (.getfield 156, 3))
theorem d_C_jarsFor_9 : m_D k_C_jarsFor 9 (.invokestatic 324) 3 := (by decide +kernel : decode prog_1_method_46_code 9 = .ok (.invokestatic 324, 3))
theorem d_C_jarsFor_12 : m_D k_C_jarsFor 12 (.ifCond .eq 17) 3 := (by decide +kernel : decode prog_1_method_46_code 12 = .ok (.ifCond .eq 17, 3))
theorem d_C_jarsFor_15 : m_D k_C_jarsFor 15 (.iload_n 2) 1 := (by decide +kernel : decode prog_1_method_46_code 15 = .ok (.iload_n 2, 1))
theorem d_C_jarsFor_16 : m_D k_C_jarsFor 16 (.iconst 0) 1 := (by decide +kernel : decode prog_1_method_46_code 16 = .ok (.iconst 0, 1))
theorem d_C_jarsFor_17 : m_D k_C_jarsFor 17 (.bipush 8) 2 := (by decide +kernel : decode prog_1_method_46_code 17 = .ok (.bipush 8, 2))
theorem d_C_jarsFor_19 : m_D k_C_jarsFor 19 (.invokestatic 269) 3 := (by decide +kernel : decode prog_1_method_46_code 19 = .ok (.invokestatic 269, 3))
theorem d_C_jarsFor_22 : m_D k_C_jarsFor 22 (.ifCond .eq 7) 3 := (by decide +kernel : decode prog_1_method_46_code 22 = .ok (.ifCond .eq 7, 3))
theorem d_C_jarsFor_25 : m_D k_C_jarsFor 25 (.iconst 0) 1 := (by decide +kernel : decode prog_1_method_46_code 25 = .ok (.iconst 0, 1))
theorem d_C_jarsFor_26 : m_D k_C_jarsFor 26 (.goto 4) 3 := (by decide +kernel : decode prog_1_method_46_code 26 = .ok (.goto 4, 3))
theorem d_C_jarsFor_29 : m_D k_C_jarsFor 29 (.iconst 5) 1 := (by decide +kernel : decode prog_1_method_46_code 29 = .ok (.iconst 5, 1))
theorem d_C_jarsFor_30 : m_D k_C_jarsFor 30 (.putfield 9) 3 := (by decide +kernel : decode prog_1_method_46_code 30 = .ok (.putfield 9, 3))
theorem d_C_jarsFor_33 : m_D k_C_jarsFor 33 (.aload_n 0) 1 := (by decide +kernel : decode prog_1_method_46_code 33 = .ok (.aload_n 0, 1))
theorem d_C_jarsFor_34 : m_D k_C_jarsFor 34 (.getfield 9) 3 := (by decide +kernel : decode prog_1_method_46_code 34 = .ok (.getfield 9, 3))
theorem d_C_jarsFor_37 : m_D k_C_jarsFor 37 (.ifCond .eq 5) 3 := (by decide +kernel : decode prog_1_method_46_code 37 = .ok (.ifCond .eq 5, 3))
theorem d_C_jarsFor_40 : m_D k_C_jarsFor 40 (.iconst (-1)) 1 := (by decide +kernel : decode prog_1_method_46_code 40 = .ok (.iconst (-1), 1))
theorem d_C_jarsFor_41 : m_D k_C_jarsFor 41 (.ireturn) 1 := (by decide +kernel : decode prog_1_method_46_code 41 = .ok (.ireturn, 1))
theorem d_C_jarsFor_42 : m_D k_C_jarsFor 42 (.iconst 0) 1 := (by decide +kernel : decode prog_1_method_46_code 42 = .ok (.iconst 0, 1))
theorem d_C_jarsFor_43 : m_D k_C_jarsFor 43 (.istore_n 3) 1 := (by decide +kernel : decode prog_1_method_46_code 43 = .ok (.istore_n 3, 1))
theorem d_C_jarsFor_44 : m_D k_C_jarsFor 44 (.iconst 0) 1 := (by decide +kernel : decode prog_1_method_46_code 44 = .ok (.iconst 0, 1))
theorem d_C_jarsFor_45 : m_D k_C_jarsFor 45 (.istore 4) 2 := (by decide +kernel : decode prog_1_method_46_code 45 = .ok (.istore 4, 2))
theorem d_C_jarsFor_47 : m_D k_C_jarsFor 47 (.iload 4) 2 := (by decide +kernel : decode prog_1_method_46_code 47 = .ok (.iload 4, 2))
theorem d_C_jarsFor_49 : m_D k_C_jarsFor 49 (.aload_n 0) 1 := (by decide +kernel : decode prog_1_method_46_code 49 = .ok (.aload_n 0, 1))
theorem d_C_jarsFor_50 : m_D k_C_jarsFor 50 (.getfield 37) 3 := (by decide +kernel : decode prog_1_method_46_code 50 = .ok (.getfield 37, 3))
theorem d_C_jarsFor_53 : m_D k_C_jarsFor 53 (.getfield 156) 3 := (by decide +kernel : decode prog_1_method_46_code 53 = .ok (.getfield 156, 3))
theorem d_C_jarsFor_56 : m_D k_C_jarsFor 56 (.if_icmp .ge 51) 3 := (by decide +kernel : decode prog_1_method_46_code 56 = .ok (.if_icmp .ge 51, 3))
theorem d_C_jarsFor_59 : m_D k_C_jarsFor 59 (.iload_n 1) 1 := (by decide +kernel : decode prog_1_method_46_code 59 = .ok (.iload_n 1, 1))
theorem d_C_jarsFor_60 : m_D k_C_jarsFor 60 (.iload 4) 2 := (by decide +kernel : decode prog_1_method_46_code 60 = .ok (.iload 4, 2))
theorem d_C_jarsFor_62 : m_D k_C_jarsFor 62 (.ishr) 1 := (by decide +kernel : decode prog_1_method_46_code 62 = .ok (.ishr, 1))
theorem d_C_jarsFor_63 : m_D k_C_jarsFor 63 (.iconst 1) 1 := (by decide +kernel : decode prog_1_method_46_code 63 = .ok (.iconst 1, 1))
theorem d_C_jarsFor_64 : m_D k_C_jarsFor 64 (.iand) 1 := (by decide +kernel : decode prog_1_method_46_code 64 = .ok (.iand, 1))
theorem d_C_jarsFor_65 : m_D k_C_jarsFor 65 (.ifCond .eq 36) 3 := (by decide +kernel : decode prog_1_method_46_code 65 = .ok (.ifCond .eq 36, 3))
theorem d_C_jarsFor_68 : m_D k_C_jarsFor 68 (.aload_n 0) 1 := (by decide +kernel : decode prog_1_method_46_code 68 = .ok (.aload_n 0, 1))
theorem d_C_jarsFor_69 : m_D k_C_jarsFor 69 (.getfield 61) 3 := (by decide +kernel : decode prog_1_method_46_code 69 = .ok (.getfield 61, 3))
theorem d_C_jarsFor_72 : m_D k_C_jarsFor 72 (.aload_n 0) 1 := (by decide +kernel : decode prog_1_method_46_code 72 = .ok (.aload_n 0, 1))
theorem d_C_jarsFor_73 : m_D k_C_jarsFor 73 (.getfield 37) 3 := (by decide +kernel : decode prog_1_method_46_code 73 = .ok (.getfield 37, 3))
theorem d_C_jarsFor_76 : m_D k_C_jarsFor 76 (.iload 4) 2 := (by decide +kernel : decode prog_1_method_46_code 76 = .ok (.iload 4, 2))
theorem d_C_jarsFor_78 : m_D k_C_jarsFor 78 (.iload_n 2) 1 := (by decide +kernel : decode prog_1_method_46_code 78 = .ok (.iload_n 2, 1))
theorem d_C_jarsFor_79 : m_D k_C_jarsFor 79 (.invokevirtual 321) 3 := (by decide +kernel : decode prog_1_method_46_code 79 = .ok (.invokevirtual 321, 3))
theorem d_C_jarsFor_82 : m_D k_C_jarsFor 82 (.istore 5) 2 := (by decide +kernel : decode prog_1_method_46_code 82 = .ok (.istore 5, 2))
theorem d_C_jarsFor_84 : m_D k_C_jarsFor 84 (.iload 5) 2 := (by decide +kernel : decode prog_1_method_46_code 84 = .ok (.iload 5, 2))
theorem d_C_jarsFor_86 : m_D k_C_jarsFor 86 (.iconst (-1)) 1 := (by decide +kernel : decode prog_1_method_46_code 86 = .ok (.iconst (-1), 1))
theorem d_C_jarsFor_87 : m_D k_C_jarsFor 87 (.if_icmp .ne 9) 3 := (by decide +kernel : decode prog_1_method_46_code 87 = .ok (.if_icmp .ne 9, 3))
theorem d_C_jarsFor_90 : m_D k_C_jarsFor 90 (.aload_n 0) 1 := (by decide +kernel : decode prog_1_method_46_code 90 = .ok (.aload_n 0, 1))
theorem d_C_jarsFor_91 : m_D k_C_jarsFor 91 (.iconst (-1)) 1 := (by decide +kernel : decode prog_1_method_46_code 91 = .ok (.iconst (-1), 1))
theorem d_C_jarsFor_92 : m_D k_C_jarsFor 92 (.invokevirtual 310) 3 := (by decide +kernel : decode prog_1_method_46_code 92 = .ok (.invokevirtual 310, 3))
theorem d_C_jarsFor_95 : m_D k_C_jarsFor 95 (.ireturn) 1 := (by decide +kernel : decode prog_1_method_46_code 95 = .ok (.ireturn, 1))
theorem d_C_jarsFor_96 : m_D k_C_jarsFor 96 (.iload_n 3) 1 := (by decide +kernel : decode prog_1_method_46_code 96 = .ok (.iload_n 3, 1))
theorem d_C_jarsFor_97 : m_D k_C_jarsFor 97 (.iload 5) 2 := (by decide +kernel : decode prog_1_method_46_code 97 = .ok (.iload 5, 2))
theorem d_C_jarsFor_99 : m_D k_C_jarsFor 99 (.iadd) 1 := (by decide +kernel : decode prog_1_method_46_code 99 = .ok (.iadd, 1))
theorem d_C_jarsFor_100 : m_D k_C_jarsFor 100 (.istore_n 3) 1 := (by decide +kernel : decode prog_1_method_46_code 100 = .ok (.istore_n 3, 1))
theorem d_C_jarsFor_101 : m_D k_C_jarsFor 101 (.iinc 4 1) 3 := (by decide +kernel : decode prog_1_method_46_code 101 = .ok (.iinc 4 1, 3))
theorem d_C_jarsFor_104 : m_D k_C_jarsFor 104 (.goto (-57)) 3 := (by decide +kernel : decode prog_1_method_46_code 104 = .ok (.goto (-57), 3))
theorem d_C_jarsFor_107 : m_D k_C_jarsFor 107 (.iload_n 3) 1 := (by decide +kernel : decode prog_1_method_46_code 107 = .ok (.iload_n 3, 1))
theorem d_C_jarsFor_108 : m_D k_C_jarsFor 108 (.ireturn) 1 := (by decide +kernel : decode prog_1_method_46_code 108 = .ok (.ireturn, 1))
def fn_C_jarsFor_l47 (x0 : Option mA) (x1 : Int32) (x2 : Int32) (t7 : Int32 × Int32) : mP ((Int32 × Int32) ⊕ (Int32)) :=
  m_bd (m_gR 0 5 x0) fun v8 =>
  m_bd (m_gI 3 1 v8) fun v9 =>
  if v9 ≤ t7.2 then
    m_rt (.inr t7.1)
  else
    if ((x1 >>> (t7.2 &&& 31)) &&& 1) = 0 then
      m_rt (.inl (t7.1, (t7.2 + 1)))
    else
      m_bd (m_gR 0 10 x0) fun v10 =>
      m_bd (m_gR 0 5 x0) fun v11 =>
      m_bd (fn_Ah_fewestJars v10 v11 t7.2 x2) fun v12 =>
      if v12 = (-1) then
        m_bd (fn_C_orNone x0 (-1)) fun v13 =>
        m_rt (.inr v13)
      else
        m_rt (.inl ((t7.1 + v12), (t7.2 + 1)))
def fn_C_jarsFor (x0 : Option mA) (x1 : Int32) (x2 : Int32) : mP Int32 :=
  m_th 0 x0 <|
  m_bd (m_gR 0 5 x0) fun v1 =>
  m_bd (m_gI 3 1 v1) fun v2 =>
  m_bd (fn_C_isSet x1 v2) fun v3 =>
  m_bd (α := Int32) (
    if v3 = 0 then
      m_rt 5
    else
      m_bd (fn_C_isWithin x2 0 8) fun v4 =>
      if v4 = 0 then
        m_rt 5
      else
        m_rt 0
    ) fun (t5 : Int32) =>
  m_bd (m_pI 0 0 x0 t5) fun _ =>
  m_bd (m_gI 0 0 x0) fun v6 =>
  if v6 = 0 then
    m_lp (fn_C_jarsFor_l47 x0 x1 x2) m_F (0, 0)
  else
    m_rt (-1)
set_option maxHeartbeats 4000000 in
set_option maxRecDepth 100000 in
theorem sd_C_jarsFor (x0 : Option mA) (x1 : Int32) (x2 : Int32) : m_Sm k_C_jarsFor 5 0 0 [.inr (.inr x0), .inl x1, .inl x2] (fn_C_jarsFor x0 x1 x2) (fun b => some (.inl b)) := by
  refine ⟨Nat.le_of_ble_eq_true rfl, ?_⟩
  refine sm_th ?_
  refine sm_aload_n (i := 0) (j := 0) (pc' := 1) d_C_jarsFor_0 rfl rfl rfl (sm_iload_n (i := 1) (j := 1) (pc' := 2) d_C_jarsFor_1 rfl rfl rfl (sm_aload_n (i := 0) (j := 0) (pc' := 3) d_C_jarsFor_2 rfl rfl rfl ?_))
  refine sm_getR (pc' := 6) d_C_jarsFor_3 rfl fl_C_37 rfl rfl (fun v1 => ?_)
  refine sm_getI (pc' := 9) d_C_jarsFor_6 rfl fl_C_156 rfl ⟨by decide, by decide⟩ (fun v2 => ?_)
  refine sm_callSi (av := [.inl x1, .inl v2]) (st := [.inr (.inr x0)]) (mc := 0) (ms := 0) (pc' := 12) d_C_jarsFor_9 rfl (sd_C_isSet x1 v2) cs_C_isSet w_ml_C_324 rfl rfl (by decide) (Nat.le_of_ble_eq_true rfl) rfl rfl (fun v3 => ?_)
  refine sm_bd (mid := fun (t5 : Int32) => .inl (30, [(0, .inr (.inr x0)), (1, .inl x1), (2, .inl x2)], [.inl t5, .inr (.inr x0)])) ?_ (fun t5 => ?_)
  · refine sm_if_eq (tgt := 29) (pc' := 15) d_C_jarsFor_12 rfl rfl ?_ ?_
    · refine sm_iconst (pc' := 30) d_C_jarsFor_29 rfl ic_5 (sm_sub [0, 1, 2] rfl ?_)
      exact sm_rt rfl
    · refine sm_iload_n (i := 2) (j := 2) (pc' := 16) d_C_jarsFor_15 rfl rfl rfl (sm_iconst (pc' := 17) d_C_jarsFor_16 rfl ic_0 (sm_bipush (pc' := 19) d_C_jarsFor_17 rfl ib_8 ?_))
      refine sm_callSi (av := [.inl x2, .inl 0, .inl 8]) (st := [.inr (.inr x0)]) (mc := 0) (ms := 0) (pc' := 22) d_C_jarsFor_19 rfl (sd_C_isWithin x2 0 8) cs_C_isWithin w_ml_C_269 rfl rfl (by decide) (Nat.le_of_ble_eq_true rfl) rfl rfl (fun v4 => ?_)
      refine sm_if_eq (tgt := 29) (pc' := 25) d_C_jarsFor_22 rfl rfl ?_ ?_
      · refine sm_iconst (pc' := 30) d_C_jarsFor_29 rfl ic_5 (sm_sub [0, 1, 2] rfl ?_)
        exact sm_rt rfl
      · refine sm_iconst (pc' := 26) d_C_jarsFor_25 rfl ic_0 (sm_goto (tgt := 30) d_C_jarsFor_26 rfl (sm_sub [0, 1, 2] rfl ?_))
        exact sm_rt rfl
  · refine sm_putI (pc' := 33) d_C_jarsFor_30 rfl fl_C_9 (Or.inl rfl) rfl (sm_aload_n (i := 0) (j := 0) (pc' := 34) d_C_jarsFor_33 rfl rfl rfl ?_)
    refine sm_getI (pc' := 37) d_C_jarsFor_34 rfl fl_C_9 rfl ⟨by decide, by decide⟩ (fun v6 => ?_)
    refine sm_if_eq (tgt := 42) (pc' := 40) d_C_jarsFor_37 rfl rfl ?_ ?_
    · refine sm_iconst (pc' := 43) d_C_jarsFor_42 rfl ic_0 (sm_istore_n (i := 3) (L' := [(3, .inl 0), (0, .inr (.inr x0)), (1, .inl x1), (2, .inl x2)]) (pc' := 44) d_C_jarsFor_43 rfl rfl (Nat.le_of_ble_eq_true rfl) rfl (sm_iconst (pc' := 45) d_C_jarsFor_44 rfl ic_0 (sm_istore (L' := [(4, .inl 0), (3, .inl 0), (0, .inr (.inr x0)), (1, .inl x1), (2, .inl x2)]) (pc' := 47) d_C_jarsFor_45 rfl (Nat.le_of_ble_eq_true rfl) rfl ?_)))
      refine sm_sub [1, 0, 2, 3, 4] rfl ?_
      refine sm_lp (hd := fun (t7 : Int32 × Int32) => (.inl (47, [(3, .inl t7.1), (4, .inl t7.2), (0, .inr (.inr x0)), (1, .inl x1), (2, .inl x2)], []) : mC)) (fun t7 => ?_) m_F (0, 0)
      refine sm_iload (j := 1) (pc' := 49) d_C_jarsFor_47 rfl rfl (sm_aload_n (i := 0) (j := 2) (pc' := 50) d_C_jarsFor_49 rfl rfl rfl ?_)
      refine sm_getR (pc' := 53) d_C_jarsFor_50 rfl fl_C_37 rfl rfl (fun v8 => ?_)
      refine sm_getI (pc' := 56) d_C_jarsFor_53 rfl fl_C_156 rfl ⟨by decide, by decide⟩ (fun v9 => ?_)
      refine sm_icmp_ge (tgt := 107) (pc' := 59) d_C_jarsFor_56 rfl rfl ?_ ?_
      · refine sm_iload_n (i := 3) (j := 0) (pc' := 108) d_C_jarsFor_107 rfl rfl rfl ?_
        exact sm_ireturn d_C_jarsFor_108 rfl rfl
      · refine sm_iload_n (i := 1) (j := 3) (pc' := 60) d_C_jarsFor_59 rfl rfl rfl (sm_iload (j := 1) (pc' := 62) d_C_jarsFor_60 rfl rfl (sm_ishr (pc' := 63) d_C_jarsFor_62 rfl (sm_iconst (pc' := 64) d_C_jarsFor_63 rfl ic_1 (sm_iand (pc' := 65) d_C_jarsFor_64 rfl ?_))))
        refine sm_if_eq (tgt := 101) (pc' := 68) d_C_jarsFor_65 rfl rfl ?_ ?_
        · refine sm_iinc (j := 1) (L' := [(4, .inl (t7.2 + 1)), (3, .inl t7.1), (0, .inr (.inr x0)), (1, .inl x1), (2, .inl x2)]) (pc' := 104) d_C_jarsFor_101 rfl (v := (t7.2 + 1)) rfl (ix_1 _) (Nat.le_of_ble_eq_true rfl) rfl (sm_goto (tgt := 47) d_C_jarsFor_104 rfl (sm_sub [1, 0, 2, 3, 4] rfl ?_))
          exact sm_rt rfl
        · refine sm_aload_n (i := 0) (j := 2) (pc' := 69) d_C_jarsFor_68 rfl rfl rfl ?_
          refine sm_getR (pc' := 72) d_C_jarsFor_69 rfl fl_C_61 rfl rfl (fun v10 => ?_)
          refine sm_aload_n (i := 0) (j := 2) (pc' := 73) d_C_jarsFor_72 rfl rfl rfl ?_
          refine sm_getR (pc' := 76) d_C_jarsFor_73 rfl fl_C_37 rfl rfl (fun v11 => ?_)
          refine sm_iload (j := 1) (pc' := 78) d_C_jarsFor_76 rfl rfl (sm_iload_n (i := 2) (j := 4) (pc' := 79) d_C_jarsFor_78 rfl rfl rfl ?_)
          refine sm_callVi (ci := 7) (x := v10) (av := [.inr (.inr v11), .inl t7.2, .inl x2]) (st := []) (mc := 0) (ms := 0) (pc' := 82) d_C_jarsFor_79 rfl (sd_Ah_fewestJars v10 v11 t7.2 x2) m_lv rfl cv_Ah_fewestJars w_ml_C_321 rfl rfl (by decide) (Nat.le_of_ble_eq_true rfl) rfl rfl (fun v12 => ?_)
          refine sm_istore (L' := [(5, .inl v12), (3, .inl t7.1), (4, .inl t7.2), (0, .inr (.inr x0)), (1, .inl x1), (2, .inl x2)]) (pc' := 84) d_C_jarsFor_82 rfl (Nat.le_of_ble_eq_true rfl) rfl (sm_iload (j := 0) (pc' := 86) d_C_jarsFor_84 rfl rfl (sm_iconst (pc' := 87) d_C_jarsFor_86 rfl ic_m1 ?_))
          refine sm_icmp_ne (tgt := 96) (pc' := 90) d_C_jarsFor_87 rfl rfl ?_ ?_
          · refine sm_iload_n (i := 3) (j := 1) (pc' := 97) d_C_jarsFor_96 rfl rfl rfl (sm_iload (j := 0) (pc' := 99) d_C_jarsFor_97 rfl rfl (sm_iadd (pc' := 100) d_C_jarsFor_99 rfl (sm_istore_n (i := 3) (L' := [(3, .inl (t7.1 + v12)), (5, .inl v12), (4, .inl t7.2), (0, .inr (.inr x0)), (1, .inl x1), (2, .inl x2)]) (pc' := 101) d_C_jarsFor_100 rfl rfl (Nat.le_of_ble_eq_true rfl) rfl (sm_iinc (j := 2) (L' := [(4, .inl (t7.2 + 1)), (3, .inl (t7.1 + v12)), (5, .inl v12), (0, .inr (.inr x0)), (1, .inl x1), (2, .inl x2)]) (pc' := 104) d_C_jarsFor_101 rfl (v := (t7.2 + 1)) rfl (ix_1 _) (Nat.le_of_ble_eq_true rfl) rfl (sm_goto (tgt := 47) d_C_jarsFor_104 rfl (sm_sub [1, 0, 3, 4, 5] rfl ?_))))))
            exact sm_rt rfl
          · refine sm_aload_n (i := 0) (j := 3) (pc' := 91) d_C_jarsFor_90 rfl rfl rfl (sm_iconst (pc' := 92) d_C_jarsFor_91 rfl ic_m1 ?_)
            refine sm_callVi (ci := 0) (x := x0) (av := [.inl (-1)]) (st := []) (mc := 0) (ms := 0) (pc' := 95) d_C_jarsFor_92 rfl (sd_C_orNone x0 (-1)) m_lv rfl cv_C_orNone w_ml_C_310 rfl rfl (by decide) (Nat.le_of_ble_eq_true rfl) rfl rfl (fun v13 => ?_)
            exact sm_ireturn d_C_jarsFor_95 rfl rfl
    · refine sm_iconst (pc' := 41) d_C_jarsFor_40 rfl ic_m1 ?_
      exact sm_ireturn d_C_jarsFor_41 rfl rfl
theorem d_C_less_0 : m_D k_C_less 0 (.aload_n 0) 1 := (by decide +kernel : decode prog_1_method_47_code 0 = .ok (.aload_n 0, 1))
theorem d_C_less_1 : m_D k_C_less 1 (.iload_n 1) 1 := (by decide +kernel : decode prog_1_method_47_code 1 = .ok (.iload_n 1, 1))
theorem d_C_less_2 : m_D k_C_less 2 (.iload_n 2) 1 := (by decide +kernel : decode prog_1_method_47_code 2 = .ok (.iload_n 2, 1))
theorem d_C_less_3 : m_D k_C_less 3 (.invokevirtual 263) 3 := (by decide +kernel : decode prog_1_method_47_code 3 = .ok (.invokevirtual 263, 3))
theorem d_C_less_6 : m_D k_C_less 6 (.istore 4) 2 := (by decide +kernel : decode prog_1_method_47_code 6 = .ok (.istore 4, 2))
theorem d_C_less_8 : m_D k_C_less 8 (.aload_n 0) 1 := (by decide +kernel : decode prog_1_method_47_code 8 = .ok (.aload_n 0, 1))
theorem d_C_less_9 : m_D k_C_less 9 (.iload 4) 2 := (by decide +kernel : decode prog_1_method_47_code 9 = .ok (.iload 4, 2))
theorem d_C_less_11 : m_D k_C_less 11 (.ifCond .eq 8) 3 := (by decide +kernel : decode prog_1_method_47_code 11 = .ok (.ifCond .eq 8, 3))
theorem d_C_less_14 : m_D k_C_less 14 (.iload 4) 2 := (by decide +kernel : decode prog_1_method_47_code 14 = .ok (.iload 4, 2))
theorem d_C_less_16 : m_D k_C_less 16 (.goto 18) 3 := (by decide +kernel : decode prog_1_method_47_code 16 = .ok (.goto 18, 3))
theorem d_C_less_19 : m_D k_C_less 19 (.iload_n 3) 1 := (by decide +kernel : decode prog_1_method_47_code 19 = .ok (.iload_n 3, 1))
theorem d_C_less_20 : m_D k_C_less 20 (.iconst 0) 1 := (by decide +kernel : decode prog_1_method_47_code 20 = .ok (.iconst 0, 1))
theorem d_C_less_21 : m_D k_C_less 21 (.bipush 50) 2 := (by decide +kernel : decode prog_1_method_47_code 21 = .ok (.bipush 50, 2))
theorem d_C_less_23 : m_D k_C_less 23 (.invokestatic 269) 3 := (by decide +kernel : decode prog_1_method_47_code 23 = .ok (.invokestatic 269, 3))
theorem d_C_less_26 : m_D k_C_less 26 (.ifCond .eq 7) 3 := (by decide +kernel : decode prog_1_method_47_code 26 = .ok (.ifCond .eq 7, 3))
theorem d_C_less_29 : m_D k_C_less 29 (.iconst 0) 1 := (by decide +kernel : decode prog_1_method_47_code 29 = .ok (.iconst 0, 1))
theorem d_C_less_30 : m_D k_C_less 30 (.goto 4) 3 := (by decide +kernel : decode prog_1_method_47_code 30 = .ok (.goto 4, 3))
theorem d_C_less_33 : m_D k_C_less 33 (.iconst 5) 1 := (by decide +kernel : decode prog_1_method_47_code 33 = .ok (.iconst 5, 1))
theorem d_C_less_34 : m_D k_C_less 34 (.putfield 9) 3 := (by decide +kernel : decode prog_1_method_47_code 34 = .ok (.putfield 9, 3))
theorem d_C_less_37 : m_D k_C_less 37 (.aload_n 0) 1 := (by decide +kernel : decode prog_1_method_47_code 37 = .ok (.aload_n 0, 1))
theorem d_C_less_38 : m_D k_C_less 38 (.getfield 9) 3 := (by decide +kernel : decode prog_1_method_47_code 38 = .ok (.getfield 9, 3))
theorem d_C_less_41 : m_D k_C_less 41 (.ifCond .eq 5) 3 := (by decide +kernel : decode prog_1_method_47_code 41 = .ok (.ifCond .eq 5, 3))
theorem d_C_less_44 : m_D k_C_less 44 (.iconst (-1)) 1 := (by decide +kernel : decode prog_1_method_47_code 44 = .ok (.iconst (-1), 1))
theorem d_C_less_45 : m_D k_C_less 45 (.ireturn) 1 := (by decide +kernel : decode prog_1_method_47_code 45 = .ok (.ireturn, 1))
theorem d_C_less_46 : m_D k_C_less 46 (.aload_n 0) 1 := (by decide +kernel : decode prog_1_method_47_code 46 = .ok (.aload_n 0, 1))
theorem d_C_less_47 : m_D k_C_less 47 (.getfield 37) 3 := (by decide +kernel : decode prog_1_method_47_code 47 = .ok (.getfield 37, 3))
theorem d_C_less_50 : m_D k_C_less 50 (.getfield 212) 3 := (by decide +kernel : decode prog_1_method_47_code 50 = .ok (.getfield 212, 3))
theorem d_C_less_53 : m_D k_C_less 53 (.iload_n 1) 1 := (by decide +kernel : decode prog_1_method_47_code 53 = .ok (.iload_n 1, 1))
theorem d_C_less_54 : m_D k_C_less 54 (.aaload) 1 := (by decide +kernel : decode prog_1_method_47_code 54 = .ok (.aaload, 1))
theorem d_C_less_55 : m_D k_C_less 55 (.getfield 266) 3 := (by decide +kernel : decode prog_1_method_47_code 55 = .ok (.getfield 266, 3))
theorem d_C_less_58 : m_D k_C_less 58 (.iload_n 2) 1 := (by decide +kernel : decode prog_1_method_47_code 58 = .ok (.iload_n 2, 1))
theorem d_C_less_59 : m_D k_C_less 59 (.iaload) 1 := (by decide +kernel : decode prog_1_method_47_code 59 = .ok (.iaload, 1))
theorem d_C_less_60 : m_D k_C_less 60 (.istore 5) 2 := (by decide +kernel : decode prog_1_method_47_code 60 = .ok (.istore 5, 2))
theorem d_C_less_62 : m_D k_C_less 62 (.iconst 0) 1 := (by decide +kernel : decode prog_1_method_47_code 62 = .ok (.iconst 0, 1))
theorem d_C_less_63 : m_D k_C_less 63 (.istore 6) 2 := (by decide +kernel : decode prog_1_method_47_code 63 = .ok (.istore 6, 2))
theorem d_C_less_65 : m_D k_C_less 65 (.iload 6) 2 := (by decide +kernel : decode prog_1_method_47_code 65 = .ok (.iload 6, 2))
theorem d_C_less_67 : m_D k_C_less 67 (.iload 5) 2 := (by decide +kernel : decode prog_1_method_47_code 67 = .ok (.iload 5, 2))
theorem d_C_less_69 : m_D k_C_less 69 (.if_icmp .gt 32) 3 := (by decide +kernel : decode prog_1_method_47_code 69 = .ok (.if_icmp .gt 32, 3))
theorem d_C_less_72 : m_D k_C_less 72 (.aload_n 0) 1 := (by decide +kernel : decode prog_1_method_47_code 72 = .ok (.aload_n 0, 1))
theorem d_C_less_73 : m_D k_C_less 73 (.getfield 61) 3 := (by decide +kernel : decode prog_1_method_47_code 73 = .ok (.getfield 61, 3))
theorem d_C_less_76 : m_D k_C_less 76 (.aload_n 0) 1 := (by decide +kernel : decode prog_1_method_47_code 76 = .ok (.aload_n 0, 1))
theorem d_C_less_77 : m_D k_C_less 77 (.getfield 37) 3 := (by decide +kernel : decode prog_1_method_47_code 77 = .ok (.getfield 37, 3))
theorem d_C_less_80 : m_D k_C_less 80 (.iload_n 2) 1 := (by decide +kernel : decode prog_1_method_47_code 80 = .ok (.iload_n 2, 1))
theorem d_C_less_81 : m_D k_C_less 81 (.iload_n 3) 1 := (by decide +kernel : decode prog_1_method_47_code 81 = .ok (.iload_n 3, 1))
theorem d_C_less_82 : m_D k_C_less 82 (.iload_n 1) 1 := (by decide +kernel : decode prog_1_method_47_code 82 = .ok (.iload_n 1, 1))
theorem d_C_less_83 : m_D k_C_less 83 (.iload 6) 2 := (by decide +kernel : decode prog_1_method_47_code 83 = .ok (.iload 6, 2))
theorem d_C_less_85 : m_D k_C_less 85 (.invokevirtual 306) 3 := (by decide +kernel : decode prog_1_method_47_code 85 = .ok (.invokevirtual 306, 3))
theorem d_C_less_88 : m_D k_C_less 88 (.iconst (-1)) 1 := (by decide +kernel : decode prog_1_method_47_code 88 = .ok (.iconst (-1), 1))
theorem d_C_less_89 : m_D k_C_less 89 (.if_icmp .ne 6) 3 := (by decide +kernel : decode prog_1_method_47_code 89 = .ok (.if_icmp .ne 6, 3))
theorem d_C_less_92 : m_D k_C_less 92 (.iload 6) 2 := (by decide +kernel : decode prog_1_method_47_code 92 = .ok (.iload 6, 2))
theorem d_C_less_94 : m_D k_C_less 94 (.ireturn) 1 := (by decide +kernel : decode prog_1_method_47_code 94 = .ok (.ireturn, 1))
theorem d_C_less_95 : m_D k_C_less 95 (.iinc 6 1) 3 := (by decide +kernel : decode prog_1_method_47_code 95 = .ok (.iinc 6 1, 3))
theorem d_C_less_98 : m_D k_C_less 98 (.goto (-33)) 3 := (by decide +kernel : decode prog_1_method_47_code 98 = .ok (.goto (-33), 3))
theorem d_C_less_101 : m_D k_C_less 101 (.aload_n 0) 1 := (by decide +kernel : decode prog_1_method_47_code 101 = .ok (.aload_n 0, 1))
theorem d_C_less_102 : m_D k_C_less 102 (.iconst (-1)) 1 := (by decide +kernel : decode prog_1_method_47_code 102 = .ok (.iconst (-1), 1))
theorem d_C_less_103 : m_D k_C_less 103 (.invokevirtual 310) 3 := (by decide +kernel : decode prog_1_method_47_code 103 = .ok (.invokevirtual 310, 3))
theorem d_C_less_106 : m_D k_C_less 106 (.ireturn) 1 := (by decide +kernel : decode prog_1_method_47_code 106 = .ok (.ireturn, 1))
def fn_C_less_l65 (x0 : Option mA) (x1 : Int32) (x2 : Int32) (x3 : Int32) (v9 : Int32) (t10 : Int32) : mP ((Int32) ⊕ (Int32)) :=
  if v9 < t10 then
    m_bd (fn_C_orNone x0 (-1)) fun v11 =>
    m_rt (.inr v11)
  else
    m_bd (m_gR 0 10 x0) fun v12 =>
    m_bd (m_gR 0 5 x0) fun v13 =>
    m_bd (fn_Ah_walk v12 v13 x2 x3 x1 t10) fun v14 =>
    if v14 = (-1) then
      m_rt (.inr t10)
    else
      m_rt (.inl (t10 + 1))
def fn_C_less (x0 : Option mA) (x1 : Int32) (x2 : Int32) (x3 : Int32) : mP Int32 :=
  m_th 0 x0 <|
  m_bd (fn_C_pairStatus x0 x1 x2) fun v1 =>
  m_bd (α := Int32) (
    if v1 = 0 then
      m_bd (fn_C_isWithin x3 0 50) fun v2 =>
      if v2 = 0 then
        m_rt 5
      else
        m_rt 0
    else
      m_rt v1
    ) fun (t3 : Int32) =>
  m_bd (m_pI 0 0 x0 t3) fun _ =>
  m_bd (m_gI 0 0 x0) fun v4 =>
  if v4 = 0 then
    m_bd (m_gR 0 5 x0) fun v5 =>
    m_bd (m_gR 3 7 v5) fun v6 =>
    m_bd (m_aR 6 v6 x1) fun v7 =>
    m_bd (m_gR 4 4 v7) fun v8 =>
    m_bd (m_aI 0 v8 x2) fun v9 =>
    m_lp (fn_C_less_l65 x0 x1 x2 x3 v9) m_F 0
  else
    m_rt (-1)
set_option maxHeartbeats 4000000 in
set_option maxRecDepth 100000 in
theorem sd_C_less (x0 : Option mA) (x1 : Int32) (x2 : Int32) (x3 : Int32) : m_Sm k_C_less 5 0 0 [.inr (.inr x0), .inl x1, .inl x2, .inl x3] (fn_C_less x0 x1 x2 x3) (fun b => some (.inl b)) := by
  refine ⟨Nat.le_of_ble_eq_true rfl, ?_⟩
  refine sm_th ?_
  refine sm_aload_n (i := 0) (j := 0) (pc' := 1) d_C_less_0 rfl rfl rfl (sm_iload_n (i := 1) (j := 1) (pc' := 2) d_C_less_1 rfl rfl rfl (sm_iload_n (i := 2) (j := 2) (pc' := 3) d_C_less_2 rfl rfl rfl ?_))
  refine sm_callVi (ci := 0) (x := x0) (av := [.inl x1, .inl x2]) (st := []) (mc := 0) (ms := 0) (pc' := 6) d_C_less_3 rfl (sd_C_pairStatus x0 x1 x2) m_lv rfl cv_C_pairStatus w_ml_C_263 rfl rfl (by decide) (Nat.le_of_ble_eq_true rfl) rfl rfl (fun v1 => ?_)
  refine sm_istore (L' := [(4, .inl v1), (0, .inr (.inr x0)), (1, .inl x1), (2, .inl x2), (3, .inl x3)]) (pc' := 8) d_C_less_6 rfl (Nat.le_of_ble_eq_true rfl) rfl (sm_aload_n (i := 0) (j := 1) (pc' := 9) d_C_less_8 rfl rfl rfl (sm_iload (j := 0) (pc' := 11) d_C_less_9 rfl rfl ?_))
  refine sm_bd (mid := fun (t3 : Int32) => .inl (34, [(0, .inr (.inr x0)), (1, .inl x1), (2, .inl x2), (3, .inl x3)], [.inl t3, .inr (.inr x0)])) ?_ (fun t3 => ?_)
  · refine sm_if_eq (tgt := 19) (pc' := 14) d_C_less_11 rfl rfl ?_ ?_
    · refine sm_iload_n (i := 3) (j := 4) (pc' := 20) d_C_less_19 rfl rfl rfl (sm_iconst (pc' := 21) d_C_less_20 rfl ic_0 (sm_bipush (pc' := 23) d_C_less_21 rfl ib_50 ?_))
      refine sm_callSi (av := [.inl x3, .inl 0, .inl 50]) (st := [.inr (.inr x0)]) (mc := 0) (ms := 0) (pc' := 26) d_C_less_23 rfl (sd_C_isWithin x3 0 50) cs_C_isWithin w_ml_C_269 rfl rfl (by decide) (Nat.le_of_ble_eq_true rfl) rfl rfl (fun v2 => ?_)
      refine sm_if_eq (tgt := 33) (pc' := 29) d_C_less_26 rfl rfl ?_ ?_
      · refine sm_iconst (pc' := 34) d_C_less_33 rfl ic_5 (sm_sub [1, 2, 3, 4] rfl ?_)
        exact sm_rt rfl
      · refine sm_iconst (pc' := 30) d_C_less_29 rfl ic_0 (sm_goto (tgt := 34) d_C_less_30 rfl (sm_sub [1, 2, 3, 4] rfl ?_))
        exact sm_rt rfl
    · refine sm_iload (j := 0) (pc' := 16) d_C_less_14 rfl rfl (sm_goto (tgt := 34) d_C_less_16 rfl (sm_sub [1, 2, 3, 4] rfl ?_))
      exact sm_rt rfl
  · refine sm_putI (pc' := 37) d_C_less_34 rfl fl_C_9 (Or.inl rfl) rfl (sm_aload_n (i := 0) (j := 0) (pc' := 38) d_C_less_37 rfl rfl rfl ?_)
    refine sm_getI (pc' := 41) d_C_less_38 rfl fl_C_9 rfl ⟨by decide, by decide⟩ (fun v4 => ?_)
    refine sm_if_eq (tgt := 46) (pc' := 44) d_C_less_41 rfl rfl ?_ ?_
    · refine sm_aload_n (i := 0) (j := 0) (pc' := 47) d_C_less_46 rfl rfl rfl ?_
      refine sm_getR (pc' := 50) d_C_less_47 rfl fl_C_37 rfl rfl (fun v5 => ?_)
      refine sm_getR (pc' := 53) d_C_less_50 rfl fl_C_212 rfl rfl (fun v6 => ?_)
      refine sm_iload_n (i := 1) (j := 1) (pc' := 54) d_C_less_53 rfl rfl rfl ?_
      refine sm_aald (t := 6) ⟨by decide, by decide⟩ rfl (pc' := 55) d_C_less_54 rfl (fun v7 => ?_)
      refine sm_getR (pc' := 58) d_C_less_55 rfl fl_C_266 rfl rfl (fun v8 => ?_)
      refine sm_iload_n (i := 2) (j := 2) (pc' := 59) d_C_less_58 rfl rfl rfl ?_
      refine sm_iald (pc' := 60) d_C_less_59 rfl (fun v9 => ?_)
      refine sm_istore (L' := [(5, .inl v9), (0, .inr (.inr x0)), (1, .inl x1), (2, .inl x2), (3, .inl x3)]) (pc' := 62) d_C_less_60 rfl (Nat.le_of_ble_eq_true rfl) rfl (sm_iconst (pc' := 63) d_C_less_62 rfl ic_0 (sm_istore (L' := [(6, .inl 0), (5, .inl v9), (0, .inr (.inr x0)), (1, .inl x1), (2, .inl x2), (3, .inl x3)]) (pc' := 65) d_C_less_63 rfl (Nat.le_of_ble_eq_true rfl) rfl ?_))
      refine sm_sub [0, 2, 3, 4, 5, 1] rfl ?_
      refine sm_lp (hd := fun (t10 : Int32) => (.inl (65, [(6, .inl t10), (0, .inr (.inr x0)), (1, .inl x1), (2, .inl x2), (3, .inl x3), (5, .inl v9)], []) : mC)) (fun t10 => ?_) m_F 0
      refine sm_iload (j := 0) (pc' := 67) d_C_less_65 rfl rfl (sm_iload (j := 5) (pc' := 69) d_C_less_67 rfl rfl ?_)
      refine sm_icmp_gt (tgt := 101) (pc' := 72) d_C_less_69 rfl rfl ?_ ?_
      · refine sm_aload_n (i := 0) (j := 1) (pc' := 102) d_C_less_101 rfl rfl rfl (sm_iconst (pc' := 103) d_C_less_102 rfl ic_m1 ?_)
        refine sm_callVi (ci := 0) (x := x0) (av := [.inl (-1)]) (st := []) (mc := 0) (ms := 0) (pc' := 106) d_C_less_103 rfl (sd_C_orNone x0 (-1)) m_lv rfl cv_C_orNone w_ml_C_310 rfl rfl (by decide) (Nat.le_of_ble_eq_true rfl) rfl rfl (fun v11 => ?_)
        exact sm_ireturn d_C_less_106 rfl rfl
      · refine sm_aload_n (i := 0) (j := 1) (pc' := 73) d_C_less_72 rfl rfl rfl ?_
        refine sm_getR (pc' := 76) d_C_less_73 rfl fl_C_61 rfl rfl (fun v12 => ?_)
        refine sm_aload_n (i := 0) (j := 1) (pc' := 77) d_C_less_76 rfl rfl rfl ?_
        refine sm_getR (pc' := 80) d_C_less_77 rfl fl_C_37 rfl rfl (fun v13 => ?_)
        refine sm_iload_n (i := 2) (j := 3) (pc' := 81) d_C_less_80 rfl rfl rfl (sm_iload_n (i := 3) (j := 4) (pc' := 82) d_C_less_81 rfl rfl rfl (sm_iload_n (i := 1) (j := 2) (pc' := 83) d_C_less_82 rfl rfl rfl (sm_iload (j := 0) (pc' := 85) d_C_less_83 rfl rfl ?_)))
        refine sm_callVi (ci := 7) (x := v12) (av := [.inr (.inr v13), .inl x2, .inl x3, .inl x1, .inl t10]) (st := []) (mc := 0) (ms := 0) (pc' := 88) d_C_less_85 rfl (sd_Ah_walk v12 v13 x2 x3 x1 t10) m_lv rfl cv_Ah_walk w_ml_C_306 rfl rfl (by decide) (Nat.le_of_ble_eq_true rfl) rfl rfl (fun v14 => ?_)
        refine sm_iconst (pc' := 89) d_C_less_88 rfl ic_m1 ?_
        refine sm_icmp_ne (tgt := 95) (pc' := 92) d_C_less_89 rfl rfl ?_ ?_
        · refine sm_iinc (j := 0) (L' := [(6, .inl (t10 + 1)), (0, .inr (.inr x0)), (1, .inl x1), (2, .inl x2), (3, .inl x3), (5, .inl v9)]) (pc' := 98) d_C_less_95 rfl (v := (t10 + 1)) rfl (ix_1 _) (Nat.le_of_ble_eq_true rfl) rfl (sm_goto (tgt := 65) d_C_less_98 rfl (sm_sub [0, 1, 2, 3, 4, 5] rfl ?_))
          exact sm_rt rfl
        · refine sm_iload (j := 0) (pc' := 94) d_C_less_92 rfl rfl ?_
          exact sm_ireturn d_C_less_94 rfl rfl
    · refine sm_iconst (pc' := 45) d_C_less_44 rfl ic_m1 ?_
      exact sm_ireturn d_C_less_45 rfl rfl
theorem d_C_areTwos_0 : m_D k_C_areTwos 0 (.iconst 0) 1 := (by decide +kernel : decode prog_1_method_53_code 0 = .ok (.iconst 0, 1))
theorem d_C_areTwos_1 : m_D k_C_areTwos 1 (.istore_n 2) 1 := (by decide +kernel : decode prog_1_method_53_code 1 = .ok (.istore_n 2, 1))
theorem d_C_areTwos_2 : m_D k_C_areTwos 2 (.iload_n 2) 1 := (by decide +kernel : decode prog_1_method_53_code 2 = .ok (.iload_n 2, 1))
theorem d_C_areTwos_3 : m_D k_C_areTwos 3 (.iload_n 1) 1 := (by decide +kernel : decode prog_1_method_53_code 3 = .ok (.iload_n 1, 1))
theorem d_C_areTwos_4 : m_D k_C_areTwos 4 (.if_icmp .ge 45) 3 := (by decide +kernel : decode prog_1_method_53_code 4 = .ok (.if_icmp .ge 45, 3))
theorem d_C_areTwos_7 : m_D k_C_areTwos 7 (.aload_n 0) 1 := (by decide +kernel : decode prog_1_method_53_code 7 = .ok (.aload_n 0, 1))
theorem d_C_areTwos_8 : m_D k_C_areTwos 8 (.iconst 2) 1 := (by decide +kernel : decode prog_1_method_53_code 8 = .ok (.iconst 2, 1))
theorem d_C_areTwos_9 : m_D k_C_areTwos 9 (.iload_n 2) 1 := (by decide +kernel : decode prog_1_method_53_code 9 = .ok (.iload_n 2, 1))
theorem d_C_areTwos_10 : m_D k_C_areTwos 10 (.imul) 1 := (by decide +kernel : decode prog_1_method_53_code 10 = .ok (.imul, 1))
theorem d_C_areTwos_11 : m_D k_C_areTwos 11 (.laload) 1 := (by decide +kernel : decode prog_1_method_53_code 11 = .ok (.laload, 1))
theorem d_C_areTwos_12 : m_D k_C_areTwos 12 (.lconst 0) 1 := (by decide +kernel : decode prog_1_method_53_code 12 = .ok (.lconst 0, 1))
theorem d_C_areTwos_13 : m_D k_C_areTwos 13 (.lcmp) 1 := (by decide +kernel : decode prog_1_method_53_code 13 = .ok (.lcmp, 1))
theorem d_C_areTwos_14 : m_D k_C_areTwos 14 (.ifCond .lt 27) 3 := (by decide +kernel : decode prog_1_method_53_code 14 = .ok (.ifCond .lt 27, 3))
theorem d_C_areTwos_17 : m_D k_C_areTwos 17 (.aload_n 0) 1 := (by decide +kernel : decode prog_1_method_53_code 17 = .ok (.aload_n 0, 1))
theorem d_C_areTwos_18 : m_D k_C_areTwos 18 (.iconst 2) 1 := (by decide +kernel : decode prog_1_method_53_code 18 = .ok (.iconst 2, 1))
theorem d_C_areTwos_19 : m_D k_C_areTwos 19 (.iload_n 2) 1 := (by decide +kernel : decode prog_1_method_53_code 19 = .ok (.iload_n 2, 1))
theorem d_C_areTwos_20 : m_D k_C_areTwos 20 (.imul) 1 := (by decide +kernel : decode prog_1_method_53_code 20 = .ok (.imul, 1))
theorem d_C_areTwos_21 : m_D k_C_areTwos 21 (.laload) 1 := (by decide +kernel : decode prog_1_method_53_code 21 = .ok (.laload, 1))
theorem d_C_areTwos_22 : m_D k_C_areTwos 22 (.ldc2_w 352) 3 := (by decide +kernel : decode prog_1_method_53_code 22 = .ok (.ldc2_w 352, 3))
theorem d_C_areTwos_25 : m_D k_C_areTwos 25 (.lcmp) 1 := (by decide +kernel : decode prog_1_method_53_code 25 = .ok (.lcmp, 1))
theorem d_C_areTwos_26 : m_D k_C_areTwos 26 (.ifCond .gt 15) 3 := (by decide +kernel : decode prog_1_method_53_code 26 = .ok (.ifCond .gt 15, 3))
theorem d_C_areTwos_29 : m_D k_C_areTwos 29 (.aload_n 0) 1 := (by decide +kernel : decode prog_1_method_53_code 29 = .ok (.aload_n 0, 1))
theorem d_C_areTwos_30 : m_D k_C_areTwos 30 (.iconst 2) 1 := (by decide +kernel : decode prog_1_method_53_code 30 = .ok (.iconst 2, 1))
theorem d_C_areTwos_31 : m_D k_C_areTwos 31 (.iload_n 2) 1 := (by decide +kernel : decode prog_1_method_53_code 31 = .ok (.iload_n 2, 1))
theorem d_C_areTwos_32 : m_D k_C_areTwos 32 (.imul) 1 := (by decide +kernel : decode prog_1_method_53_code 32 = .ok (.imul, 1))
theorem d_C_areTwos_33 : m_D k_C_areTwos 33 (.iconst 1) 1 := (by decide +kernel : decode prog_1_method_53_code 33 = .ok (.iconst 1, 1))
theorem d_C_areTwos_34 : m_D k_C_areTwos 34 (.iadd) 1 := (by decide +kernel : decode prog_1_method_53_code 34 = .ok (.iadd, 1))
theorem d_C_areTwos_35 : m_D k_C_areTwos 35 (.laload) 1 := (by decide +kernel : decode prog_1_method_53_code 35 = .ok (.laload, 1))
theorem d_C_areTwos_36 : m_D k_C_areTwos 36 (.lconst 0) 1 := (by decide +kernel : decode prog_1_method_53_code 36 = .ok (.lconst 0, 1))
theorem d_C_areTwos_37 : m_D k_C_areTwos 37 (.lcmp) 1 := (by decide +kernel : decode prog_1_method_53_code 37 = .ok (.lcmp, 1))
theorem d_C_areTwos_38 : m_D k_C_areTwos 38 (.ifCond .ge 5) 3 := (by decide +kernel : decode prog_1_method_53_code 38 = .ok (.ifCond .ge 5, 3))
theorem d_C_areTwos_41 : m_D k_C_areTwos 41 (.iconst 0) 1 := (by decide +kernel : decode prog_1_method_53_code 41 = .ok (.iconst 0, 1))
theorem d_C_areTwos_42 : m_D k_C_areTwos 42 (.ireturn) 1 := (by decide +kernel : decode prog_1_method_53_code 42 = .ok (.ireturn, 1))
theorem d_C_areTwos_43 : m_D k_C_areTwos 43 (.iinc 2 1) 3 := (by decide +kernel : decode prog_1_method_53_code 43 = .ok (.iinc 2 1, 3))
theorem d_C_areTwos_46 : m_D k_C_areTwos 46 (.goto (-44)) 3 := (by decide +kernel : decode prog_1_method_53_code 46 = .ok (.goto (-44), 3))
theorem d_C_areTwos_49 : m_D k_C_areTwos 49 (.iconst 1) 1 := (by decide +kernel : decode prog_1_method_53_code 49 = .ok (.iconst 1, 1))
theorem d_C_areTwos_50 : m_D k_C_areTwos 50 (.ireturn) 1 := (by decide +kernel : decode prog_1_method_53_code 50 = .ok (.ireturn, 1))
def fn_C_areTwos_l2 (x0 : Option mA) (x1 : Int32) (t1 : Int32) : mP ((Int32) ⊕ (Int32)) :=
  if x1 ≤ t1 then
    m_rt (.inr 1)
  else
    m_bd (m_aJ x0 (2 * t1)) fun v2 =>
    if (lg_cmp v2 0) < 0 then
      m_rt (.inr 0)
    else
      m_bd (m_aJ x0 (2 * t1)) fun v3 =>
      if 0 < (lg_cmp v3 9) then
        m_rt (.inr 0)
      else
        m_bd (m_aJ x0 ((2 * t1) + 1)) fun v4 =>
        if 0 ≤ (lg_cmp v4 0) then
          m_rt (.inl (t1 + 1))
        else
          m_rt (.inr 0)
def fn_C_areTwos (x0 : Option mA) (x1 : Int32) : mP Int32 :=
  m_lp (fn_C_areTwos_l2 x0 x1) m_F 0
set_option maxHeartbeats 4000000 in
set_option maxRecDepth 100000 in
theorem sd_C_areTwos (x0 : Option mA) (x1 : Int32) : m_Sm k_C_areTwos 1 0 0 [.inr (.inr x0), .inl x1] (fn_C_areTwos x0 x1) (fun b => some (.inl b)) := by
  refine ⟨Nat.le_of_ble_eq_true rfl, ?_⟩
  refine sm_iconst (pc' := 1) d_C_areTwos_0 rfl ic_0 (sm_istore_n (i := 2) (L' := [(2, .inl 0), (0, .inr (.inr x0)), (1, .inl x1)]) (pc' := 2) d_C_areTwos_1 rfl rfl (Nat.le_of_ble_eq_true rfl) rfl ?_)
  refine sm_sub [0, 1, 2] rfl ?_
  refine sm_lp (hd := fun (t1 : Int32) => (.inl (2, [(2, .inl t1), (0, .inr (.inr x0)), (1, .inl x1)], []) : mC)) (fun t1 => ?_) m_F 0
  refine sm_iload_n (i := 2) (j := 0) (pc' := 3) d_C_areTwos_2 rfl rfl rfl (sm_iload_n (i := 1) (j := 2) (pc' := 4) d_C_areTwos_3 rfl rfl rfl ?_)
  refine sm_icmp_ge (tgt := 49) (pc' := 7) d_C_areTwos_4 rfl rfl ?_ ?_
  · refine sm_iconst (pc' := 50) d_C_areTwos_49 rfl ic_1 ?_
    exact sm_zreturn d_C_areTwos_50 rfl (by decide) rfl
  · refine sm_aload_n (i := 0) (j := 1) (pc' := 8) d_C_areTwos_7 rfl rfl rfl (sm_iconst (pc' := 9) d_C_areTwos_8 rfl ic_2 (sm_iload_n (i := 2) (j := 0) (pc' := 10) d_C_areTwos_9 rfl rfl rfl (sm_imul (pc' := 11) d_C_areTwos_10 rfl ?_)))
    refine sm_lald (pc' := 12) d_C_areTwos_11 rfl (fun v2 => ?_)
    refine sm_lconst (pc' := 13) (v := 0) d_C_areTwos_12 rfl rfl (sm_lcmp (pc' := 14) d_C_areTwos_13 rfl ?_)
    refine sm_if_lt (tgt := 41) (pc' := 17) d_C_areTwos_14 rfl rfl ?_ ?_
    · refine sm_iconst (pc' := 42) d_C_areTwos_41 rfl ic_0 ?_
      exact sm_zreturn d_C_areTwos_42 rfl (by decide) rfl
    · refine sm_aload_n (i := 0) (j := 1) (pc' := 18) d_C_areTwos_17 rfl rfl rfl (sm_iconst (pc' := 19) d_C_areTwos_18 rfl ic_2 (sm_iload_n (i := 2) (j := 0) (pc' := 20) d_C_areTwos_19 rfl rfl rfl (sm_imul (pc' := 21) d_C_areTwos_20 rfl ?_)))
      refine sm_lald (pc' := 22) d_C_areTwos_21 rfl (fun v3 => ?_)
      refine sm_ldc2 (v := 9) (pc' := 25) d_C_areTwos_22 rfl w_cl_C_352 (sm_lcmp (pc' := 26) d_C_areTwos_25 rfl ?_)
      refine sm_if_gt (tgt := 41) (pc' := 29) d_C_areTwos_26 rfl rfl ?_ ?_
      · refine sm_iconst (pc' := 42) d_C_areTwos_41 rfl ic_0 ?_
        exact sm_zreturn d_C_areTwos_42 rfl (by decide) rfl
      · refine sm_aload_n (i := 0) (j := 1) (pc' := 30) d_C_areTwos_29 rfl rfl rfl (sm_iconst (pc' := 31) d_C_areTwos_30 rfl ic_2 (sm_iload_n (i := 2) (j := 0) (pc' := 32) d_C_areTwos_31 rfl rfl rfl (sm_imul (pc' := 33) d_C_areTwos_32 rfl (sm_iconst (pc' := 34) d_C_areTwos_33 rfl ic_1 (sm_iadd (pc' := 35) d_C_areTwos_34 rfl ?_)))))
        refine sm_lald (pc' := 36) d_C_areTwos_35 rfl (fun v4 => ?_)
        refine sm_lconst (pc' := 37) (v := 0) d_C_areTwos_36 rfl rfl (sm_lcmp (pc' := 38) d_C_areTwos_37 rfl ?_)
        refine sm_if_ge (tgt := 43) (pc' := 41) d_C_areTwos_38 rfl rfl ?_ ?_
        · refine sm_iinc (j := 0) (L' := [(2, .inl (t1 + 1)), (0, .inr (.inr x0)), (1, .inl x1)]) (pc' := 46) d_C_areTwos_43 rfl (v := (t1 + 1)) rfl (ix_1 _) (Nat.le_of_ble_eq_true rfl) rfl (sm_goto (tgt := 2) d_C_areTwos_46 rfl (sm_sub [0, 1, 2] rfl ?_))
          exact sm_rt rfl
        · refine sm_iconst (pc' := 42) d_C_areTwos_41 rfl ic_0 ?_
          exact sm_zreturn d_C_areTwos_42 rfl (by decide) rfl
theorem d_C_seenStatus_0 : m_D k_C_seenStatus 0 (.aload_n 0) 1 := (by decide +kernel : decode prog_1_method_52_code 0 = .ok (.aload_n 0, 1))
theorem d_C_seenStatus_1 : m_D k_C_seenStatus 1 (.iload_n 1) 1 := (by decide +kernel : decode prog_1_method_52_code 1 = .ok (.iload_n 1, 1))
theorem d_C_seenStatus_2 : m_D k_C_seenStatus 2 (.invokevirtual 137) 3 := (by decide +kernel : decode prog_1_method_52_code 2 = .ok (.invokevirtual 137, 3))
theorem d_C_seenStatus_5 : m_D k_C_seenStatus 5 (.istore_n 3) 1 := (by decide +kernel : decode prog_1_method_52_code 5 = .ok (.istore_n 3, 1))
theorem d_C_seenStatus_6 : m_D k_C_seenStatus 6 (.iload_n 3) 1 := (by decide +kernel : decode prog_1_method_52_code 6 = .ok (.iload_n 3, 1))
theorem d_C_seenStatus_7 : m_D k_C_seenStatus 7 (.ifCond .eq 7) 3 := (by decide +kernel : decode prog_1_method_52_code 7 = .ok (.ifCond .eq 7, 3))
theorem d_C_seenStatus_10 : m_D k_C_seenStatus 10 (.iload_n 3) 1 := (by decide +kernel : decode prog_1_method_52_code 10 = .ok (.iload_n 3, 1))
theorem d_C_seenStatus_11 : m_D k_C_seenStatus 11 (.goto 58) 3 := (by decide +kernel : decode prog_1_method_52_code 11 = .ok (.goto 58, 3))
theorem d_C_seenStatus_14 : m_D k_C_seenStatus 14 (.ldc2_w 343) 3 := (by decide +kernel : decode prog_1_method_52_code 14 = .ok (.ldc2_w 343, 3))
theorem d_C_seenStatus_17 : m_D k_C_seenStatus 17 (.iload_n 2) 1 := (by decide +kernel : decode prog_1_method_52_code 17 = .ok (.iload_n 2, 1))
theorem d_C_seenStatus_18 : m_D k_C_seenStatus 18 (.i2l) 1 := (by decide +kernel : decode prog_1_method_52_code 18 = .ok (.i2l, 1))
theorem d_C_seenStatus_19 : m_D k_C_seenStatus 19 (.lmul) 1 := (by decide +kernel : decode prog_1_method_52_code 19 = .ok (.lmul, 1))
theorem d_C_seenStatus_20 : m_D k_C_seenStatus 20 (.aload_n 0) 1 := (by decide +kernel : decode prog_1_method_52_code 20 = .ok (.aload_n 0, 1))
theorem d_C_seenStatus_21 : m_D k_C_seenStatus 21 (.getfield 22) 3 := (by decide +kernel : decode prog_1_method_52_code 21 = .ok (.getfield 22, 3))
theorem d_C_seenStatus_24 : m_D k_C_seenStatus 24 (.iload_n 1) 1 := (by decide +kernel : decode prog_1_method_52_code 24 = .ok (.iload_n 1, 1))
theorem d_C_seenStatus_25 : m_D k_C_seenStatus 25 (.aaload) 1 := (by decide +kernel : decode prog_1_method_52_code 25 = .ok (.aaload, 1))
theorem d_C_seenStatus_26 : m_D k_C_seenStatus 26 (.getfield 345) 3 := (by decide +kernel : decode prog_1_method_52_code 26 = .ok (.getfield 345, 3))
theorem d_C_seenStatus_29 : m_D k_C_seenStatus 29 (.i2l) 1 := (by decide +kernel : decode prog_1_method_52_code 29 = .ok (.i2l, 1))
theorem d_C_seenStatus_30 : m_D k_C_seenStatus 30 (.lcmp) 1 := (by decide +kernel : decode prog_1_method_52_code 30 = .ok (.lcmp, 1))
theorem d_C_seenStatus_31 : m_D k_C_seenStatus 31 (.ifCond .le 7) 3 := (by decide +kernel : decode prog_1_method_52_code 31 = .ok (.ifCond .le 7, 3))
theorem d_C_seenStatus_34 : m_D k_C_seenStatus 34 (.iconst 4) 1 := (by decide +kernel : decode prog_1_method_52_code 34 = .ok (.iconst 4, 1))
theorem d_C_seenStatus_35 : m_D k_C_seenStatus 35 (.goto 34) 3 := (by decide +kernel : decode prog_1_method_52_code 35 = .ok (.goto 34, 3))
theorem d_C_seenStatus_38 : m_D k_C_seenStatus 38 (.iload_n 2) 1 := (by decide +kernel : decode prog_1_method_52_code 38 = .ok (.iload_n 2, 1))
theorem d_C_seenStatus_39 : m_D k_C_seenStatus 39 (.iconst 0) 1 := (by decide +kernel : decode prog_1_method_52_code 39 = .ok (.iconst 0, 1))
theorem d_C_seenStatus_40 : m_D k_C_seenStatus 40 (.bipush 20) 2 := (by decide +kernel : decode prog_1_method_52_code 40 = .ok (.bipush 20, 2))
theorem d_C_seenStatus_42 : m_D k_C_seenStatus 42 (.invokestatic 269) 3 := (by decide +kernel : decode prog_1_method_52_code 42 = .ok (.invokestatic 269, 3))
theorem d_C_seenStatus_45 : m_D k_C_seenStatus 45 (.ifCond .eq 19) 3 := (by decide +kernel : decode prog_1_method_52_code 45 = .ok (.ifCond .eq 19, 3))
theorem d_C_seenStatus_48 : m_D k_C_seenStatus 48 (.aload_n 0) 1 := (by decide +kernel : decode prog_1_method_52_code 48 = .ok (.aload_n 0, 1))
theorem d_C_seenStatus_49 : m_D k_C_seenStatus 49 (.getfield 22) 3 := (by decide +kernel : decode prog_1_method_52_code 49 = .ok (.getfield 22, 3))
theorem d_C_seenStatus_52 : m_D k_C_seenStatus 52 (.iload_n 1) 1 := (by decide +kernel : decode prog_1_method_52_code 52 = .ok (.iload_n 1, 1))
theorem d_C_seenStatus_53 : m_D k_C_seenStatus 53 (.aaload) 1 := (by decide +kernel : decode prog_1_method_52_code 53 = .ok (.aaload, 1))
theorem d_C_seenStatus_54 : m_D k_C_seenStatus 54 (.getfield 112) 3 := (by decide +kernel : decode prog_1_method_52_code 54 = .ok (.getfield 112, 3))
theorem d_C_seenStatus_57 : m_D k_C_seenStatus 57 (.iload_n 2) 1 := (by decide +kernel : decode prog_1_method_52_code 57 = .ok (.iload_n 2, 1))
theorem d_C_seenStatus_58 : m_D k_C_seenStatus 58 (.invokestatic 348) 3 := (by decide +kernel : decode prog_1_method_52_code 58 = .ok (.invokestatic 348, 3))
theorem d_C_seenStatus_61 : m_D k_C_seenStatus 61 (.ifCond .ne 7) 3 := (by decide +kernel : decode prog_1_method_52_code 61 = .ok (.ifCond .ne 7, 3))
theorem d_C_seenStatus_64 : m_D k_C_seenStatus 64 (.iconst 5) 1 := (by decide +kernel : decode prog_1_method_52_code 64 = .ok (.iconst 5, 1))
theorem d_C_seenStatus_65 : m_D k_C_seenStatus 65 (.goto 4) 3 := (by decide +kernel : decode prog_1_method_52_code 65 = .ok (.goto 4, 3))
theorem d_C_seenStatus_68 : m_D k_C_seenStatus 68 (.iconst 0) 1 := (by decide +kernel : decode prog_1_method_52_code 68 = .ok (.iconst 0, 1))
theorem d_C_seenStatus_69 : m_D k_C_seenStatus 69 (.ireturn) 1 := (by decide +kernel : decode prog_1_method_52_code 69 = .ok (.ireturn, 1))
def fn_C_seenStatus (x0 : Option mA) (x1 : Int32) (x2 : Int32) : mP Int32 :=
  m_th 0 x0 <|
  m_bd (fn_C_trayStatus x0 x1) fun v1 =>
  if v1 = 0 then
    m_bd (m_gR 0 3 x0) fun v2 =>
    m_bd (m_aR 4 v2 x1) fun v3 =>
    m_bd (m_gI 1 1 v3) fun v4 =>
    if (lg_cmp (2 * (x2).toInt64) (v4).toInt64) ≤ 0 then
      m_bd (fn_C_isWithin x2 0 20) fun v5 =>
      if v5 = 0 then
        m_rt 5
      else
        m_bd (m_gR 0 3 x0) fun v6 =>
        m_bd (m_aR 4 v6 x1) fun v7 =>
        m_bd (m_gR 1 2 v7) fun v8 =>
        m_bd (fn_C_areTwos v8 x2) fun v9 =>
        if v9 = 0 then
          m_rt 5
        else
          m_rt 0
    else
      m_rt 4
  else
    m_rt v1
set_option maxHeartbeats 4000000 in
set_option maxRecDepth 100000 in
theorem sd_C_seenStatus (x0 : Option mA) (x1 : Int32) (x2 : Int32) : m_Sm k_C_seenStatus 3 0 0 [.inr (.inr x0), .inl x1, .inl x2] (fn_C_seenStatus x0 x1 x2) (fun b => some (.inl b)) := by
  refine ⟨Nat.le_of_ble_eq_true rfl, ?_⟩
  refine sm_th ?_
  refine sm_aload_n (i := 0) (j := 0) (pc' := 1) d_C_seenStatus_0 rfl rfl rfl (sm_iload_n (i := 1) (j := 1) (pc' := 2) d_C_seenStatus_1 rfl rfl rfl ?_)
  refine sm_callVi (ci := 0) (x := x0) (av := [.inl x1]) (st := []) (mc := 0) (ms := 0) (pc' := 5) d_C_seenStatus_2 rfl (sd_C_trayStatus x0 x1) m_lv rfl cv_C_trayStatus w_ml_C_137 rfl rfl (by decide) (Nat.le_of_ble_eq_true rfl) rfl rfl (fun v1 => ?_)
  refine sm_istore_n (i := 3) (L' := [(3, .inl v1), (0, .inr (.inr x0)), (1, .inl x1), (2, .inl x2)]) (pc' := 6) d_C_seenStatus_5 rfl rfl (Nat.le_of_ble_eq_true rfl) rfl (sm_iload_n (i := 3) (j := 0) (pc' := 7) d_C_seenStatus_6 rfl rfl rfl ?_)
  refine sm_if_eq (tgt := 14) (pc' := 10) d_C_seenStatus_7 rfl rfl ?_ ?_
  · refine sm_ldc2 (v := 2) (pc' := 17) d_C_seenStatus_14 rfl w_cl_C_343 (sm_iload_n (i := 2) (j := 3) (pc' := 18) d_C_seenStatus_17 rfl rfl rfl (sm_i2l (pc' := 19) d_C_seenStatus_18 rfl (sm_lmul (pc' := 20) d_C_seenStatus_19 rfl (sm_aload_n (i := 0) (j := 1) (pc' := 21) d_C_seenStatus_20 rfl rfl rfl ?_))))
    refine sm_getR (pc' := 24) d_C_seenStatus_21 rfl fl_C_22 rfl rfl (fun v2 => ?_)
    refine sm_iload_n (i := 1) (j := 2) (pc' := 25) d_C_seenStatus_24 rfl rfl rfl ?_
    refine sm_aald (t := 4) ⟨by decide, by decide⟩ rfl (pc' := 26) d_C_seenStatus_25 rfl (fun v3 => ?_)
    refine sm_getI (pc' := 29) d_C_seenStatus_26 rfl fl_C_345 rfl ⟨by decide, by decide⟩ (fun v4 => ?_)
    refine sm_i2l (pc' := 30) d_C_seenStatus_29 rfl (sm_lcmp (pc' := 31) d_C_seenStatus_30 rfl ?_)
    refine sm_if_le (tgt := 38) (pc' := 34) d_C_seenStatus_31 rfl rfl ?_ ?_
    · refine sm_iload_n (i := 2) (j := 3) (pc' := 39) d_C_seenStatus_38 rfl rfl rfl (sm_iconst (pc' := 40) d_C_seenStatus_39 rfl ic_0 (sm_bipush (pc' := 42) d_C_seenStatus_40 rfl ib_20 ?_))
      refine sm_callSi (av := [.inl x2, .inl 0, .inl 20]) (st := []) (mc := 0) (ms := 0) (pc' := 45) d_C_seenStatus_42 rfl (sd_C_isWithin x2 0 20) cs_C_isWithin w_ml_C_269 rfl rfl (by decide) (Nat.le_of_ble_eq_true rfl) rfl rfl (fun v5 => ?_)
      refine sm_if_eq (tgt := 64) (pc' := 48) d_C_seenStatus_45 rfl rfl ?_ ?_
      · refine sm_iconst (pc' := 65) d_C_seenStatus_64 rfl ic_5 (sm_goto (tgt := 69) d_C_seenStatus_65 rfl ?_)
        exact sm_ireturn d_C_seenStatus_69 rfl rfl
      · refine sm_aload_n (i := 0) (j := 1) (pc' := 49) d_C_seenStatus_48 rfl rfl rfl ?_
        refine sm_getR (pc' := 52) d_C_seenStatus_49 rfl fl_C_22 rfl rfl (fun v6 => ?_)
        refine sm_iload_n (i := 1) (j := 2) (pc' := 53) d_C_seenStatus_52 rfl rfl rfl ?_
        refine sm_aald (t := 4) ⟨by decide, by decide⟩ rfl (pc' := 54) d_C_seenStatus_53 rfl (fun v7 => ?_)
        refine sm_getR (pc' := 57) d_C_seenStatus_54 rfl fl_C_112 rfl rfl (fun v8 => ?_)
        refine sm_iload_n (i := 2) (j := 3) (pc' := 58) d_C_seenStatus_57 rfl rfl rfl ?_
        refine sm_callSi (av := [.inr (.inr v8), .inl x2]) (st := []) (mc := 0) (ms := 0) (pc' := 61) d_C_seenStatus_58 rfl (sd_C_areTwos v8 x2) cs_C_areTwos w_ml_C_348 rfl rfl (by decide) (Nat.le_of_ble_eq_true rfl) rfl rfl (fun v9 => ?_)
        refine sm_if_ne (tgt := 68) (pc' := 64) d_C_seenStatus_61 rfl rfl ?_ ?_
        · refine sm_iconst (pc' := 69) d_C_seenStatus_68 rfl ic_0 ?_
          exact sm_ireturn d_C_seenStatus_69 rfl rfl
        · refine sm_iconst (pc' := 65) d_C_seenStatus_64 rfl ic_5 (sm_goto (tgt := 69) d_C_seenStatus_65 rfl ?_)
          exact sm_ireturn d_C_seenStatus_69 rfl rfl
    · refine sm_iconst (pc' := 35) d_C_seenStatus_34 rfl ic_4 (sm_goto (tgt := 69) d_C_seenStatus_35 rfl ?_)
      exact sm_ireturn d_C_seenStatus_69 rfl rfl
  · refine sm_iload_n (i := 3) (j := 0) (pc' := 11) d_C_seenStatus_10 rfl rfl rfl (sm_goto (tgt := 69) d_C_seenStatus_11 rfl ?_)
    exact sm_ireturn d_C_seenStatus_69 rfl rfl
theorem d_Si_fitsAll_0 : m_D k_Si_fitsAll 0 (.iconst 0) 1 := (by decide +kernel : decode prog_9_method_3_code 0 = .ok (.iconst 0, 1))
theorem d_Si_fitsAll_1 : m_D k_Si_fitsAll 1 (.istore_n 3) 1 := (by decide +kernel : decode prog_9_method_3_code 1 = .ok (.istore_n 3, 1))
theorem d_Si_fitsAll_2 : m_D k_Si_fitsAll 2 (.iload_n 3) 1 := (by decide +kernel : decode prog_9_method_3_code 2 = .ok (.iload_n 3, 1))
theorem d_Si_fitsAll_3 : m_D k_Si_fitsAll 3 (.iload_n 2) 1 := (by decide +kernel : decode prog_9_method_3_code 3 = .ok (.iload_n 2, 1))
theorem d_Si_fitsAll_4 : m_D k_Si_fitsAll 4 (.if_icmp .ge 33) 3 := (by decide +kernel : decode prog_9_method_3_code 4 = .ok (.if_icmp .ge 33, 3))
theorem d_Si_fitsAll_7 : m_D k_Si_fitsAll 7 (.iload_n 0) 1 := (by decide +kernel : decode prog_9_method_3_code 7 = .ok (.iload_n 0, 1))
theorem d_Si_fitsAll_8 : m_D k_Si_fitsAll 8 (.aload_n 1) 1 := (by decide +kernel : decode prog_9_method_3_code 8 = .ok (.aload_n 1, 1))
theorem d_Si_fitsAll_9 : m_D k_Si_fitsAll 9 (.iconst 2) 1 := (by decide +kernel : decode prog_9_method_3_code 9 = .ok (.iconst 2, 1))
theorem d_Si_fitsAll_10 : m_D k_Si_fitsAll 10 (.iload_n 3) 1 := (by decide +kernel : decode prog_9_method_3_code 10 = .ok (.iload_n 3, 1))
theorem d_Si_fitsAll_11 : m_D k_Si_fitsAll 11 (.imul) 1 := (by decide +kernel : decode prog_9_method_3_code 11 = .ok (.imul, 1))
theorem d_Si_fitsAll_12 : m_D k_Si_fitsAll 12 (.laload) 1 := (by decide +kernel : decode prog_9_method_3_code 12 = .ok (.laload, 1))
theorem d_Si_fitsAll_13 : m_D k_Si_fitsAll 13 (.l2i) 1 := (by decide +kernel : decode prog_9_method_3_code 13 = .ok (.l2i, 1))
theorem d_Si_fitsAll_14 : m_D k_Si_fitsAll 14 (.imul) 1 := (by decide +kernel : decode prog_9_method_3_code 14 = .ok (.imul, 1))
theorem d_Si_fitsAll_15 : m_D k_Si_fitsAll 15 (.iconst 4) 1 := (by decide +kernel : decode prog_9_method_3_code 15 = .ok (.iconst 4, 1))
theorem d_Si_fitsAll_16 : m_D k_Si_fitsAll 16 (.idiv) 1 := (by decide +kernel : decode prog_9_method_3_code 16 = .ok (.idiv, 1))
theorem d_Si_fitsAll_17 : m_D k_Si_fitsAll 17 (.i2l) 1 := (by decide +kernel : decode prog_9_method_3_code 17 = .ok (.i2l, 1))
theorem d_Si_fitsAll_18 : m_D k_Si_fitsAll 18 (.aload_n 1) 1 := (by decide +kernel : decode prog_9_method_3_code 18 = .ok (.aload_n 1, 1))
theorem d_Si_fitsAll_19 : m_D k_Si_fitsAll 19 (.iconst 2) 1 := (by decide +kernel : decode prog_9_method_3_code 19 = .ok (.iconst 2, 1))
theorem d_Si_fitsAll_20 : m_D k_Si_fitsAll 20 (.iload_n 3) 1 := (by decide +kernel : decode prog_9_method_3_code 20 = .ok (.iload_n 3, 1))
theorem d_Si_fitsAll_21 : m_D k_Si_fitsAll 21 (.imul) 1 := (by decide +kernel : decode prog_9_method_3_code 21 = .ok (.imul, 1))
theorem d_Si_fitsAll_22 : m_D k_Si_fitsAll 22 (.iconst 1) 1 := (by decide +kernel : decode prog_9_method_3_code 22 = .ok (.iconst 1, 1))
theorem d_Si_fitsAll_23 : m_D k_Si_fitsAll 23 (.iadd) 1 := (by decide +kernel : decode prog_9_method_3_code 23 = .ok (.iadd, 1))
theorem d_Si_fitsAll_24 : m_D k_Si_fitsAll 24 (.laload) 1 := (by decide +kernel : decode prog_9_method_3_code 24 = .ok (.laload, 1))
theorem d_Si_fitsAll_25 : m_D k_Si_fitsAll 25 (.lcmp) 1 := (by decide +kernel : decode prog_9_method_3_code 25 = .ok (.lcmp, 1))
theorem d_Si_fitsAll_26 : m_D k_Si_fitsAll 26 (.ifCond .eq 5) 3 := (by decide +kernel : decode prog_9_method_3_code 26 = .ok (.ifCond .eq 5, 3))
theorem d_Si_fitsAll_29 : m_D k_Si_fitsAll 29 (.iconst 0) 1 := (by decide +kernel : decode prog_9_method_3_code 29 = .ok (.iconst 0, 1))
theorem d_Si_fitsAll_30 : m_D k_Si_fitsAll 30 (.ireturn) 1 := (by decide +kernel : decode prog_9_method_3_code 30 = .ok (.ireturn, 1))
theorem d_Si_fitsAll_31 : m_D k_Si_fitsAll 31 (.iinc 3 1) 3 := (by decide +kernel : decode prog_9_method_3_code 31 = .ok (.iinc 3 1, 3))
theorem d_Si_fitsAll_34 : m_D k_Si_fitsAll 34 (.goto (-32)) 3 := (by decide +kernel : decode prog_9_method_3_code 34 = .ok (.goto (-32), 3))
theorem d_Si_fitsAll_37 : m_D k_Si_fitsAll 37 (.iconst 1) 1 := (by decide +kernel : decode prog_9_method_3_code 37 = .ok (.iconst 1, 1))
theorem d_Si_fitsAll_38 : m_D k_Si_fitsAll 38 (.ireturn) 1 := (by decide +kernel : decode prog_9_method_3_code 38 = .ok (.ireturn, 1))
def fn_Si_fitsAll_l2 (x0 : Int32) (x1 : Option mA) (x2 : Int32) (t1 : Int32) : mP ((Int32) ⊕ (Int32)) :=
  if x2 ≤ t1 then
    m_rt (.inr 1)
  else
    m_bd (m_aJ x1 (2 * t1)) fun v2 =>
    m_bd (m_aJ x1 ((2 * t1) + 1)) fun v3 =>
    if (lg_cmp (((x0 * (v2).toInt32) / 4)).toInt64 v3) = 0 then
      m_rt (.inl (t1 + 1))
    else
      m_rt (.inr 0)
def fn_Si_fitsAll (x0 : Int32) (x1 : Option mA) (x2 : Int32) : mP Int32 :=
  m_lp (fn_Si_fitsAll_l2 x0 x1 x2) m_F 0
set_option maxHeartbeats 4000000 in
set_option maxRecDepth 100000 in
theorem sd_Si_fitsAll (x0 : Int32) (x1 : Option mA) (x2 : Int32) : m_Sm k_Si_fitsAll 1 0 0 [.inl x0, .inr (.inr x1), .inl x2] (fn_Si_fitsAll x0 x1 x2) (fun b => some (.inl b)) := by
  refine ⟨Nat.le_of_ble_eq_true rfl, ?_⟩
  refine sm_iconst (pc' := 1) d_Si_fitsAll_0 rfl ic_0 (sm_istore_n (i := 3) (L' := [(3, .inl 0), (0, .inl x0), (1, .inr (.inr x1)), (2, .inl x2)]) (pc' := 2) d_Si_fitsAll_1 rfl rfl (Nat.le_of_ble_eq_true rfl) rfl ?_)
  refine sm_sub [0, 1, 2, 3] rfl ?_
  refine sm_lp (hd := fun (t1 : Int32) => (.inl (2, [(3, .inl t1), (0, .inl x0), (1, .inr (.inr x1)), (2, .inl x2)], []) : mC)) (fun t1 => ?_) m_F 0
  refine sm_iload_n (i := 3) (j := 0) (pc' := 3) d_Si_fitsAll_2 rfl rfl rfl (sm_iload_n (i := 2) (j := 3) (pc' := 4) d_Si_fitsAll_3 rfl rfl rfl ?_)
  refine sm_icmp_ge (tgt := 37) (pc' := 7) d_Si_fitsAll_4 rfl rfl ?_ ?_
  · refine sm_iconst (pc' := 38) d_Si_fitsAll_37 rfl ic_1 ?_
    exact sm_zreturn d_Si_fitsAll_38 rfl (by decide) rfl
  · refine sm_iload_n (i := 0) (j := 1) (pc' := 8) d_Si_fitsAll_7 rfl rfl rfl (sm_aload_n (i := 1) (j := 2) (pc' := 9) d_Si_fitsAll_8 rfl rfl rfl (sm_iconst (pc' := 10) d_Si_fitsAll_9 rfl ic_2 (sm_iload_n (i := 3) (j := 0) (pc' := 11) d_Si_fitsAll_10 rfl rfl rfl (sm_imul (pc' := 12) d_Si_fitsAll_11 rfl ?_))))
    refine sm_lald (pc' := 13) d_Si_fitsAll_12 rfl (fun v2 => ?_)
    refine sm_l2i (pc' := 14) d_Si_fitsAll_13 rfl (sm_imul (pc' := 15) d_Si_fitsAll_14 rfl (sm_iconst (pc' := 16) d_Si_fitsAll_15 rfl ic_4 (sm_idiv (pc' := 17) d_Si_fitsAll_16 rfl (by decide) (sm_i2l (pc' := 18) d_Si_fitsAll_17 rfl (sm_aload_n (i := 1) (j := 2) (pc' := 19) d_Si_fitsAll_18 rfl rfl rfl (sm_iconst (pc' := 20) d_Si_fitsAll_19 rfl ic_2 (sm_iload_n (i := 3) (j := 0) (pc' := 21) d_Si_fitsAll_20 rfl rfl rfl (sm_imul (pc' := 22) d_Si_fitsAll_21 rfl (sm_iconst (pc' := 23) d_Si_fitsAll_22 rfl ic_1 ?_)))))))))
    refine sm_iadd (pc' := 24) d_Si_fitsAll_23 rfl ?_
    refine sm_lald (pc' := 25) d_Si_fitsAll_24 rfl (fun v3 => ?_)
    refine sm_lcmp (pc' := 26) d_Si_fitsAll_25 rfl ?_
    refine sm_if_eq (tgt := 31) (pc' := 29) d_Si_fitsAll_26 rfl rfl ?_ ?_
    · refine sm_iinc (j := 0) (L' := [(3, .inl (t1 + 1)), (0, .inl x0), (1, .inr (.inr x1)), (2, .inl x2)]) (pc' := 34) d_Si_fitsAll_31 rfl (v := (t1 + 1)) rfl (ix_1 _) (Nat.le_of_ble_eq_true rfl) rfl (sm_goto (tgt := 2) d_Si_fitsAll_34 rfl (sm_sub [0, 1, 2, 3] rfl ?_))
      exact sm_rt rfl
    · refine sm_iconst (pc' := 30) d_Si_fitsAll_29 rfl ic_0 ?_
      exact sm_zreturn d_Si_fitsAll_30 rfl (by decide) rfl
theorem d_Si_look_0 : m_D k_Si_look 0 (.aload_n 0) 1 := (by decide +kernel : decode prog_9_method_2_code 0 = .ok (.aload_n 0, 1))
theorem d_Si_look_1 : m_D k_Si_look 1 (.iload_n 1) 1 := (by decide +kernel : decode prog_9_method_2_code 1 = .ok (.iload_n 1, 1))
theorem d_Si_look_2 : m_D k_Si_look 2 (.invokestatic 19) 3 := (by decide +kernel : decode prog_9_method_2_code 2 = .ok (.invokestatic 19, 3))
theorem d_Si_look_5 : m_D k_Si_look 5 (.putfield 25) 3 := (by decide +kernel : decode prog_9_method_2_code 5 = .ok (.putfield 25, 3))
theorem d_Si_look_8 : m_D k_Si_look 8 (.iconst 0) 1 := (by decide +kernel : decode prog_9_method_2_code 8 = .ok (.iconst 0, 1))
theorem d_Si_look_9 : m_D k_Si_look 9 (.istore 4) 2 := (by decide +kernel : decode prog_9_method_2_code 9 = .ok (.istore 4, 2))
theorem d_Si_look_11 : m_D k_Si_look 11 (.iload 4) 2 := (by decide +kernel : decode prog_9_method_2_code 11 = .ok (.iload 4, 2))
theorem d_Si_look_13 : m_D k_Si_look 13 (.bipush 18) 2 := (by decide +kernel : decode prog_9_method_2_code 13 = .ok (.bipush 18, 2))
theorem d_Si_look_15 : m_D k_Si_look 15 (.if_icmp .gt 42) 3 := (by decide +kernel : decode prog_9_method_2_code 15 = .ok (.if_icmp .gt 42, 3))
theorem d_Si_look_18 : m_D k_Si_look 18 (.aload_n 0) 1 := (by decide +kernel : decode prog_9_method_2_code 18 = .ok (.aload_n 0, 1))
theorem d_Si_look_19 : m_D k_Si_look 19 (.getfield 11) 3 := (by decide +kernel : decode prog_9_method_2_code 19 = .ok (.getfield 11, 3))
theorem d_Si_look_22 : m_D k_Si_look 22 (.iload 4) 2 := (by decide +kernel : decode prog_9_method_2_code 22 = .ok (.iload 4, 2))
theorem d_Si_look_24 : m_D k_Si_look 24 (.iload 4) 2 := (by decide +kernel : decode prog_9_method_2_code 24 = .ok (.iload 4, 2))
theorem d_Si_look_26 : m_D k_Si_look 26 (.iconst 3) 1 := (by decide +kernel : decode prog_9_method_2_code 26 = .ok (.iconst 3, 1))
theorem d_Si_look_27 : m_D k_Si_look 27 (.aload_n 0) 1 := (by decide +kernel : decode prog_9_method_2_code 27 = .ok (.aload_n 0, 1))
theorem d_Si_look_28 : m_D k_Si_look 28 (.getfield 25) 3 := (by decide +kernel : decode prog_9_method_2_code 28 = .ok (.getfield 25, 3))
theorem d_Si_look_31 : m_D k_Si_look 31 (.imul) 1 := (by decide +kernel : decode prog_9_method_2_code 31 = .ok (.imul, 1))
theorem d_Si_look_32 : m_D k_Si_look 32 (.if_icmp .gt 17) 3 := (by decide +kernel : decode prog_9_method_2_code 32 = .ok (.if_icmp .gt 17, 3))
theorem d_Si_look_35 : m_D k_Si_look 35 (.iload 4) 2 := (by decide +kernel : decode prog_9_method_2_code 35 = .ok (.iload 4, 2))
theorem d_Si_look_37 : m_D k_Si_look 37 (.aload_n 2) 1 := (by decide +kernel : decode prog_9_method_2_code 37 = .ok (.aload_n 2, 1))
theorem d_Si_look_38 : m_D k_Si_look 38 (.iload_n 3) 1 := (by decide +kernel : decode prog_9_method_2_code 38 = .ok (.iload_n 3, 1))
theorem d_Si_look_39 : m_D k_Si_look 39 (.invokestatic 29) 3 := (by decide +kernel : decode prog_9_method_2_code 39 = .ok (.invokestatic 29, 3))
theorem d_Si_look_42 : m_D k_Si_look 42 (.ifCond .eq 7) 3 := (by decide +kernel : decode prog_9_method_2_code 42 = .ok (.ifCond .eq 7, 3))
theorem d_Si_look_45 : m_D k_Si_look 45 (.iconst 1) 1 := (by decide +kernel : decode prog_9_method_2_code 45 = .ok (.iconst 1, 1))
theorem d_Si_look_46 : m_D k_Si_look 46 (.goto 4) 3 := (by decide +kernel : decode prog_9_method_2_code 46 = .ok (.goto 4, 3))
theorem d_Si_look_49 : m_D k_Si_look 49 (.iconst 0) 1 := (by decide +kernel : decode prog_9_method_2_code 49 = .ok (.iconst 0, 1))
theorem d_Si_look_50 : m_D k_Si_look 50 (.bastore) 1 := (by decide +kernel : decode prog_9_method_2_code 50 = .ok (.bastore, 1))
theorem d_Si_look_51 : m_D k_Si_look 51 (.iinc 4 1) 3 := (by decide +kernel : decode prog_9_method_2_code 51 = .ok (.iinc 4 1, 3))
theorem d_Si_look_54 : m_D k_Si_look 54 (.goto (-43)) 3 := (by decide +kernel : decode prog_9_method_2_code 54 = .ok (.goto (-43), 3))
theorem d_Si_look_57 : m_D k_Si_look 57 (.return_) 1 := (by decide +kernel : decode prog_9_method_2_code 57 = .ok (.return_, 1))
def fn_Si_look_l11 (x0 : Option mA) (x2 : Option mA) (x3 : Int32) (t2 : Int32) : mP ((Int32) ⊕ (Unit)) :=
  if 18 < t2 then
    m_rt (.inr ())
  else
    m_bd (m_gR 8 0 x0) fun v3 =>
    m_bd (m_gI 8 2 x0) fun v4 =>
    m_bd (α := Int32) (
      if (3 * v4) < t2 then
        m_rt 0
      else
        m_bd (fn_Si_fitsAll t2 x2 x3) fun v5 =>
        if v5 = 0 then
          m_rt 0
        else
          m_rt 1
      ) fun (t6 : Int32) =>
    m_bd (m_tI 3 v3 t2 t6) fun _ =>
    m_rt (.inl (t2 + 1))
def fn_Si_look (x0 : Option mA) (x1 : Int32) (x2 : Option mA) (x3 : Int32) : mP Unit :=
  m_th 8 x0 <|
  m_bd (fn_JI_bitCount x1) fun v1 =>
  m_bd (m_pI 8 2 x0 v1) fun _ =>
  m_bd (m_lp (fn_Si_look_l11 x0 x2 x3) m_F 0) fun (t7 : Unit) =>
  m_rt ()
set_option maxHeartbeats 4000000 in
set_option maxRecDepth 100000 in
theorem sd_Si_look (x0 : Option mA) (x1 : Int32) (x2 : Option mA) (x3 : Int32) : m_Sm k_Si_look 2 0 0 [.inr (.inr x0), .inl x1, .inr (.inr x2), .inl x3] (fn_Si_look x0 x1 x2 x3) (fun _ => none) := by
  refine ⟨Nat.le_of_ble_eq_true rfl, ?_⟩
  refine sm_th ?_
  refine sm_aload_n (i := 0) (j := 0) (pc' := 1) d_Si_look_0 rfl rfl rfl (sm_iload_n (i := 1) (j := 1) (pc' := 2) d_Si_look_1 rfl rfl rfl ?_)
  refine sm_callSi (av := [.inl x1]) (st := [.inr (.inr x0)]) (mc := 0) (ms := 0) (pc' := 5) d_Si_look_2 rfl (sd_JI_bitCount x1) cs_JI_bitCount w_ml_Si_19 rfl rfl (by decide) (Nat.le_of_ble_eq_true rfl) rfl rfl (fun v1 => ?_)
  refine sm_putI (pc' := 8) d_Si_look_5 rfl fl_Si_25 (Or.inl rfl) rfl (sm_iconst (pc' := 9) d_Si_look_8 rfl ic_0 (sm_istore (L' := [(4, .inl 0), (0, .inr (.inr x0)), (1, .inl x1), (2, .inr (.inr x2)), (3, .inl x3)]) (pc' := 11) d_Si_look_9 rfl (Nat.le_of_ble_eq_true rfl) rfl ?_))
  refine sm_sub [0, 1, 3, 4] rfl ?_
  refine sm_bd (mid := fun (t7 : Unit) => .inl (57, [], [])) (sm_lp (hd := fun (t2 : Int32) => (.inl (11, [(4, .inl t2), (0, .inr (.inr x0)), (2, .inr (.inr x2)), (3, .inl x3)], []) : mC)) (fun t2 => ?_) m_F 0) (fun t7 => ?_)
  · refine sm_iload (j := 0) (pc' := 13) d_Si_look_11 rfl rfl (sm_bipush (pc' := 15) d_Si_look_13 rfl ib_18 ?_)
    refine sm_icmp_gt (tgt := 57) (pc' := 18) d_Si_look_15 rfl rfl ?_ ?_
    · refine sm_sub [] rfl ?_
      exact sm_rt rfl
    · refine sm_aload_n (i := 0) (j := 1) (pc' := 19) d_Si_look_18 rfl rfl rfl ?_
      refine sm_getR (pc' := 22) d_Si_look_19 rfl fl_Si_11 rfl rfl (fun v3 => ?_)
      refine sm_iload (j := 0) (pc' := 24) d_Si_look_22 rfl rfl (sm_iload (j := 0) (pc' := 26) d_Si_look_24 rfl rfl (sm_iconst (pc' := 27) d_Si_look_26 rfl ic_3 (sm_aload_n (i := 0) (j := 1) (pc' := 28) d_Si_look_27 rfl rfl rfl ?_)))
      refine sm_getI (pc' := 31) d_Si_look_28 rfl fl_Si_25 rfl ⟨by decide, by decide⟩ (fun v4 => ?_)
      refine sm_imul (pc' := 32) d_Si_look_31 rfl ?_
      refine sm_bd (mid := fun (t6 : Int32) => .inl (50, [(0, .inr (.inr x0)), (2, .inr (.inr x2)), (3, .inl x3), (4, .inl t2)], [.inl t6, .inl t2, .inr (.inr v3)])) ?_ (fun t6 => ?_)
      · refine sm_icmp_gt (tgt := 49) (pc' := 35) d_Si_look_32 rfl rfl ?_ ?_
        · refine sm_iconst (pc' := 50) d_Si_look_49 rfl ic_0 (sm_sub [1, 2, 3, 0] rfl ?_)
          exact sm_rt rfl
        · refine sm_iload (j := 0) (pc' := 37) d_Si_look_35 rfl rfl (sm_aload_n (i := 2) (j := 2) (pc' := 38) d_Si_look_37 rfl rfl rfl (sm_iload_n (i := 3) (j := 3) (pc' := 39) d_Si_look_38 rfl rfl rfl ?_))
          refine sm_callSi (av := [.inl t2, .inr (.inr x2), .inl x3]) (st := [.inl t2, .inr (.inr v3)]) (mc := 0) (ms := 0) (pc' := 42) d_Si_look_39 rfl (sd_Si_fitsAll t2 x2 x3) cs_Si_fitsAll w_ml_Si_29 rfl rfl (by decide) (Nat.le_of_ble_eq_true rfl) rfl rfl (fun v5 => ?_)
          refine sm_if_eq (tgt := 49) (pc' := 45) d_Si_look_42 rfl rfl ?_ ?_
          · refine sm_iconst (pc' := 50) d_Si_look_49 rfl ic_0 (sm_sub [1, 2, 3, 0] rfl ?_)
            exact sm_rt rfl
          · refine sm_iconst (pc' := 46) d_Si_look_45 rfl ic_1 (sm_goto (tgt := 50) d_Si_look_46 rfl (sm_sub [1, 2, 3, 0] rfl ?_))
            exact sm_rt rfl
      · refine sm_zast (pc' := 51) d_Si_look_50 rfl (sm_iinc (j := 3) (L' := [(4, .inl (t2 + 1)), (0, .inr (.inr x0)), (2, .inr (.inr x2)), (3, .inl x3)]) (pc' := 54) d_Si_look_51 rfl (v := (t2 + 1)) rfl (ix_1 _) (Nat.le_of_ble_eq_true rfl) rfl (sm_goto (tgt := 11) d_Si_look_54 rfl (sm_sub [0, 1, 2, 3] rfl ?_)))
        exact sm_rt rfl
  · exact sm_return d_Si_look_57 rfl rfl
theorem d_Si_countSums_0 : m_D k_Si_countSums 0 (.aload_n 0) 1 := (by decide +kernel : decode prog_9_method_5_code 0 = .ok (.aload_n 0, 1))
theorem d_Si_countSums_1 : m_D k_Si_countSums 1 (.getfield 15) 3 := (by decide +kernel : decode prog_9_method_5_code 1 = .ok (.getfield 15, 3))
theorem d_Si_countSums_4 : m_D k_Si_countSums 4 (.iconst 0) 1 := (by decide +kernel : decode prog_9_method_5_code 4 = .ok (.iconst 0, 1))
theorem d_Si_countSums_5 : m_D k_Si_countSums 5 (.invokestatic 36) 3 := (by decide +kernel : decode prog_9_method_5_code 5 = .ok (.invokestatic 36, 3))
theorem d_Si_countSums_8 : m_D k_Si_countSums 8 (.aload_n 0) 1 := (by decide +kernel : decode prog_9_method_5_code 8 = .ok (.aload_n 0, 1))
theorem d_Si_countSums_9 : m_D k_Si_countSums 9 (.getfield 15) 3 := (by decide +kernel : decode prog_9_method_5_code 9 = .ok (.getfield 15, 3))
theorem d_Si_countSums_12 : m_D k_Si_countSums 12 (.iconst 0) 1 := (by decide +kernel : decode prog_9_method_5_code 12 = .ok (.iconst 0, 1))
theorem d_Si_countSums_13 : m_D k_Si_countSums 13 (.iconst 1) 1 := (by decide +kernel : decode prog_9_method_5_code 13 = .ok (.iconst 1, 1))
theorem d_Si_countSums_14 : m_D k_Si_countSums 14 (.iastore) 1 := (by decide +kernel : decode prog_9_method_5_code 14 = .ok (.iastore, 1))
theorem d_Si_countSums_15 : m_D k_Si_countSums 15 (.iconst 0) 1 := (by decide +kernel : decode prog_9_method_5_code 15 = .ok (.iconst 0, 1))
theorem d_Si_countSums_16 : m_D k_Si_countSums 16 (.istore_n 1) 1 := (by decide +kernel : decode prog_9_method_5_code 16 = .ok (.istore_n 1, 1))
theorem d_Si_countSums_17 : m_D k_Si_countSums 17 (.iload_n 1) 1 := (by decide +kernel : decode prog_9_method_5_code 17 = .ok (.iload_n 1, 1))
theorem d_Si_countSums_18 : m_D k_Si_countSums 18 (.aload_n 0) 1 := (by decide +kernel : decode prog_9_method_5_code 18 = .ok (.aload_n 0, 1))
theorem d_Si_countSums_19 : m_D k_Si_countSums 19 (.getfield 25) 3 := (by decide +kernel : decode prog_9_method_5_code 19 = .ok (.getfield 25, 3))
theorem d_Si_countSums_22 : m_D k_Si_countSums 22 (.if_icmp .ge 57) 3 := (by decide +kernel : decode prog_9_method_5_code 22 = .ok (.if_icmp .ge 57, 3))
theorem d_Si_countSums_25 : m_D k_Si_countSums 25 (.bipush 18) 2 := (by decide +kernel : decode prog_9_method_5_code 25 = .ok (.bipush 18, 2))
theorem d_Si_countSums_27 : m_D k_Si_countSums 27 (.istore_n 2) 1 := (by decide +kernel : decode prog_9_method_5_code 27 = .ok (.istore_n 2, 1))
theorem d_Si_countSums_28 : m_D k_Si_countSums 28 (.iload_n 2) 1 := (by decide +kernel : decode prog_9_method_5_code 28 = .ok (.iload_n 2, 1))
theorem d_Si_countSums_29 : m_D k_Si_countSums 29 (.ifCond .le 44) 3 := (by decide +kernel : decode prog_9_method_5_code 29 = .ok (.ifCond .le 44, 3))
theorem d_Si_countSums_32 : m_D k_Si_countSums 32 (.iconst 1) 1 := (by decide +kernel : decode prog_9_method_5_code 32 = .ok (.iconst 1, 1))
theorem d_Si_countSums_33 : m_D k_Si_countSums 33 (.istore_n 3) 1 := (by decide +kernel : decode prog_9_method_5_code 33 = .ok (.istore_n 3, 1))
theorem d_Si_countSums_34 : m_D k_Si_countSums 34 (.iload_n 3) 1 := (by decide +kernel : decode prog_9_method_5_code 34 = .ok (.iload_n 3, 1))
theorem d_Si_countSums_35 : m_D k_Si_countSums 35 (.iconst 3) 1 := (by decide +kernel : decode prog_9_method_5_code 35 = .ok (.iconst 3, 1))
theorem d_Si_countSums_36 : m_D k_Si_countSums 36 (.if_icmp .gt 31) 3 := (by decide +kernel : decode prog_9_method_5_code 36 = .ok (.if_icmp .gt 31, 3))
theorem d_Si_countSums_39 : m_D k_Si_countSums 39 (.iload_n 3) 1 := (by decide +kernel : decode prog_9_method_5_code 39 = .ok (.iload_n 3, 1))
theorem d_Si_countSums_40 : m_D k_Si_countSums 40 (.iload_n 2) 1 := (by decide +kernel : decode prog_9_method_5_code 40 = .ok (.iload_n 2, 1))
theorem d_Si_countSums_41 : m_D k_Si_countSums 41 (.if_icmp .gt 26) 3 := (by decide +kernel : decode prog_9_method_5_code 41 = .ok (.if_icmp .gt 26, 3))
theorem d_Si_countSums_44 : m_D k_Si_countSums 44 (.aload_n 0) 1 := (by decide +kernel : decode prog_9_method_5_code 44 = .ok (.aload_n 0, 1))
theorem d_Si_countSums_45 : m_D k_Si_countSums 45 (.getfield 15) 3 := (by decide +kernel : decode prog_9_method_5_code 45 = .ok (.getfield 15, 3))
theorem d_Si_countSums_48 : m_D k_Si_countSums 48 (.iload_n 2) 1 := (by decide +kernel : decode prog_9_method_5_code 48 = .ok (.iload_n 2, 1))
theorem d_Si_countSums_49 : m_D k_Si_countSums 49 (.dup2) 1 := (by decide +kernel : decode prog_9_method_5_code 49 = .ok (.dup2, 1))
theorem d_Si_countSums_50 : m_D k_Si_countSums 50 (.iaload) 1 := (by decide +kernel : decode prog_9_method_5_code 50 = .ok (.iaload, 1))
theorem d_Si_countSums_51 : m_D k_Si_countSums 51 (.aload_n 0) 1 := (by decide +kernel : decode prog_9_method_5_code 51 = .ok (.aload_n 0, 1))
theorem d_Si_countSums_52 : m_D k_Si_countSums 52 (.getfield 15) 3 := (by decide +kernel : decode prog_9_method_5_code 52 = .ok (.getfield 15, 3))
theorem d_Si_countSums_55 : m_D k_Si_countSums 55 (.iload_n 2) 1 := (by decide +kernel : decode prog_9_method_5_code 55 = .ok (.iload_n 2, 1))
theorem d_Si_countSums_56 : m_D k_Si_countSums 56 (.iload_n 3) 1 := (by decide +kernel : decode prog_9_method_5_code 56 = .ok (.iload_n 3, 1))
theorem d_Si_countSums_57 : m_D k_Si_countSums 57 (.isub) 1 := (by decide +kernel : decode prog_9_method_5_code 57 = .ok (.isub, 1))
theorem d_Si_countSums_58 : m_D k_Si_countSums 58 (.iaload) 1 := (by decide +kernel : decode prog_9_method_5_code 58 = .ok (.iaload, 1))
theorem d_Si_countSums_59 : m_D k_Si_countSums 59 (.iadd) 1 := (by decide +kernel : decode prog_9_method_5_code 59 = .ok (.iadd, 1))
theorem d_Si_countSums_60 : m_D k_Si_countSums 60 (.iastore) 1 := (by decide +kernel : decode prog_9_method_5_code 60 = .ok (.iastore, 1))
theorem d_Si_countSums_61 : m_D k_Si_countSums 61 (.iinc 3 1) 3 := (by decide +kernel : decode prog_9_method_5_code 61 = .ok (.iinc 3 1, 3))
theorem d_Si_countSums_64 : m_D k_Si_countSums 64 (.goto (-30)) 3 := (by decide +kernel : decode prog_9_method_5_code 64 = .ok (.goto (-30), 3))
theorem d_Si_countSums_67 : m_D k_Si_countSums 67 (.iinc 2 (-1)) 3 := (by decide +kernel : decode prog_9_method_5_code 67 = .ok (.iinc 2 (-1), 3))
theorem d_Si_countSums_70 : m_D k_Si_countSums 70 (.goto (-42)) 3 := (by decide +kernel : decode prog_9_method_5_code 70 = .ok (.goto (-42), 3))
theorem d_Si_countSums_73 : m_D k_Si_countSums 73 (.iinc 1 1) 3 := (by decide +kernel : decode prog_9_method_5_code 73 = .ok (.iinc 1 1, 3))
theorem d_Si_countSums_76 : m_D k_Si_countSums 76 (.goto (-59)) 3 := (by decide +kernel : decode prog_9_method_5_code 76 = .ok (.goto (-59), 3))
theorem d_Si_countSums_79 : m_D k_Si_countSums 79 (.return_) 1 := (by decide +kernel : decode prog_9_method_5_code 79 = .ok (.return_, 1))
def fn_Si_countSums_l34 (x0 : Option mA) (t5 : Int32) (t6 : Int32) : mP ((Int32) ⊕ (Unit)) :=
  if 3 < t6 then
    m_rt (.inr ())
  else
    if t5 < t6 then
      m_rt (.inr ())
    else
      m_bd (m_gR 8 1 x0) fun v7 =>
      m_bd (m_aI 0 v7 t5) fun v8 =>
      m_bd (m_gR 8 1 x0) fun v9 =>
      m_bd (m_aI 0 v9 (t5 - t6)) fun v10 =>
      m_bd (m_tI 0 v7 t5 (v8 + v10)) fun _ =>
      m_rt (.inl (t6 + 1))
def fn_Si_countSums_l28 (x0 : Option mA) (t5 : Int32) : mP ((Int32) ⊕ (Unit)) :=
  if t5 ≤ 0 then
    m_rt (.inr ())
  else
    m_bd (m_lp (fn_Si_countSums_l34 x0 t5) m_F 1) fun (t11 : Unit) =>
    m_rt (.inl (t5 + (-1)))
def fn_Si_countSums_l17 (x0 : Option mA) (t3 : Int32) : mP ((Int32) ⊕ (Unit)) :=
  m_bd (m_gI 8 2 x0) fun v4 =>
  if v4 ≤ t3 then
    m_rt (.inr ())
  else
    m_bd (m_lp (fn_Si_countSums_l28 x0) m_F 18) fun (t12 : Unit) =>
    m_rt (.inl (t3 + 1))
def fn_Si_countSums (x0 : Option mA) : mP Unit :=
  m_th 8 x0 <|
  m_bd (m_gR 8 1 x0) fun v1 =>
  m_bd (fn_JA_fill_aII v1 0) fun _ =>
  m_bd (m_gR 8 1 x0) fun v2 =>
  m_bd (m_tI 0 v2 0 1) fun _ =>
  m_bd (m_lp (fn_Si_countSums_l17 x0) m_F 0) fun (t13 : Unit) =>
  m_rt ()
set_option maxHeartbeats 4000000 in
set_option maxRecDepth 100000 in
theorem sd_Si_countSums (x0 : Option mA) : m_Sm k_Si_countSums 2 0 0 [.inr (.inr x0)] (fn_Si_countSums x0) (fun _ => none) := by
  refine ⟨Nat.le_of_ble_eq_true rfl, ?_⟩
  refine sm_th ?_
  refine sm_aload_n (i := 0) (j := 0) (pc' := 1) d_Si_countSums_0 rfl rfl rfl ?_
  refine sm_getR (pc' := 4) d_Si_countSums_1 rfl fl_Si_15 rfl rfl (fun v1 => ?_)
  refine sm_iconst (pc' := 5) d_Si_countSums_4 rfl ic_0 ?_
  refine sm_callSv (av := [.inr (.inr v1), .inl 0]) (st := []) (mc := 0) (ms := 0) (pc' := 8) d_Si_countSums_5 rfl (sd_JA_fill_aII v1 0) cs_JA_fill_aII w_ml_Si_36 rfl rfl (by decide) (Nat.le_of_ble_eq_true rfl) rfl rfl ?_
  refine sm_aload_n (i := 0) (j := 0) (pc' := 9) d_Si_countSums_8 rfl rfl rfl ?_
  refine sm_getR (pc' := 12) d_Si_countSums_9 rfl fl_Si_15 rfl rfl (fun v2 => ?_)
  refine sm_iconst (pc' := 13) d_Si_countSums_12 rfl ic_0 (sm_iconst (pc' := 14) d_Si_countSums_13 rfl ic_1 (sm_iast (pc' := 15) d_Si_countSums_14 rfl (sm_iconst (pc' := 16) d_Si_countSums_15 rfl ic_0 (sm_istore_n (i := 1) (L' := [(1, .inl 0), (0, .inr (.inr x0))]) (pc' := 17) d_Si_countSums_16 rfl rfl (Nat.le_of_ble_eq_true rfl) rfl ?_))))
  refine sm_sub [0, 1] rfl ?_
  refine sm_bd (mid := fun (t13 : Unit) => .inl (79, [], [])) (sm_lp (hd := fun (t3 : Int32) => (.inl (17, [(1, .inl t3), (0, .inr (.inr x0))], []) : mC)) (fun t3 => ?_) m_F 0) (fun t13 => ?_)
  · refine sm_iload_n (i := 1) (j := 0) (pc' := 18) d_Si_countSums_17 rfl rfl rfl (sm_aload_n (i := 0) (j := 1) (pc' := 19) d_Si_countSums_18 rfl rfl rfl ?_)
    refine sm_getI (pc' := 22) d_Si_countSums_19 rfl fl_Si_25 rfl ⟨by decide, by decide⟩ (fun v4 => ?_)
    refine sm_icmp_ge (tgt := 79) (pc' := 25) d_Si_countSums_22 rfl rfl ?_ ?_
    · refine sm_sub [] rfl ?_
      exact sm_rt rfl
    · refine sm_bipush (pc' := 27) d_Si_countSums_25 rfl ib_18 (sm_istore_n (i := 2) (L' := [(2, .inl 18), (1, .inl t3), (0, .inr (.inr x0))]) (pc' := 28) d_Si_countSums_27 rfl rfl (Nat.le_of_ble_eq_true rfl) rfl ?_)
      refine sm_sub [0, 2, 1] rfl ?_
      refine sm_bd (mid := fun (t12 : Unit) => .inl (73, [(0, .inr (.inr x0)), (1, .inl t3)], [])) (sm_lp (hd := fun (t5 : Int32) => (.inl (28, [(2, .inl t5), (0, .inr (.inr x0)), (1, .inl t3)], []) : mC)) (fun t5 => ?_) m_F 18) (fun t12 => ?_)
      · refine sm_iload_n (i := 2) (j := 0) (pc' := 29) d_Si_countSums_28 rfl rfl rfl ?_
        refine sm_if_le (tgt := 73) (pc' := 32) d_Si_countSums_29 rfl rfl ?_ ?_
        · refine sm_sub [1, 2] rfl ?_
          exact sm_rt rfl
        · refine sm_iconst (pc' := 33) d_Si_countSums_32 rfl ic_1 (sm_istore_n (i := 3) (L' := [(3, .inl 1), (2, .inl t5), (0, .inr (.inr x0)), (1, .inl t3)]) (pc' := 34) d_Si_countSums_33 rfl rfl (Nat.le_of_ble_eq_true rfl) rfl ?_)
          refine sm_sub [0, 2, 3, 1] rfl ?_
          refine sm_bd (mid := fun (t11 : Unit) => .inl (67, [(0, .inr (.inr x0)), (1, .inl t3), (2, .inl t5)], [])) (sm_lp (hd := fun (t6 : Int32) => (.inl (34, [(3, .inl t6), (0, .inr (.inr x0)), (1, .inl t3), (2, .inl t5)], []) : mC)) (fun t6 => ?_) m_F 1) (fun t11 => ?_)
          · refine sm_iload_n (i := 3) (j := 0) (pc' := 35) d_Si_countSums_34 rfl rfl rfl (sm_iconst (pc' := 36) d_Si_countSums_35 rfl ic_3 ?_)
            refine sm_icmp_gt (tgt := 67) (pc' := 39) d_Si_countSums_36 rfl rfl ?_ ?_
            · refine sm_sub [1, 2, 3] rfl ?_
              exact sm_rt rfl
            · refine sm_iload_n (i := 3) (j := 0) (pc' := 40) d_Si_countSums_39 rfl rfl rfl (sm_iload_n (i := 2) (j := 3) (pc' := 41) d_Si_countSums_40 rfl rfl rfl ?_)
              refine sm_icmp_gt (tgt := 67) (pc' := 44) d_Si_countSums_41 rfl rfl ?_ ?_
              · refine sm_sub [1, 2, 3] rfl ?_
                exact sm_rt rfl
              · refine sm_aload_n (i := 0) (j := 1) (pc' := 45) d_Si_countSums_44 rfl rfl rfl ?_
                refine sm_getR (pc' := 48) d_Si_countSums_45 rfl fl_Si_15 rfl rfl (fun v7 => ?_)
                refine sm_iload_n (i := 2) (j := 3) (pc' := 49) d_Si_countSums_48 rfl rfl rfl (sm_dup2 (pc' := 50) d_Si_countSums_49 rfl rfl rfl ?_)
                refine sm_iald (pc' := 51) d_Si_countSums_50 rfl (fun v8 => ?_)
                refine sm_aload_n (i := 0) (j := 1) (pc' := 52) d_Si_countSums_51 rfl rfl rfl ?_
                refine sm_getR (pc' := 55) d_Si_countSums_52 rfl fl_Si_15 rfl rfl (fun v9 => ?_)
                refine sm_iload_n (i := 2) (j := 3) (pc' := 56) d_Si_countSums_55 rfl rfl rfl (sm_iload_n (i := 3) (j := 0) (pc' := 57) d_Si_countSums_56 rfl rfl rfl (sm_isub (pc' := 58) d_Si_countSums_57 rfl ?_))
                refine sm_iald (pc' := 59) d_Si_countSums_58 rfl (fun v10 => ?_)
                refine sm_iadd (pc' := 60) d_Si_countSums_59 rfl (sm_iast (pc' := 61) d_Si_countSums_60 rfl (sm_iinc (j := 0) (L' := [(3, .inl (t6 + 1)), (0, .inr (.inr x0)), (1, .inl t3), (2, .inl t5)]) (pc' := 64) d_Si_countSums_61 rfl (v := (t6 + 1)) rfl (ix_1 _) (Nat.le_of_ble_eq_true rfl) rfl (sm_goto (tgt := 34) d_Si_countSums_64 rfl (sm_sub [0, 1, 2, 3] rfl ?_))))
                exact sm_rt rfl
          · refine sm_iinc (j := 2) (L' := [(2, .inl (t5 + (-1))), (0, .inr (.inr x0)), (1, .inl t3)]) (pc' := 70) d_Si_countSums_67 rfl (v := (t5 + (-1))) rfl (ix_m1 _) (Nat.le_of_ble_eq_true rfl) rfl (sm_goto (tgt := 28) d_Si_countSums_70 rfl (sm_sub [0, 1, 2] rfl ?_))
            exact sm_rt rfl
      · refine sm_iinc (j := 1) (L' := [(1, .inl (t3 + 1)), (0, .inr (.inr x0))]) (pc' := 76) d_Si_countSums_73 rfl (v := (t3 + 1)) rfl (ix_1 _) (Nat.le_of_ble_eq_true rfl) rfl (sm_goto (tgt := 17) d_Si_countSums_76 rfl (sm_sub [0, 1] rfl ?_))
        exact sm_rt rfl
  · exact sm_return d_Si_countSums_79 rfl rfl
theorem d_Si_ways_0 : m_D k_Si_ways 0 (.aload_n 0) 1 := (by decide +kernel : decode prog_9_method_4_code 0 = .ok (.aload_n 0, 1))
theorem d_Si_ways_1 : m_D k_Si_ways 1 (.invokevirtual 33) 3 := (by decide +kernel : decode prog_9_method_4_code 1 = .ok (.invokevirtual 33, 3))
theorem d_Si_ways_4 : m_D k_Si_ways 4 (.iconst 0) 1 := (by decide +kernel : decode prog_9_method_4_code 4 = .ok (.iconst 0, 1))
theorem d_Si_ways_5 : m_D k_Si_ways 5 (.istore_n 1) 1 := (by decide +kernel : decode prog_9_method_4_code 5 = .ok (.istore_n 1, 1))
theorem d_Si_ways_6 : m_D k_Si_ways 6 (.iconst 0) 1 := (by decide +kernel : decode prog_9_method_4_code 6 = .ok (.iconst 0, 1))
theorem d_Si_ways_7 : m_D k_Si_ways 7 (.istore_n 2) 1 := (by decide +kernel : decode prog_9_method_4_code 7 = .ok (.istore_n 2, 1))
theorem d_Si_ways_8 : m_D k_Si_ways 8 (.iload_n 2) 1 := (by decide +kernel : decode prog_9_method_4_code 8 = .ok (.iload_n 2, 1))
theorem d_Si_ways_9 : m_D k_Si_ways 9 (.bipush 18) 2 := (by decide +kernel : decode prog_9_method_4_code 9 = .ok (.bipush 18, 2))
theorem d_Si_ways_11 : m_D k_Si_ways 11 (.if_icmp .gt 27) 3 := (by decide +kernel : decode prog_9_method_4_code 11 = .ok (.if_icmp .gt 27, 3))
theorem d_Si_ways_14 : m_D k_Si_ways 14 (.aload_n 0) 1 := (by decide +kernel : decode prog_9_method_4_code 14 = .ok (.aload_n 0, 1))
theorem d_Si_ways_15 : m_D k_Si_ways 15 (.getfield 11) 3 := (by decide +kernel : decode prog_9_method_4_code 15 = .ok (.getfield 11, 3))
theorem d_Si_ways_18 : m_D k_Si_ways 18 (.iload_n 2) 1 := (by decide +kernel : decode prog_9_method_4_code 18 = .ok (.iload_n 2, 1))
theorem d_Si_ways_19 : m_D k_Si_ways 19 (.baload) 1 := (by decide +kernel : decode prog_9_method_4_code 19 = .ok (.baload, 1))
theorem d_Si_ways_20 : m_D k_Si_ways 20 (.ifCond .eq 12) 3 := (by decide +kernel : decode prog_9_method_4_code 20 = .ok (.ifCond .eq 12, 3))
theorem d_Si_ways_23 : m_D k_Si_ways 23 (.iload_n 1) 1 := (by decide +kernel : decode prog_9_method_4_code 23 = .ok (.iload_n 1, 1))
theorem d_Si_ways_24 : m_D k_Si_ways 24 (.aload_n 0) 1 := (by decide +kernel : decode prog_9_method_4_code 24 = .ok (.aload_n 0, 1))
theorem d_Si_ways_25 : m_D k_Si_ways 25 (.getfield 15) 3 := (by decide +kernel : decode prog_9_method_4_code 25 = .ok (.getfield 15, 3))
theorem d_Si_ways_28 : m_D k_Si_ways 28 (.iload_n 2) 1 := (by decide +kernel : decode prog_9_method_4_code 28 = .ok (.iload_n 2, 1))
theorem d_Si_ways_29 : m_D k_Si_ways 29 (.iaload) 1 := (by decide +kernel : decode prog_9_method_4_code 29 = .ok (.iaload, 1))
theorem d_Si_ways_30 : m_D k_Si_ways 30 (.iadd) 1 := (by decide +kernel : decode prog_9_method_4_code 30 = .ok (.iadd, 1))
theorem d_Si_ways_31 : m_D k_Si_ways 31 (.istore_n 1) 1 := (by decide +kernel : decode prog_9_method_4_code 31 = .ok (.istore_n 1, 1))
theorem d_Si_ways_32 : m_D k_Si_ways 32 (.iinc 2 1) 3 := (by decide +kernel : decode prog_9_method_4_code 32 = .ok (.iinc 2 1, 3))
theorem d_Si_ways_35 : m_D k_Si_ways 35 (.goto (-27)) 3 := (by decide +kernel : decode prog_9_method_4_code 35 = .ok (.goto (-27), 3))
theorem d_Si_ways_38 : m_D k_Si_ways 38 (.iload_n 1) 1 := (by decide +kernel : decode prog_9_method_4_code 38 = .ok (.iload_n 1, 1))
theorem d_Si_ways_39 : m_D k_Si_ways 39 (.ireturn) 1 := (by decide +kernel : decode prog_9_method_4_code 39 = .ok (.ireturn, 1))
def fn_Si_ways_l8 (x0 : Option mA) (t1 : Int32 × Int32) : mP ((Int32 × Int32) ⊕ (Int32)) :=
  if 18 < t1.2 then
    m_rt (.inr t1.1)
  else
    m_bd (m_gR 8 0 x0) fun v2 =>
    m_bd (m_aI 3 v2 t1.2) fun v3 =>
    m_bd (α := Int32) (
      if v3 = 0 then
        m_rt t1.1
      else
        m_bd (m_gR 8 1 x0) fun v4 =>
        m_bd (m_aI 0 v4 t1.2) fun v5 =>
        m_rt (t1.1 + v5)
      ) fun (t6 : Int32) =>
    m_rt (.inl (t6, (t1.2 + 1)))
def fn_Si_ways (x0 : Option mA) : mP Int32 :=
  m_th 8 x0 <|
  m_bd (fn_Si_countSums x0) fun _ =>
  m_bd (m_lp (fn_Si_ways_l8 x0) m_F (0, 0)) fun (t7 : Int32) =>
  m_rt t7
set_option maxHeartbeats 4000000 in
set_option maxRecDepth 100000 in
theorem sd_Si_ways (x0 : Option mA) : m_Sm k_Si_ways 3 0 0 [.inr (.inr x0)] (fn_Si_ways x0) (fun b => some (.inl b)) := by
  refine ⟨Nat.le_of_ble_eq_true rfl, ?_⟩
  refine sm_th ?_
  refine sm_aload_n (i := 0) (j := 0) (pc' := 1) d_Si_ways_0 rfl rfl rfl ?_
  refine sm_callVv (ci := 8) (x := x0) (av := []) (st := []) (mc := 0) (ms := 0) (pc' := 4) d_Si_ways_1 rfl (sd_Si_countSums x0) m_lv rfl cv_Si_countSums w_ml_Si_33 rfl rfl (by decide) (Nat.le_of_ble_eq_true rfl) rfl rfl ?_
  refine sm_iconst (pc' := 5) d_Si_ways_4 rfl ic_0 (sm_istore_n (i := 1) (L' := [(1, .inl 0), (0, .inr (.inr x0))]) (pc' := 6) d_Si_ways_5 rfl rfl (Nat.le_of_ble_eq_true rfl) rfl (sm_iconst (pc' := 7) d_Si_ways_6 rfl ic_0 (sm_istore_n (i := 2) (L' := [(2, .inl 0), (1, .inl 0), (0, .inr (.inr x0))]) (pc' := 8) d_Si_ways_7 rfl rfl (Nat.le_of_ble_eq_true rfl) rfl ?_)))
  refine sm_sub [1, 0, 2] rfl ?_
  refine sm_bd (mid := fun (t7 : Int32) => .inl (38, [(1, .inl t7)], [])) (sm_lp (hd := fun (t1 : Int32 × Int32) => (.inl (8, [(1, .inl t1.1), (2, .inl t1.2), (0, .inr (.inr x0))], []) : mC)) (fun t1 => ?_) m_F (0, 0)) (fun t7 => ?_)
  · refine sm_iload_n (i := 2) (j := 1) (pc' := 9) d_Si_ways_8 rfl rfl rfl (sm_bipush (pc' := 11) d_Si_ways_9 rfl ib_18 ?_)
    refine sm_icmp_gt (tgt := 38) (pc' := 14) d_Si_ways_11 rfl rfl ?_ ?_
    · refine sm_sub [0] rfl ?_
      exact sm_rt rfl
    · refine sm_aload_n (i := 0) (j := 2) (pc' := 15) d_Si_ways_14 rfl rfl rfl ?_
      refine sm_getR (pc' := 18) d_Si_ways_15 rfl fl_Si_11 rfl rfl (fun v2 => ?_)
      refine sm_iload_n (i := 2) (j := 1) (pc' := 19) d_Si_ways_18 rfl rfl rfl ?_
      refine sm_zald (pc' := 20) d_Si_ways_19 rfl (fun v3 => ?_)
      refine sm_bd (mid := fun (t6 : Int32) => .inl (32, [(0, .inr (.inr x0)), (1, .inl t6), (2, .inl t1.2)], [])) ?_ (fun t6 => ?_)
      · refine sm_if_eq (tgt := 32) (pc' := 23) d_Si_ways_20 rfl rfl ?_ ?_
        · refine sm_sub [2, 0, 1] rfl ?_
          exact sm_rt rfl
        · refine sm_iload_n (i := 1) (j := 0) (pc' := 24) d_Si_ways_23 rfl rfl rfl (sm_aload_n (i := 0) (j := 2) (pc' := 25) d_Si_ways_24 rfl rfl rfl ?_)
          refine sm_getR (pc' := 28) d_Si_ways_25 rfl fl_Si_15 rfl rfl (fun v4 => ?_)
          refine sm_iload_n (i := 2) (j := 1) (pc' := 29) d_Si_ways_28 rfl rfl rfl ?_
          refine sm_iald (pc' := 30) d_Si_ways_29 rfl (fun v5 => ?_)
          refine sm_iadd (pc' := 31) d_Si_ways_30 rfl (sm_istore_n (i := 1) (L' := [(1, .inl (t1.1 + v5)), (2, .inl t1.2), (0, .inr (.inr x0))]) (pc' := 32) d_Si_ways_31 rfl rfl (Nat.le_of_ble_eq_true rfl) rfl (sm_sub [2, 0, 1] rfl ?_))
          exact sm_rt rfl
      · refine sm_iinc (j := 2) (L' := [(2, .inl (t1.2 + 1)), (0, .inr (.inr x0)), (1, .inl t6)]) (pc' := 35) d_Si_ways_32 rfl (v := (t1.2 + 1)) rfl (ix_1 _) (Nat.le_of_ble_eq_true rfl) rfl (sm_goto (tgt := 8) d_Si_ways_35 rfl (sm_sub [2, 0, 1] rfl ?_))
        exact sm_rt rfl
  · refine sm_iload_n (i := 1) (j := 0) (pc' := 39) d_Si_ways_38 rfl rfl rfl ?_
    exact sm_ireturn d_Si_ways_39 rfl rfl
theorem d_C_seen_0 : m_D k_C_seen 0 (.aload_n 0) 1 := (by decide +kernel : decode prog_1_method_49_code 0 = .ok (.aload_n 0, 1))
theorem d_C_seen_1 : m_D k_C_seen 1 (.aload_n 0) 1 := (by decide +kernel : decode prog_1_method_49_code 1 = .ok (.aload_n 0, 1))
theorem d_C_seen_2 : m_D k_C_seen 2 (.iload_n 1) 1 := (by decide +kernel : decode prog_1_method_49_code 2 = .ok (.iload_n 1, 1))
theorem d_C_seen_3 : m_D k_C_seen 3 (.iload_n 2) 1 := (by decide +kernel : decode prog_1_method_49_code 3 = .ok (.iload_n 2, 1))
theorem d_C_seen_4 : m_D k_C_seen 4 (.invokevirtual 327) 3 := (by decide +kernel : decode prog_1_method_49_code 4 = .ok (.invokevirtual 327, 3))
theorem d_C_seen_7 : m_D k_C_seen 7 (.putfield 9) 3 := (by decide +kernel : decode prog_1_method_49_code 7 = .ok (.putfield 9, 3))
theorem d_C_seen_10 : m_D k_C_seen 10 (.aload_n 0) 1 := (by decide +kernel : decode prog_1_method_49_code 10 = .ok (.aload_n 0, 1))
theorem d_C_seen_11 : m_D k_C_seen 11 (.getfield 9) 3 := (by decide +kernel : decode prog_1_method_49_code 11 = .ok (.getfield 9, 3))
theorem d_C_seen_14 : m_D k_C_seen 14 (.ifCond .eq 5) 3 := (by decide +kernel : decode prog_1_method_49_code 14 = .ok (.ifCond .eq 5, 3))
theorem d_C_seen_17 : m_D k_C_seen 17 (.iconst (-1)) 1 := (by decide +kernel : decode prog_1_method_49_code 17 = .ok (.iconst (-1), 1))
theorem d_C_seen_18 : m_D k_C_seen 18 (.ireturn) 1 := (by decide +kernel : decode prog_1_method_49_code 18 = .ok (.ireturn, 1))
theorem d_C_seen_19 : m_D k_C_seen 19 (.aload_n 0) 1 := (by decide +kernel : decode prog_1_method_49_code 19 = .ok (.aload_n 0, 1))
theorem d_C_seen_20 : m_D k_C_seen 20 (.getfield 68) 3 := (by decide +kernel : decode prog_1_method_49_code 20 = .ok (.getfield 68, 3))
theorem d_C_seen_23 : m_D k_C_seen 23 (.aload_n 0) 1 := (by decide +kernel : decode prog_1_method_49_code 23 = .ok (.aload_n 0, 1))
theorem d_C_seen_24 : m_D k_C_seen 24 (.getfield 37) 3 := (by decide +kernel : decode prog_1_method_49_code 24 = .ok (.getfield 37, 3))
theorem d_C_seen_27 : m_D k_C_seen 27 (.iconst 0) 1 := (by decide +kernel : decode prog_1_method_49_code 27 = .ok (.iconst 0, 1))
theorem d_C_seen_28 : m_D k_C_seen 28 (.invokevirtual 197) 3 := (by decide +kernel : decode prog_1_method_49_code 28 = .ok (.invokevirtual 197, 3))
theorem d_C_seen_31 : m_D k_C_seen 31 (.aload_n 0) 1 := (by decide +kernel : decode prog_1_method_49_code 31 = .ok (.aload_n 0, 1))
theorem d_C_seen_32 : m_D k_C_seen 32 (.getfield 22) 3 := (by decide +kernel : decode prog_1_method_49_code 32 = .ok (.getfield 22, 3))
theorem d_C_seen_35 : m_D k_C_seen 35 (.iload_n 1) 1 := (by decide +kernel : decode prog_1_method_49_code 35 = .ok (.iload_n 1, 1))
theorem d_C_seen_36 : m_D k_C_seen 36 (.aaload) 1 := (by decide +kernel : decode prog_1_method_49_code 36 = .ok (.aaload, 1))
theorem d_C_seen_37 : m_D k_C_seen 37 (.getfield 112) 3 := (by decide +kernel : decode prog_1_method_49_code 37 = .ok (.getfield 112, 3))
theorem d_C_seen_40 : m_D k_C_seen 40 (.iload_n 2) 1 := (by decide +kernel : decode prog_1_method_49_code 40 = .ok (.iload_n 2, 1))
theorem d_C_seen_41 : m_D k_C_seen 41 (.invokevirtual 330) 3 := (by decide +kernel : decode prog_1_method_49_code 41 = .ok (.invokevirtual 330, 3))
theorem d_C_seen_44 : m_D k_C_seen 44 (.aload_n 0) 1 := (by decide +kernel : decode prog_1_method_49_code 44 = .ok (.aload_n 0, 1))
theorem d_C_seen_45 : m_D k_C_seen 45 (.getfield 68) 3 := (by decide +kernel : decode prog_1_method_49_code 45 = .ok (.getfield 68, 3))
theorem d_C_seen_48 : m_D k_C_seen 48 (.invokevirtual 334) 3 := (by decide +kernel : decode prog_1_method_49_code 48 = .ok (.invokevirtual 334, 3))
theorem d_C_seen_51 : m_D k_C_seen 51 (.ireturn) 1 := (by decide +kernel : decode prog_1_method_49_code 51 = .ok (.ireturn, 1))
def fn_C_seen (x0 : Option mA) (x1 : Int32) (x2 : Int32) : mP Int32 :=
  m_th 0 x0 <|
  m_bd (fn_C_seenStatus x0 x1 x2) fun v1 =>
  m_bd (m_pI 0 0 x0 v1) fun _ =>
  m_bd (m_gI 0 0 x0) fun v2 =>
  if v2 = 0 then
    m_bd (m_gR 0 11 x0) fun v3 =>
    m_bd (m_gR 0 5 x0) fun v4 =>
    m_bd (fn_Fa_showingSet v4 0) fun v5 =>
    m_bd (m_gR 0 3 x0) fun v6 =>
    m_bd (m_aR 4 v6 x1) fun v7 =>
    m_bd (m_gR 1 2 v7) fun v8 =>
    m_bd (fn_Si_look v3 v5 v8 x2) fun _ =>
    m_bd (m_gR 0 11 x0) fun v9 =>
    m_bd (fn_Si_ways v9) fun v10 =>
    m_rt v10
  else
    m_rt (-1)
set_option maxHeartbeats 4000000 in
set_option maxRecDepth 100000 in
theorem sd_C_seen (x0 : Option mA) (x1 : Int32) (x2 : Int32) : m_Sm k_C_seen 4 0 0 [.inr (.inr x0), .inl x1, .inl x2] (fn_C_seen x0 x1 x2) (fun b => some (.inl b)) := by
  refine ⟨Nat.le_of_ble_eq_true rfl, ?_⟩
  refine sm_th ?_
  refine sm_aload_n (i := 0) (j := 0) (pc' := 1) d_C_seen_0 rfl rfl rfl (sm_aload_n (i := 0) (j := 0) (pc' := 2) d_C_seen_1 rfl rfl rfl (sm_iload_n (i := 1) (j := 1) (pc' := 3) d_C_seen_2 rfl rfl rfl (sm_iload_n (i := 2) (j := 2) (pc' := 4) d_C_seen_3 rfl rfl rfl ?_)))
  refine sm_callVi (ci := 0) (x := x0) (av := [.inl x1, .inl x2]) (st := [.inr (.inr x0)]) (mc := 0) (ms := 0) (pc' := 7) d_C_seen_4 rfl (sd_C_seenStatus x0 x1 x2) m_lv rfl cv_C_seenStatus w_ml_C_327 rfl rfl (by decide) (Nat.le_of_ble_eq_true rfl) rfl rfl (fun v1 => ?_)
  refine sm_putI (pc' := 10) d_C_seen_7 rfl fl_C_9 (Or.inl rfl) rfl (sm_aload_n (i := 0) (j := 0) (pc' := 11) d_C_seen_10 rfl rfl rfl ?_)
  refine sm_getI (pc' := 14) d_C_seen_11 rfl fl_C_9 rfl ⟨by decide, by decide⟩ (fun v2 => ?_)
  refine sm_if_eq (tgt := 19) (pc' := 17) d_C_seen_14 rfl rfl ?_ ?_
  · refine sm_aload_n (i := 0) (j := 0) (pc' := 20) d_C_seen_19 rfl rfl rfl ?_
    refine sm_getR (pc' := 23) d_C_seen_20 rfl fl_C_68 rfl rfl (fun v3 => ?_)
    refine sm_aload_n (i := 0) (j := 0) (pc' := 24) d_C_seen_23 rfl rfl rfl ?_
    refine sm_getR (pc' := 27) d_C_seen_24 rfl fl_C_37 rfl rfl (fun v4 => ?_)
    refine sm_iconst (pc' := 28) d_C_seen_27 rfl ic_0 ?_
    refine sm_callVi (ci := 3) (x := v4) (av := [.inl 0]) (st := [.inr (.inr v3)]) (mc := 0) (ms := 0) (pc' := 31) d_C_seen_28 rfl (sd_Fa_showingSet v4 0) m_lv rfl cv_Fa_showingSet w_ml_C_197 rfl rfl (by decide) (Nat.le_of_ble_eq_true rfl) rfl rfl (fun v5 => ?_)
    refine sm_aload_n (i := 0) (j := 0) (pc' := 32) d_C_seen_31 rfl rfl rfl ?_
    refine sm_getR (pc' := 35) d_C_seen_32 rfl fl_C_22 rfl rfl (fun v6 => ?_)
    refine sm_iload_n (i := 1) (j := 1) (pc' := 36) d_C_seen_35 rfl rfl rfl ?_
    refine sm_aald (t := 4) ⟨by decide, by decide⟩ rfl (pc' := 37) d_C_seen_36 rfl (fun v7 => ?_)
    refine sm_getR (pc' := 40) d_C_seen_37 rfl fl_C_112 rfl rfl (fun v8 => ?_)
    refine sm_iload_n (i := 2) (j := 2) (pc' := 41) d_C_seen_40 rfl rfl rfl ?_
    refine sm_callVv (ci := 8) (x := v3) (av := [.inl v5, .inr (.inr v8), .inl x2]) (st := []) (mc := 0) (ms := 0) (pc' := 44) d_C_seen_41 rfl (sd_Si_look v3 v5 v8 x2) m_lv rfl cv_Si_look w_ml_C_330 rfl rfl (by decide) (Nat.le_of_ble_eq_true rfl) rfl rfl ?_
    refine sm_aload_n (i := 0) (j := 0) (pc' := 45) d_C_seen_44 rfl rfl rfl ?_
    refine sm_getR (pc' := 48) d_C_seen_45 rfl fl_C_68 rfl rfl (fun v9 => ?_)
    refine sm_callVi (ci := 8) (x := v9) (av := []) (st := []) (mc := 0) (ms := 0) (pc' := 51) d_C_seen_48 rfl (sd_Si_ways v9) m_lv rfl cv_Si_ways w_ml_C_334 rfl rfl (by decide) (Nat.le_of_ble_eq_true rfl) rfl rfl (fun v10 => ?_)
    exact sm_ireturn d_C_seen_51 rfl rfl
  · refine sm_iconst (pc' := 18) d_C_seen_17 rfl ic_m1 ?_
    exact sm_ireturn d_C_seen_18 rfl rfl
theorem d_Si_canLove_0 : m_D k_Si_canLove 0 (.iconst 0) 1 := (by decide +kernel : decode prog_9_method_7_code 0 = .ok (.iconst 0, 1))
theorem d_Si_canLove_1 : m_D k_Si_canLove 1 (.istore_n 2) 1 := (by decide +kernel : decode prog_9_method_7_code 1 = .ok (.istore_n 2, 1))
theorem d_Si_canLove_2 : m_D k_Si_canLove 2 (.iload_n 2) 1 := (by decide +kernel : decode prog_9_method_7_code 2 = .ok (.iload_n 2, 1))
theorem d_Si_canLove_3 : m_D k_Si_canLove 3 (.iconst 3) 1 := (by decide +kernel : decode prog_9_method_7_code 3 = .ok (.iconst 3, 1))
theorem d_Si_canLove_4 : m_D k_Si_canLove 4 (.aload_n 0) 1 := (by decide +kernel : decode prog_9_method_7_code 4 = .ok (.aload_n 0, 1))
theorem d_Si_canLove_5 : m_D k_Si_canLove 5 (.getfield 25) 3 := (by decide +kernel : decode prog_9_method_7_code 5 = .ok (.getfield 25, 3))
theorem d_Si_canLove_8 : m_D k_Si_canLove 8 (.iconst 1) 1 := (by decide +kernel : decode prog_9_method_7_code 8 = .ok (.iconst 1, 1))
theorem d_Si_canLove_9 : m_D k_Si_canLove 9 (.isub) 1 := (by decide +kernel : decode prog_9_method_7_code 9 = .ok (.isub, 1))
theorem d_Si_canLove_10 : m_D k_Si_canLove 10 (.imul) 1 := (by decide +kernel : decode prog_9_method_7_code 10 = .ok (.imul, 1))
theorem d_Si_canLove_11 : m_D k_Si_canLove 11 (.if_icmp .gt 22) 3 := (by decide +kernel : decode prog_9_method_7_code 11 = .ok (.if_icmp .gt 22, 3))
theorem d_Si_canLove_14 : m_D k_Si_canLove 14 (.aload_n 0) 1 := (by decide +kernel : decode prog_9_method_7_code 14 = .ok (.aload_n 0, 1))
theorem d_Si_canLove_15 : m_D k_Si_canLove 15 (.getfield 11) 3 := (by decide +kernel : decode prog_9_method_7_code 15 = .ok (.getfield 11, 3))
theorem d_Si_canLove_18 : m_D k_Si_canLove 18 (.iload_n 1) 1 := (by decide +kernel : decode prog_9_method_7_code 18 = .ok (.iload_n 1, 1))
theorem d_Si_canLove_19 : m_D k_Si_canLove 19 (.iload_n 2) 1 := (by decide +kernel : decode prog_9_method_7_code 19 = .ok (.iload_n 2, 1))
theorem d_Si_canLove_20 : m_D k_Si_canLove 20 (.iadd) 1 := (by decide +kernel : decode prog_9_method_7_code 20 = .ok (.iadd, 1))
theorem d_Si_canLove_21 : m_D k_Si_canLove 21 (.baload) 1 := (by decide +kernel : decode prog_9_method_7_code 21 = .ok (.baload, 1))
theorem d_Si_canLove_22 : m_D k_Si_canLove 22 (.ifCond .eq 5) 3 := (by decide +kernel : decode prog_9_method_7_code 22 = .ok (.ifCond .eq 5, 3))
theorem d_Si_canLove_25 : m_D k_Si_canLove 25 (.iconst 1) 1 := (by decide +kernel : decode prog_9_method_7_code 25 = .ok (.iconst 1, 1))
theorem d_Si_canLove_26 : m_D k_Si_canLove 26 (.ireturn) 1 := (by decide +kernel : decode prog_9_method_7_code 26 = .ok (.ireturn, 1))
theorem d_Si_canLove_27 : m_D k_Si_canLove 27 (.iinc 2 1) 3 := (by decide +kernel : decode prog_9_method_7_code 27 = .ok (.iinc 2 1, 3))
theorem d_Si_canLove_30 : m_D k_Si_canLove 30 (.goto (-28)) 3 := (by decide +kernel : decode prog_9_method_7_code 30 = .ok (.goto (-28), 3))
theorem d_Si_canLove_33 : m_D k_Si_canLove 33 (.iconst 0) 1 := (by decide +kernel : decode prog_9_method_7_code 33 = .ok (.iconst 0, 1))
theorem d_Si_canLove_34 : m_D k_Si_canLove 34 (.ireturn) 1 := (by decide +kernel : decode prog_9_method_7_code 34 = .ok (.ireturn, 1))
def fn_Si_canLove_l2 (x0 : Option mA) (x1 : Int32) (t1 : Int32) : mP ((Int32) ⊕ (Int32)) :=
  m_bd (m_gI 8 2 x0) fun v2 =>
  if (3 * (v2 - 1)) < t1 then
    m_rt (.inr 0)
  else
    m_bd (m_gR 8 0 x0) fun v3 =>
    m_bd (m_aI 3 v3 (x1 + t1)) fun v4 =>
    if v4 = 0 then
      m_rt (.inl (t1 + 1))
    else
      m_rt (.inr 1)
def fn_Si_canLove (x0 : Option mA) (x1 : Int32) : mP Int32 :=
  m_th 8 x0 <|
  m_lp (fn_Si_canLove_l2 x0 x1) m_F 0
set_option maxHeartbeats 4000000 in
set_option maxRecDepth 100000 in
theorem sd_Si_canLove (x0 : Option mA) (x1 : Int32) : m_Sm k_Si_canLove 1 0 0 [.inr (.inr x0), .inl x1] (fn_Si_canLove x0 x1) (fun b => some (.inl b)) := by
  refine ⟨Nat.le_of_ble_eq_true rfl, ?_⟩
  refine sm_th ?_
  refine sm_iconst (pc' := 1) d_Si_canLove_0 rfl ic_0 (sm_istore_n (i := 2) (L' := [(2, .inl 0), (0, .inr (.inr x0)), (1, .inl x1)]) (pc' := 2) d_Si_canLove_1 rfl rfl (Nat.le_of_ble_eq_true rfl) rfl ?_)
  refine sm_sub [0, 1, 2] rfl ?_
  refine sm_lp (hd := fun (t1 : Int32) => (.inl (2, [(2, .inl t1), (0, .inr (.inr x0)), (1, .inl x1)], []) : mC)) (fun t1 => ?_) m_F 0
  refine sm_iload_n (i := 2) (j := 0) (pc' := 3) d_Si_canLove_2 rfl rfl rfl (sm_iconst (pc' := 4) d_Si_canLove_3 rfl ic_3 (sm_aload_n (i := 0) (j := 1) (pc' := 5) d_Si_canLove_4 rfl rfl rfl ?_))
  refine sm_getI (pc' := 8) d_Si_canLove_5 rfl fl_Si_25 rfl ⟨by decide, by decide⟩ (fun v2 => ?_)
  refine sm_iconst (pc' := 9) d_Si_canLove_8 rfl ic_1 (sm_isub (pc' := 10) d_Si_canLove_9 rfl (sm_imul (pc' := 11) d_Si_canLove_10 rfl ?_))
  refine sm_icmp_gt (tgt := 33) (pc' := 14) d_Si_canLove_11 rfl rfl ?_ ?_
  · refine sm_iconst (pc' := 34) d_Si_canLove_33 rfl ic_0 ?_
    exact sm_zreturn d_Si_canLove_34 rfl (by decide) rfl
  · refine sm_aload_n (i := 0) (j := 1) (pc' := 15) d_Si_canLove_14 rfl rfl rfl ?_
    refine sm_getR (pc' := 18) d_Si_canLove_15 rfl fl_Si_11 rfl rfl (fun v3 => ?_)
    refine sm_iload_n (i := 1) (j := 2) (pc' := 19) d_Si_canLove_18 rfl rfl rfl (sm_iload_n (i := 2) (j := 0) (pc' := 20) d_Si_canLove_19 rfl rfl rfl (sm_iadd (pc' := 21) d_Si_canLove_20 rfl ?_))
    refine sm_zald (pc' := 22) d_Si_canLove_21 rfl (fun v4 => ?_)
    refine sm_if_eq (tgt := 27) (pc' := 25) d_Si_canLove_22 rfl rfl ?_ ?_
    · refine sm_iinc (j := 0) (L' := [(2, .inl (t1 + 1)), (0, .inr (.inr x0)), (1, .inl x1)]) (pc' := 30) d_Si_canLove_27 rfl (v := (t1 + 1)) rfl (ix_1 _) (Nat.le_of_ble_eq_true rfl) rfl (sm_goto (tgt := 2) d_Si_canLove_30 rfl (sm_sub [0, 1, 2] rfl ?_))
      exact sm_rt rfl
    · refine sm_iconst (pc' := 26) d_Si_canLove_25 rfl ic_1 ?_
      exact sm_zreturn d_Si_canLove_26 rfl (by decide) rfl
theorem d_Si_onlyLove_0 : m_D k_Si_onlyLove 0 (.iconst (-1)) 1 := (by decide +kernel : decode prog_9_method_6_code 0 = .ok (.iconst (-1), 1))
theorem d_Si_onlyLove_1 : m_D k_Si_onlyLove 1 (.istore_n 1) 1 := (by decide +kernel : decode prog_9_method_6_code 1 = .ok (.istore_n 1, 1))
theorem d_Si_onlyLove_2 : m_D k_Si_onlyLove 2 (.iconst 0) 1 := (by decide +kernel : decode prog_9_method_6_code 2 = .ok (.iconst 0, 1))
theorem d_Si_onlyLove_3 : m_D k_Si_onlyLove 3 (.istore_n 2) 1 := (by decide +kernel : decode prog_9_method_6_code 3 = .ok (.istore_n 2, 1))
theorem d_Si_onlyLove_4 : m_D k_Si_onlyLove 4 (.iload_n 2) 1 := (by decide +kernel : decode prog_9_method_6_code 4 = .ok (.iload_n 2, 1))
theorem d_Si_onlyLove_5 : m_D k_Si_onlyLove 5 (.iconst 3) 1 := (by decide +kernel : decode prog_9_method_6_code 5 = .ok (.iconst 3, 1))
theorem d_Si_onlyLove_6 : m_D k_Si_onlyLove 6 (.if_icmp .gt 26) 3 := (by decide +kernel : decode prog_9_method_6_code 6 = .ok (.if_icmp .gt 26, 3))
theorem d_Si_onlyLove_9 : m_D k_Si_onlyLove 9 (.aload_n 0) 1 := (by decide +kernel : decode prog_9_method_6_code 9 = .ok (.aload_n 0, 1))
theorem d_Si_onlyLove_10 : m_D k_Si_onlyLove 10 (.iload_n 2) 1 := (by decide +kernel : decode prog_9_method_6_code 10 = .ok (.iload_n 2, 1))
theorem d_Si_onlyLove_11 : m_D k_Si_onlyLove 11 (.invokevirtual 42) 3 := (by decide +kernel : decode prog_9_method_6_code 11 = .ok (.invokevirtual 42, 3))
theorem d_Si_onlyLove_14 : m_D k_Si_onlyLove 14 (.ifCond .eq 12) 3 := (by decide +kernel : decode prog_9_method_6_code 14 = .ok (.ifCond .eq 12, 3))
theorem d_Si_onlyLove_17 : m_D k_Si_onlyLove 17 (.iload_n 1) 1 := (by decide +kernel : decode prog_9_method_6_code 17 = .ok (.iload_n 1, 1))
theorem d_Si_onlyLove_18 : m_D k_Si_onlyLove 18 (.iconst (-1)) 1 := (by decide +kernel : decode prog_9_method_6_code 18 = .ok (.iconst (-1), 1))
theorem d_Si_onlyLove_19 : m_D k_Si_onlyLove 19 (.if_icmp .eq 5) 3 := (by decide +kernel : decode prog_9_method_6_code 19 = .ok (.if_icmp .eq 5, 3))
theorem d_Si_onlyLove_22 : m_D k_Si_onlyLove 22 (.iconst (-1)) 1 := (by decide +kernel : decode prog_9_method_6_code 22 = .ok (.iconst (-1), 1))
theorem d_Si_onlyLove_23 : m_D k_Si_onlyLove 23 (.ireturn) 1 := (by decide +kernel : decode prog_9_method_6_code 23 = .ok (.ireturn, 1))
theorem d_Si_onlyLove_24 : m_D k_Si_onlyLove 24 (.iload_n 2) 1 := (by decide +kernel : decode prog_9_method_6_code 24 = .ok (.iload_n 2, 1))
theorem d_Si_onlyLove_25 : m_D k_Si_onlyLove 25 (.istore_n 1) 1 := (by decide +kernel : decode prog_9_method_6_code 25 = .ok (.istore_n 1, 1))
theorem d_Si_onlyLove_26 : m_D k_Si_onlyLove 26 (.iinc 2 1) 3 := (by decide +kernel : decode prog_9_method_6_code 26 = .ok (.iinc 2 1, 3))
theorem d_Si_onlyLove_29 : m_D k_Si_onlyLove 29 (.goto (-25)) 3 := (by decide +kernel : decode prog_9_method_6_code 29 = .ok (.goto (-25), 3))
theorem d_Si_onlyLove_32 : m_D k_Si_onlyLove 32 (.iload_n 1) 1 := (by decide +kernel : decode prog_9_method_6_code 32 = .ok (.iload_n 1, 1))
theorem d_Si_onlyLove_33 : m_D k_Si_onlyLove 33 (.ireturn) 1 := (by decide +kernel : decode prog_9_method_6_code 33 = .ok (.ireturn, 1))
def fn_Si_onlyLove_l4 (x0 : Option mA) (t1 : Int32 × Int32) : mP ((Int32 × Int32) ⊕ (Int32)) :=
  if 3 < t1.2 then
    m_rt (.inr t1.1)
  else
    m_bd (fn_Si_canLove x0 t1.2) fun v2 =>
    if v2 = 0 then
      m_rt (.inl (t1.1, (t1.2 + 1)))
    else
      if t1.1 = (-1) then
        m_rt (.inl (t1.2, (t1.2 + 1)))
      else
        m_rt (.inr (-1))
def fn_Si_onlyLove (x0 : Option mA) : mP Int32 :=
  m_th 8 x0 <|
  m_lp (fn_Si_onlyLove_l4 x0) m_F ((-1), 0)
set_option maxHeartbeats 4000000 in
set_option maxRecDepth 100000 in
theorem sd_Si_onlyLove (x0 : Option mA) : m_Sm k_Si_onlyLove 2 0 0 [.inr (.inr x0)] (fn_Si_onlyLove x0) (fun b => some (.inl b)) := by
  refine ⟨Nat.le_of_ble_eq_true rfl, ?_⟩
  refine sm_th ?_
  refine sm_iconst (pc' := 1) d_Si_onlyLove_0 rfl ic_m1 (sm_istore_n (i := 1) (L' := [(1, .inl (-1)), (0, .inr (.inr x0))]) (pc' := 2) d_Si_onlyLove_1 rfl rfl (Nat.le_of_ble_eq_true rfl) rfl (sm_iconst (pc' := 3) d_Si_onlyLove_2 rfl ic_0 (sm_istore_n (i := 2) (L' := [(2, .inl 0), (1, .inl (-1)), (0, .inr (.inr x0))]) (pc' := 4) d_Si_onlyLove_3 rfl rfl (Nat.le_of_ble_eq_true rfl) rfl ?_)))
  refine sm_sub [1, 0, 2] rfl ?_
  refine sm_lp (hd := fun (t1 : Int32 × Int32) => (.inl (4, [(1, .inl t1.1), (2, .inl t1.2), (0, .inr (.inr x0))], []) : mC)) (fun t1 => ?_) m_F ((-1), 0)
  refine sm_iload_n (i := 2) (j := 1) (pc' := 5) d_Si_onlyLove_4 rfl rfl rfl (sm_iconst (pc' := 6) d_Si_onlyLove_5 rfl ic_3 ?_)
  refine sm_icmp_gt (tgt := 32) (pc' := 9) d_Si_onlyLove_6 rfl rfl ?_ ?_
  · refine sm_iload_n (i := 1) (j := 0) (pc' := 33) d_Si_onlyLove_32 rfl rfl rfl ?_
    exact sm_ireturn d_Si_onlyLove_33 rfl rfl
  · refine sm_aload_n (i := 0) (j := 2) (pc' := 10) d_Si_onlyLove_9 rfl rfl rfl (sm_iload_n (i := 2) (j := 1) (pc' := 11) d_Si_onlyLove_10 rfl rfl rfl ?_)
    refine sm_callVi (ci := 8) (x := x0) (av := [.inl t1.2]) (st := []) (mc := 0) (ms := 0) (pc' := 14) d_Si_onlyLove_11 rfl (sd_Si_canLove x0 t1.2) m_lv rfl cv_Si_canLove w_ml_Si_42 rfl rfl (by decide) (Nat.le_of_ble_eq_true rfl) rfl rfl (fun v2 => ?_)
    refine sm_if_eq (tgt := 26) (pc' := 17) d_Si_onlyLove_14 rfl rfl ?_ ?_
    · refine sm_iinc (j := 1) (L' := [(2, .inl (t1.2 + 1)), (1, .inl t1.1), (0, .inr (.inr x0))]) (pc' := 29) d_Si_onlyLove_26 rfl (v := (t1.2 + 1)) rfl (ix_1 _) (Nat.le_of_ble_eq_true rfl) rfl (sm_goto (tgt := 4) d_Si_onlyLove_29 rfl (sm_sub [1, 0, 2] rfl ?_))
      exact sm_rt rfl
    · refine sm_iload_n (i := 1) (j := 0) (pc' := 18) d_Si_onlyLove_17 rfl rfl rfl (sm_iconst (pc' := 19) d_Si_onlyLove_18 rfl ic_m1 ?_)
      refine sm_icmp_eq (tgt := 24) (pc' := 22) d_Si_onlyLove_19 rfl rfl ?_ ?_
      · refine sm_iload_n (i := 2) (j := 1) (pc' := 25) d_Si_onlyLove_24 rfl rfl rfl (sm_istore_n (i := 1) (L' := [(1, .inl t1.2), (2, .inl t1.2), (0, .inr (.inr x0))]) (pc' := 26) d_Si_onlyLove_25 rfl rfl (Nat.le_of_ble_eq_true rfl) rfl (sm_iinc (j := 1) (L' := [(2, .inl (t1.2 + 1)), (1, .inl t1.2), (0, .inr (.inr x0))]) (pc' := 29) d_Si_onlyLove_26 rfl (v := (t1.2 + 1)) rfl (ix_1 _) (Nat.le_of_ble_eq_true rfl) rfl (sm_goto (tgt := 4) d_Si_onlyLove_29 rfl (sm_sub [1, 0, 2] rfl ?_))))
        exact sm_rt rfl
      · refine sm_iconst (pc' := 23) d_Si_onlyLove_22 rfl ic_m1 ?_
        exact sm_ireturn d_Si_onlyLove_23 rfl rfl
theorem d_C_sure_0 : m_D k_C_sure 0 (.aload_n 0) 1 := (by decide +kernel : decode prog_1_method_50_code 0 = .ok (.aload_n 0, 1))
theorem d_C_sure_1 : m_D k_C_sure 1 (.iload_n 2) 1 := (by decide +kernel : decode prog_1_method_50_code 1 = .ok (.iload_n 2, 1))
theorem d_C_sure_2 : m_D k_C_sure 2 (.invokestatic 94) 3 := (by decide +kernel : decode prog_1_method_50_code 2 = .ok (.invokestatic 94, 3))
theorem d_C_sure_5 : m_D k_C_sure 5 (.ifCond .eq 15) 3 := (by decide +kernel : decode prog_1_method_50_code 5 = .ok (.ifCond .eq 15, 3))
theorem d_C_sure_8 : m_D k_C_sure 8 (.aload_n 0) 1 := (by decide +kernel : decode prog_1_method_50_code 8 = .ok (.aload_n 0, 1))
theorem d_C_sure_9 : m_D k_C_sure 9 (.iload_n 1) 1 := (by decide +kernel : decode prog_1_method_50_code 9 = .ok (.iload_n 1, 1))
theorem d_C_sure_10 : m_D k_C_sure 10 (.invokevirtual 209) 3 := (by decide +kernel : decode prog_1_method_50_code 10 = .ok (.invokevirtual 209, 3))
theorem d_C_sure_13 : m_D k_C_sure 13 (.ifCond .ne 7) 3 := (by decide +kernel : decode prog_1_method_50_code 13 = .ok (.ifCond .ne 7, 3))
theorem d_C_sure_16 : m_D k_C_sure 16 (.iconst 2) 1 := (by decide +kernel : decode prog_1_method_50_code 16 = .ok (.iconst 2, 1))
theorem d_C_sure_17 : m_D k_C_sure 17 (.goto 9) 3 := (by decide +kernel : decode prog_1_method_50_code 17 = .ok (.goto 9, 3))
theorem d_C_sure_20 : m_D k_C_sure 20 (.aload_n 0) 1 := (by decide +kernel : decode prog_1_method_50_code 20 = .ok (.aload_n 0, 1))
theorem d_C_sure_21 : m_D k_C_sure 21 (.iload_n 2) 1 := (by decide +kernel : decode prog_1_method_50_code 21 = .ok (.iload_n 2, 1))
theorem d_C_sure_22 : m_D k_C_sure 22 (.iload_n 3) 1 := (by decide +kernel : decode prog_1_method_50_code 22 = .ok (.iload_n 3, 1))
theorem d_C_sure_23 : m_D k_C_sure 23 (.invokevirtual 327) 3 := (by decide +kernel : decode prog_1_method_50_code 23 = .ok (.invokevirtual 327, 3))
theorem d_C_sure_26 : m_D k_C_sure 26 (.putfield 9) 3 := (by decide +kernel : decode prog_1_method_50_code 26 = .ok (.putfield 9, 3))
theorem d_C_sure_29 : m_D k_C_sure 29 (.aload_n 0) 1 := (by decide +kernel : decode prog_1_method_50_code 29 = .ok (.aload_n 0, 1))
theorem d_C_sure_30 : m_D k_C_sure 30 (.getfield 9) 3 := (by decide +kernel : decode prog_1_method_50_code 30 = .ok (.getfield 9, 3))
theorem d_C_sure_33 : m_D k_C_sure 33 (.ifCond .eq 5) 3 := (by decide +kernel : decode prog_1_method_50_code 33 = .ok (.ifCond .eq 5, 3))
theorem d_C_sure_36 : m_D k_C_sure 36 (.iconst (-1)) 1 := (by decide +kernel : decode prog_1_method_50_code 36 = .ok (.iconst (-1), 1))
theorem d_C_sure_37 : m_D k_C_sure 37 (.ireturn) 1 := (by decide +kernel : decode prog_1_method_50_code 37 = .ok (.ireturn, 1))
theorem d_C_sure_38 : m_D k_C_sure 38 (.aload_n 0) 1 := (by decide +kernel : decode prog_1_method_50_code 38 = .ok (.aload_n 0, 1))
theorem d_C_sure_39 : m_D k_C_sure 39 (.getfield 37) 3 := (by decide +kernel : decode prog_1_method_50_code 39 = .ok (.getfield 37, 3))
theorem d_C_sure_42 : m_D k_C_sure 42 (.iload_n 1) 1 := (by decide +kernel : decode prog_1_method_50_code 42 = .ok (.iload_n 1, 1))
theorem d_C_sure_43 : m_D k_C_sure 43 (.iconst 0) 1 := (by decide +kernel : decode prog_1_method_50_code 43 = .ok (.iconst 0, 1))
theorem d_C_sure_44 : m_D k_C_sure 44 (.invokevirtual 227) 3 := (by decide +kernel : decode prog_1_method_50_code 44 = .ok (.invokevirtual 227, 3))
theorem d_C_sure_47 : m_D k_C_sure 47 (.ifCond .ne 9) 3 := (by decide +kernel : decode prog_1_method_50_code 47 = .ok (.ifCond .ne 9, 3))
theorem d_C_sure_50 : m_D k_C_sure 50 (.aload_n 0) 1 := (by decide +kernel : decode prog_1_method_50_code 50 = .ok (.aload_n 0, 1))
theorem d_C_sure_51 : m_D k_C_sure 51 (.iconst (-1)) 1 := (by decide +kernel : decode prog_1_method_50_code 51 = .ok (.iconst (-1), 1))
theorem d_C_sure_52 : m_D k_C_sure 52 (.invokevirtual 310) 3 := (by decide +kernel : decode prog_1_method_50_code 52 = .ok (.invokevirtual 310, 3))
theorem d_C_sure_55 : m_D k_C_sure 55 (.ireturn) 1 := (by decide +kernel : decode prog_1_method_50_code 55 = .ok (.ireturn, 1))
theorem d_C_sure_56 : m_D k_C_sure 56 (.aload_n 0) 1 := (by decide +kernel : decode prog_1_method_50_code 56 = .ok (.aload_n 0, 1))
theorem d_C_sure_57 : m_D k_C_sure 57 (.getfield 68) 3 := (by decide +kernel : decode prog_1_method_50_code 57 = .ok (.getfield 68, 3))
theorem d_C_sure_60 : m_D k_C_sure 60 (.aload_n 0) 1 := (by decide +kernel : decode prog_1_method_50_code 60 = .ok (.aload_n 0, 1))
theorem d_C_sure_61 : m_D k_C_sure 61 (.getfield 37) 3 := (by decide +kernel : decode prog_1_method_50_code 61 = .ok (.getfield 37, 3))
theorem d_C_sure_64 : m_D k_C_sure 64 (.iconst 0) 1 := (by decide +kernel : decode prog_1_method_50_code 64 = .ok (.iconst 0, 1))
theorem d_C_sure_65 : m_D k_C_sure 65 (.invokevirtual 197) 3 := (by decide +kernel : decode prog_1_method_50_code 65 = .ok (.invokevirtual 197, 3))
theorem d_C_sure_68 : m_D k_C_sure 68 (.aload_n 0) 1 := (by decide +kernel : decode prog_1_method_50_code 68 = .ok (.aload_n 0, 1))
theorem d_C_sure_69 : m_D k_C_sure 69 (.getfield 22) 3 := (by decide +kernel : decode prog_1_method_50_code 69 = .ok (.getfield 22, 3))
theorem d_C_sure_72 : m_D k_C_sure 72 (.iload_n 2) 1 := (by decide +kernel : decode prog_1_method_50_code 72 = .ok (.iload_n 2, 1))
theorem d_C_sure_73 : m_D k_C_sure 73 (.aaload) 1 := (by decide +kernel : decode prog_1_method_50_code 73 = .ok (.aaload, 1))
theorem d_C_sure_74 : m_D k_C_sure 74 (.getfield 112) 3 := (by decide +kernel : decode prog_1_method_50_code 74 = .ok (.getfield 112, 3))
theorem d_C_sure_77 : m_D k_C_sure 77 (.iload_n 3) 1 := (by decide +kernel : decode prog_1_method_50_code 77 = .ok (.iload_n 3, 1))
theorem d_C_sure_78 : m_D k_C_sure 78 (.invokevirtual 330) 3 := (by decide +kernel : decode prog_1_method_50_code 78 = .ok (.invokevirtual 330, 3))
theorem d_C_sure_81 : m_D k_C_sure 81 (.aload_n 0) 1 := (by decide +kernel : decode prog_1_method_50_code 81 = .ok (.aload_n 0, 1))
theorem d_C_sure_82 : m_D k_C_sure 82 (.aload_n 0) 1 := (by decide +kernel : decode prog_1_method_50_code 82 = .ok (.aload_n 0, 1))
theorem d_C_sure_83 : m_D k_C_sure 83 (.getfield 68) 3 := (by decide +kernel : decode prog_1_method_50_code 83 = .ok (.getfield 68, 3))
theorem d_C_sure_86 : m_D k_C_sure 86 (.invokevirtual 337) 3 := (by decide +kernel : decode prog_1_method_50_code 86 = .ok (.invokevirtual 337, 3))
theorem d_C_sure_89 : m_D k_C_sure 89 (.invokevirtual 310) 3 := (by decide +kernel : decode prog_1_method_50_code 89 = .ok (.invokevirtual 310, 3))
theorem d_C_sure_92 : m_D k_C_sure 92 (.ireturn) 1 := (by decide +kernel : decode prog_1_method_50_code 92 = .ok (.ireturn, 1))
def fn_C_sure (x0 : Option mA) (x1 : Int32) (x2 : Int32) (x3 : Int32) : mP Int32 :=
  m_th 0 x0 <|
  m_bd (fn_C_isTray x2) fun v1 =>
  m_bd (α := Int32) (
    if v1 = 0 then
      m_bd (fn_C_seenStatus x0 x2 x3) fun v2 =>
      m_rt v2
    else
      m_bd (fn_C_isPerson x0 x1) fun v3 =>
      if v3 = 0 then
        m_rt 2
      else
        m_bd (fn_C_seenStatus x0 x2 x3) fun v4 =>
        m_rt v4
    ) fun (t5 : Int32) =>
  m_bd (m_pI 0 0 x0 t5) fun _ =>
  m_bd (m_gI 0 0 x0) fun v6 =>
  if v6 = 0 then
    m_bd (m_gR 0 5 x0) fun v7 =>
    m_bd (fn_Fa_showsAhead v7 x1 0) fun v8 =>
    if v8 = 0 then
      m_bd (fn_C_orNone x0 (-1)) fun v18 =>
      m_rt v18
    else
      m_bd (m_gR 0 11 x0) fun v9 =>
      m_bd (m_gR 0 5 x0) fun v10 =>
      m_bd (fn_Fa_showingSet v10 0) fun v11 =>
      m_bd (m_gR 0 3 x0) fun v12 =>
      m_bd (m_aR 4 v12 x2) fun v13 =>
      m_bd (m_gR 1 2 v13) fun v14 =>
      m_bd (fn_Si_look v9 v11 v14 x3) fun _ =>
      m_bd (m_gR 0 11 x0) fun v15 =>
      m_bd (fn_Si_onlyLove v15) fun v16 =>
      m_bd (fn_C_orNone x0 v16) fun v17 =>
      m_rt v17
  else
    m_rt (-1)
set_option maxHeartbeats 4000000 in
set_option maxRecDepth 100000 in
theorem sd_C_sure (x0 : Option mA) (x1 : Int32) (x2 : Int32) (x3 : Int32) : m_Sm k_C_sure 4 0 0 [.inr (.inr x0), .inl x1, .inl x2, .inl x3] (fn_C_sure x0 x1 x2 x3) (fun b => some (.inl b)) := by
  refine ⟨Nat.le_of_ble_eq_true rfl, ?_⟩
  refine sm_th ?_
  refine sm_aload_n (i := 0) (j := 0) (pc' := 1) d_C_sure_0 rfl rfl rfl (sm_iload_n (i := 2) (j := 2) (pc' := 2) d_C_sure_1 rfl rfl rfl ?_)
  refine sm_callSi (av := [.inl x2]) (st := [.inr (.inr x0)]) (mc := 0) (ms := 0) (pc' := 5) d_C_sure_2 rfl (sd_C_isTray x2) cs_C_isTray w_ml_C_94 rfl rfl (by decide) (Nat.le_of_ble_eq_true rfl) rfl rfl (fun v1 => ?_)
  refine sm_bd (mid := fun (t5 : Int32) => .inl (26, [(0, .inr (.inr x0)), (1, .inl x1), (2, .inl x2), (3, .inl x3)], [.inl t5, .inr (.inr x0)])) ?_ (fun t5 => ?_)
  · refine sm_if_eq (tgt := 20) (pc' := 8) d_C_sure_5 rfl rfl ?_ ?_
    · refine sm_aload_n (i := 0) (j := 0) (pc' := 21) d_C_sure_20 rfl rfl rfl (sm_iload_n (i := 2) (j := 2) (pc' := 22) d_C_sure_21 rfl rfl rfl (sm_iload_n (i := 3) (j := 3) (pc' := 23) d_C_sure_22 rfl rfl rfl ?_))
      refine sm_callVi (ci := 0) (x := x0) (av := [.inl x2, .inl x3]) (st := [.inr (.inr x0)]) (mc := 0) (ms := 0) (pc' := 26) d_C_sure_23 rfl (sd_C_seenStatus x0 x2 x3) m_lv rfl cv_C_seenStatus w_ml_C_327 rfl rfl (by decide) (Nat.le_of_ble_eq_true rfl) rfl rfl (fun v2 => ?_)
      refine sm_sub [0, 1, 2, 3] rfl ?_
      exact sm_rt rfl
    · refine sm_aload_n (i := 0) (j := 0) (pc' := 9) d_C_sure_8 rfl rfl rfl (sm_iload_n (i := 1) (j := 1) (pc' := 10) d_C_sure_9 rfl rfl rfl ?_)
      refine sm_callVi (ci := 0) (x := x0) (av := [.inl x1]) (st := [.inr (.inr x0)]) (mc := 0) (ms := 0) (pc' := 13) d_C_sure_10 rfl (sd_C_isPerson x0 x1) m_lv rfl cv_C_isPerson w_ml_C_209 rfl rfl (by decide) (Nat.le_of_ble_eq_true rfl) rfl rfl (fun v3 => ?_)
      refine sm_if_ne (tgt := 20) (pc' := 16) d_C_sure_13 rfl rfl ?_ ?_
      · refine sm_aload_n (i := 0) (j := 0) (pc' := 21) d_C_sure_20 rfl rfl rfl (sm_iload_n (i := 2) (j := 2) (pc' := 22) d_C_sure_21 rfl rfl rfl (sm_iload_n (i := 3) (j := 3) (pc' := 23) d_C_sure_22 rfl rfl rfl ?_))
        refine sm_callVi (ci := 0) (x := x0) (av := [.inl x2, .inl x3]) (st := [.inr (.inr x0)]) (mc := 0) (ms := 0) (pc' := 26) d_C_sure_23 rfl (sd_C_seenStatus x0 x2 x3) m_lv rfl cv_C_seenStatus w_ml_C_327 rfl rfl (by decide) (Nat.le_of_ble_eq_true rfl) rfl rfl (fun v4 => ?_)
        refine sm_sub [0, 1, 2, 3] rfl ?_
        exact sm_rt rfl
      · refine sm_iconst (pc' := 17) d_C_sure_16 rfl ic_2 (sm_goto (tgt := 26) d_C_sure_17 rfl (sm_sub [0, 1, 2, 3] rfl ?_))
        exact sm_rt rfl
  · refine sm_putI (pc' := 29) d_C_sure_26 rfl fl_C_9 (Or.inl rfl) rfl (sm_aload_n (i := 0) (j := 0) (pc' := 30) d_C_sure_29 rfl rfl rfl ?_)
    refine sm_getI (pc' := 33) d_C_sure_30 rfl fl_C_9 rfl ⟨by decide, by decide⟩ (fun v6 => ?_)
    refine sm_if_eq (tgt := 38) (pc' := 36) d_C_sure_33 rfl rfl ?_ ?_
    · refine sm_aload_n (i := 0) (j := 0) (pc' := 39) d_C_sure_38 rfl rfl rfl ?_
      refine sm_getR (pc' := 42) d_C_sure_39 rfl fl_C_37 rfl rfl (fun v7 => ?_)
      refine sm_iload_n (i := 1) (j := 1) (pc' := 43) d_C_sure_42 rfl rfl rfl (sm_iconst (pc' := 44) d_C_sure_43 rfl ic_0 ?_)
      refine sm_callVi (ci := 3) (x := v7) (av := [.inl x1, .inl 0]) (st := []) (mc := 0) (ms := 0) (pc' := 47) d_C_sure_44 rfl (sd_Fa_showsAhead v7 x1 0) m_lv rfl cv_Fa_showsAhead w_ml_C_227 rfl rfl (by decide) (Nat.le_of_ble_eq_true rfl) rfl rfl (fun v8 => ?_)
      refine sm_if_ne (tgt := 56) (pc' := 50) d_C_sure_47 rfl rfl ?_ ?_
      · refine sm_aload_n (i := 0) (j := 0) (pc' := 57) d_C_sure_56 rfl rfl rfl ?_
        refine sm_getR (pc' := 60) d_C_sure_57 rfl fl_C_68 rfl rfl (fun v9 => ?_)
        refine sm_aload_n (i := 0) (j := 0) (pc' := 61) d_C_sure_60 rfl rfl rfl ?_
        refine sm_getR (pc' := 64) d_C_sure_61 rfl fl_C_37 rfl rfl (fun v10 => ?_)
        refine sm_iconst (pc' := 65) d_C_sure_64 rfl ic_0 ?_
        refine sm_callVi (ci := 3) (x := v10) (av := [.inl 0]) (st := [.inr (.inr v9)]) (mc := 0) (ms := 0) (pc' := 68) d_C_sure_65 rfl (sd_Fa_showingSet v10 0) m_lv rfl cv_Fa_showingSet w_ml_C_197 rfl rfl (by decide) (Nat.le_of_ble_eq_true rfl) rfl rfl (fun v11 => ?_)
        refine sm_aload_n (i := 0) (j := 0) (pc' := 69) d_C_sure_68 rfl rfl rfl ?_
        refine sm_getR (pc' := 72) d_C_sure_69 rfl fl_C_22 rfl rfl (fun v12 => ?_)
        refine sm_iload_n (i := 2) (j := 2) (pc' := 73) d_C_sure_72 rfl rfl rfl ?_
        refine sm_aald (t := 4) ⟨by decide, by decide⟩ rfl (pc' := 74) d_C_sure_73 rfl (fun v13 => ?_)
        refine sm_getR (pc' := 77) d_C_sure_74 rfl fl_C_112 rfl rfl (fun v14 => ?_)
        refine sm_iload_n (i := 3) (j := 3) (pc' := 78) d_C_sure_77 rfl rfl rfl ?_
        refine sm_callVv (ci := 8) (x := v9) (av := [.inl v11, .inr (.inr v14), .inl x3]) (st := []) (mc := 0) (ms := 0) (pc' := 81) d_C_sure_78 rfl (sd_Si_look v9 v11 v14 x3) m_lv rfl cv_Si_look w_ml_C_330 rfl rfl (by decide) (Nat.le_of_ble_eq_true rfl) rfl rfl ?_
        refine sm_aload_n (i := 0) (j := 0) (pc' := 82) d_C_sure_81 rfl rfl rfl (sm_aload_n (i := 0) (j := 0) (pc' := 83) d_C_sure_82 rfl rfl rfl ?_)
        refine sm_getR (pc' := 86) d_C_sure_83 rfl fl_C_68 rfl rfl (fun v15 => ?_)
        refine sm_callVi (ci := 8) (x := v15) (av := []) (st := [.inr (.inr x0)]) (mc := 0) (ms := 0) (pc' := 89) d_C_sure_86 rfl (sd_Si_onlyLove v15) m_lv rfl cv_Si_onlyLove w_ml_C_337 rfl rfl (by decide) (Nat.le_of_ble_eq_true rfl) rfl rfl (fun v16 => ?_)
        refine sm_callVi (ci := 0) (x := x0) (av := [.inl v16]) (st := []) (mc := 0) (ms := 0) (pc' := 92) d_C_sure_89 rfl (sd_C_orNone x0 v16) m_lv rfl cv_C_orNone w_ml_C_310 rfl rfl (by decide) (Nat.le_of_ble_eq_true rfl) rfl rfl (fun v17 => ?_)
        exact sm_ireturn d_C_sure_92 rfl rfl
      · refine sm_aload_n (i := 0) (j := 0) (pc' := 51) d_C_sure_50 rfl rfl rfl (sm_iconst (pc' := 52) d_C_sure_51 rfl ic_m1 ?_)
        refine sm_callVi (ci := 0) (x := x0) (av := [.inl (-1)]) (st := []) (mc := 0) (ms := 0) (pc' := 55) d_C_sure_52 rfl (sd_C_orNone x0 (-1)) m_lv rfl cv_C_orNone w_ml_C_310 rfl rfl (by decide) (Nat.le_of_ble_eq_true rfl) rfl rfl (fun v18 => ?_)
        exact sm_ireturn d_C_sure_55 rfl rfl
    · refine sm_iconst (pc' := 37) d_C_sure_36 rfl ic_m1 ?_
      exact sm_ireturn d_C_sure_37 rfl rfl
theorem d_Si_unlikeBites_0 : m_D k_Si_unlikeBites 0 (.iconst 0) 1 := (by decide +kernel : decode prog_9_method_9_code 0 = .ok (.iconst 0, 1))
theorem d_Si_unlikeBites_1 : m_D k_Si_unlikeBites 1 (.istore_n 2) 1 := (by decide +kernel : decode prog_9_method_9_code 1 = .ok (.istore_n 2, 1))
theorem d_Si_unlikeBites_2 : m_D k_Si_unlikeBites 2 (.iconst (-1)) 1 := (by decide +kernel : decode prog_9_method_9_code 2 = .ok (.iconst (-1), 1))
theorem d_Si_unlikeBites_3 : m_D k_Si_unlikeBites 3 (.istore_n 3) 1 := (by decide +kernel : decode prog_9_method_9_code 3 = .ok (.istore_n 3, 1))
theorem d_Si_unlikeBites_4 : m_D k_Si_unlikeBites 4 (.iconst 0) 1 := (by decide +kernel : decode prog_9_method_9_code 4 = .ok (.iconst 0, 1))
theorem d_Si_unlikeBites_5 : m_D k_Si_unlikeBites 5 (.istore 4) 2 := (by decide +kernel : decode prog_9_method_9_code 5 = .ok (.istore 4, 2))
theorem d_Si_unlikeBites_7 : m_D k_Si_unlikeBites 7 (.iload 4) 2 := (by decide +kernel : decode prog_9_method_9_code 7 = .ok (.iload 4, 2))
theorem d_Si_unlikeBites_9 : m_D k_Si_unlikeBites 9 (.bipush 18) 2 := (by decide +kernel : decode prog_9_method_9_code 9 = .ok (.bipush 18, 2))
theorem d_Si_unlikeBites_11 : m_D k_Si_unlikeBites 11 (.if_icmp .gt 39) 3 := (by decide +kernel : decode prog_9_method_9_code 11 = .ok (.if_icmp .gt 39, 3))
theorem d_Si_unlikeBites_14 : m_D k_Si_unlikeBites 14 (.aload_n 0) 1 := (by decide +kernel : decode prog_9_method_9_code 14 = .ok (.aload_n 0, 1))
theorem d_Si_unlikeBites_15 : m_D k_Si_unlikeBites 15 (.getfield 11) 3 := (by decide +kernel : decode prog_9_method_9_code 15 = .ok (.getfield 11, 3))
theorem d_Si_unlikeBites_18 : m_D k_Si_unlikeBites 18 (.iload 4) 2 := (by decide +kernel : decode prog_9_method_9_code 18 = .ok (.iload 4, 2))
theorem d_Si_unlikeBites_20 : m_D k_Si_unlikeBites 20 (.baload) 1 := (by decide +kernel : decode prog_9_method_9_code 20 = .ok (.baload, 1))
theorem d_Si_unlikeBites_21 : m_D k_Si_unlikeBites 21 (.ifCond .eq 23) 3 := (by decide +kernel : decode prog_9_method_9_code 21 = .ok (.ifCond .eq 23, 3))
theorem d_Si_unlikeBites_24 : m_D k_Si_unlikeBites 24 (.iload 4) 2 := (by decide +kernel : decode prog_9_method_9_code 24 = .ok (.iload 4, 2))
theorem d_Si_unlikeBites_26 : m_D k_Si_unlikeBites 26 (.iload_n 1) 1 := (by decide +kernel : decode prog_9_method_9_code 26 = .ok (.iload_n 1, 1))
theorem d_Si_unlikeBites_27 : m_D k_Si_unlikeBites 27 (.imul) 1 := (by decide +kernel : decode prog_9_method_9_code 27 = .ok (.imul, 1))
theorem d_Si_unlikeBites_28 : m_D k_Si_unlikeBites 28 (.iconst 4) 1 := (by decide +kernel : decode prog_9_method_9_code 28 = .ok (.iconst 4, 1))
theorem d_Si_unlikeBites_29 : m_D k_Si_unlikeBites 29 (.idiv) 1 := (by decide +kernel : decode prog_9_method_9_code 29 = .ok (.idiv, 1))
theorem d_Si_unlikeBites_30 : m_D k_Si_unlikeBites 30 (.iload_n 3) 1 := (by decide +kernel : decode prog_9_method_9_code 30 = .ok (.iload_n 3, 1))
theorem d_Si_unlikeBites_31 : m_D k_Si_unlikeBites 31 (.if_icmp .eq 13) 3 := (by decide +kernel : decode prog_9_method_9_code 31 = .ok (.if_icmp .eq 13, 3))
theorem d_Si_unlikeBites_34 : m_D k_Si_unlikeBites 34 (.iload 4) 2 := (by decide +kernel : decode prog_9_method_9_code 34 = .ok (.iload 4, 2))
theorem d_Si_unlikeBites_36 : m_D k_Si_unlikeBites 36 (.iload_n 1) 1 := (by decide +kernel : decode prog_9_method_9_code 36 = .ok (.iload_n 1, 1))
theorem d_Si_unlikeBites_37 : m_D k_Si_unlikeBites 37 (.imul) 1 := (by decide +kernel : decode prog_9_method_9_code 37 = .ok (.imul, 1))
theorem d_Si_unlikeBites_38 : m_D k_Si_unlikeBites 38 (.iconst 4) 1 := (by decide +kernel : decode prog_9_method_9_code 38 = .ok (.iconst 4, 1))
theorem d_Si_unlikeBites_39 : m_D k_Si_unlikeBites 39 (.idiv) 1 := (by decide +kernel : decode prog_9_method_9_code 39 = .ok (.idiv, 1))
theorem d_Si_unlikeBites_40 : m_D k_Si_unlikeBites 40 (.istore_n 3) 1 := (by decide +kernel : decode prog_9_method_9_code 40 = .ok (.istore_n 3, 1))
theorem d_Si_unlikeBites_41 : m_D k_Si_unlikeBites 41 (.iinc 2 1) 3 := (by decide +kernel : decode prog_9_method_9_code 41 = .ok (.iinc 2 1, 3))
theorem d_Si_unlikeBites_44 : m_D k_Si_unlikeBites 44 (.iinc 4 1) 3 := (by decide +kernel : decode prog_9_method_9_code 44 = .ok (.iinc 4 1, 3))
theorem d_Si_unlikeBites_47 : m_D k_Si_unlikeBites 47 (.goto (-40)) 3 := (by decide +kernel : decode prog_9_method_9_code 47 = .ok (.goto (-40), 3))
theorem d_Si_unlikeBites_50 : m_D k_Si_unlikeBites 50 (.iload_n 2) 1 := (by decide +kernel : decode prog_9_method_9_code 50 = .ok (.iload_n 2, 1))
theorem d_Si_unlikeBites_51 : m_D k_Si_unlikeBites 51 (.ireturn) 1 := (by decide +kernel : decode prog_9_method_9_code 51 = .ok (.ireturn, 1))
def fn_Si_unlikeBites_l7 (x0 : Option mA) (x1 : Int32) (t1 : Int32 × Int32 × Int32) : mP ((Int32 × Int32 × Int32) ⊕ (Int32)) :=
  if 18 < t1.2.2 then
    m_rt (.inr t1.1)
  else
    m_bd (m_gR 8 0 x0) fun v2 =>
    m_bd (m_aI 3 v2 t1.2.2) fun v3 =>
    m_bd (α := Int32 × Int32) (
      if v3 = 0 then
        m_rt (t1.1, t1.2.1)
      else
        if ((t1.2.2 * x1) / 4) = t1.2.1 then
          m_rt (t1.1, t1.2.1)
        else
          m_rt ((t1.1 + 1), ((t1.2.2 * x1) / 4))
      ) fun (t4 : Int32 × Int32) =>
    m_rt (.inl (t4.1, t4.2, (t1.2.2 + 1)))
def fn_Si_unlikeBites (x0 : Option mA) (x1 : Int32) : mP Int32 :=
  m_th 8 x0 <|
  m_bd (m_lp (fn_Si_unlikeBites_l7 x0 x1) m_F (0, (-1), 0)) fun (t5 : Int32) =>
  m_rt t5
set_option maxHeartbeats 4000000 in
set_option maxRecDepth 100000 in
theorem sd_Si_unlikeBites (x0 : Option mA) (x1 : Int32) : m_Sm k_Si_unlikeBites 1 0 0 [.inr (.inr x0), .inl x1] (fn_Si_unlikeBites x0 x1) (fun b => some (.inl b)) := by
  refine ⟨Nat.le_of_ble_eq_true rfl, ?_⟩
  refine sm_th ?_
  refine sm_iconst (pc' := 1) d_Si_unlikeBites_0 rfl ic_0 (sm_istore_n (i := 2) (L' := [(2, .inl 0), (0, .inr (.inr x0)), (1, .inl x1)]) (pc' := 2) d_Si_unlikeBites_1 rfl rfl (Nat.le_of_ble_eq_true rfl) rfl (sm_iconst (pc' := 3) d_Si_unlikeBites_2 rfl ic_m1 (sm_istore_n (i := 3) (L' := [(3, .inl (-1)), (2, .inl 0), (0, .inr (.inr x0)), (1, .inl x1)]) (pc' := 4) d_Si_unlikeBites_3 rfl rfl (Nat.le_of_ble_eq_true rfl) rfl (sm_iconst (pc' := 5) d_Si_unlikeBites_4 rfl ic_0 (sm_istore (L' := [(4, .inl 0), (3, .inl (-1)), (2, .inl 0), (0, .inr (.inr x0)), (1, .inl x1)]) (pc' := 7) d_Si_unlikeBites_5 rfl (Nat.le_of_ble_eq_true rfl) rfl ?_)))))
  refine sm_sub [2, 1, 0, 3, 4] rfl ?_
  refine sm_bd (mid := fun (t5 : Int32) => .inl (50, [(2, .inl t5)], [])) (sm_lp (hd := fun (t1 : Int32 × Int32 × Int32) => (.inl (7, [(2, .inl t1.1), (3, .inl t1.2.1), (4, .inl t1.2.2), (0, .inr (.inr x0)), (1, .inl x1)], []) : mC)) (fun t1 => ?_) m_F (0, (-1), 0)) (fun t5 => ?_)
  · refine sm_iload (j := 2) (pc' := 9) d_Si_unlikeBites_7 rfl rfl (sm_bipush (pc' := 11) d_Si_unlikeBites_9 rfl ib_18 ?_)
    refine sm_icmp_gt (tgt := 50) (pc' := 14) d_Si_unlikeBites_11 rfl rfl ?_ ?_
    · refine sm_sub [0] rfl ?_
      exact sm_rt rfl
    · refine sm_aload_n (i := 0) (j := 3) (pc' := 15) d_Si_unlikeBites_14 rfl rfl rfl ?_
      refine sm_getR (pc' := 18) d_Si_unlikeBites_15 rfl fl_Si_11 rfl rfl (fun v2 => ?_)
      refine sm_iload (j := 2) (pc' := 20) d_Si_unlikeBites_18 rfl rfl ?_
      refine sm_zald (pc' := 21) d_Si_unlikeBites_20 rfl (fun v3 => ?_)
      refine sm_bd (mid := fun (t4 : Int32 × Int32) => .inl (44, [(0, .inr (.inr x0)), (1, .inl x1), (2, .inl t4.1), (3, .inl t4.2), (4, .inl t1.2.2)], [])) ?_ (fun t4 => ?_)
      · refine sm_if_eq (tgt := 44) (pc' := 24) d_Si_unlikeBites_21 rfl rfl ?_ ?_
        · refine sm_sub [3, 4, 0, 1, 2] rfl ?_
          exact sm_rt rfl
        · refine sm_iload (j := 2) (pc' := 26) d_Si_unlikeBites_24 rfl rfl (sm_iload_n (i := 1) (j := 4) (pc' := 27) d_Si_unlikeBites_26 rfl rfl rfl (sm_imul (pc' := 28) d_Si_unlikeBites_27 rfl (sm_iconst (pc' := 29) d_Si_unlikeBites_28 rfl ic_4 (sm_idiv (pc' := 30) d_Si_unlikeBites_29 rfl (by decide) (sm_iload_n (i := 3) (j := 1) (pc' := 31) d_Si_unlikeBites_30 rfl rfl rfl ?_)))))
          refine sm_icmp_eq (tgt := 44) (pc' := 34) d_Si_unlikeBites_31 rfl rfl ?_ ?_
          · refine sm_sub [3, 4, 0, 1, 2] rfl ?_
            exact sm_rt rfl
          · refine sm_iload (j := 2) (pc' := 36) d_Si_unlikeBites_34 rfl rfl (sm_iload_n (i := 1) (j := 4) (pc' := 37) d_Si_unlikeBites_36 rfl rfl rfl (sm_imul (pc' := 38) d_Si_unlikeBites_37 rfl (sm_iconst (pc' := 39) d_Si_unlikeBites_38 rfl ic_4 (sm_idiv (pc' := 40) d_Si_unlikeBites_39 rfl (by decide) (sm_istore_n (i := 3) (L' := [(3, .inl ((t1.2.2 * x1) / 4)), (2, .inl t1.1), (4, .inl t1.2.2), (0, .inr (.inr x0)), (1, .inl x1)]) (pc' := 41) d_Si_unlikeBites_40 rfl rfl (Nat.le_of_ble_eq_true rfl) rfl (sm_iinc (j := 1) (L' := [(2, .inl (t1.1 + 1)), (3, .inl ((t1.2.2 * x1) / 4)), (4, .inl t1.2.2), (0, .inr (.inr x0)), (1, .inl x1)]) (pc' := 44) d_Si_unlikeBites_41 rfl (v := (t1.1 + 1)) rfl (ix_1 _) (Nat.le_of_ble_eq_true rfl) rfl (sm_sub [3, 4, 0, 1, 2] rfl ?_)))))))
            exact sm_rt rfl
      · refine sm_iinc (j := 4) (L' := [(4, .inl (t1.2.2 + 1)), (0, .inr (.inr x0)), (1, .inl x1), (2, .inl t4.1), (3, .inl t4.2)]) (pc' := 47) d_Si_unlikeBites_44 rfl (v := (t1.2.2 + 1)) rfl (ix_1 _) (Nat.le_of_ble_eq_true rfl) rfl (sm_goto (tgt := 7) d_Si_unlikeBites_47 rfl (sm_sub [3, 4, 0, 1, 2] rfl ?_))
        exact sm_rt rfl
  · refine sm_iload_n (i := 2) (j := 0) (pc' := 51) d_Si_unlikeBites_50 rfl rfl rfl ?_
    exact sm_ireturn d_Si_unlikeBites_51 rfl rfl
theorem d_Si_bestDamp_0 : m_D k_Si_bestDamp 0 (.iconst (-1)) 1 := (by decide +kernel : decode prog_9_method_8_code 0 = .ok (.iconst (-1), 1))
theorem d_Si_bestDamp_1 : m_D k_Si_bestDamp 1 (.istore_n 1) 1 := (by decide +kernel : decode prog_9_method_8_code 1 = .ok (.istore_n 1, 1))
theorem d_Si_bestDamp_2 : m_D k_Si_bestDamp 2 (.iconst 0) 1 := (by decide +kernel : decode prog_9_method_8_code 2 = .ok (.iconst 0, 1))
theorem d_Si_bestDamp_3 : m_D k_Si_bestDamp 3 (.istore_n 2) 1 := (by decide +kernel : decode prog_9_method_8_code 3 = .ok (.istore_n 2, 1))
theorem d_Si_bestDamp_4 : m_D k_Si_bestDamp 4 (.iconst 1) 1 := (by decide +kernel : decode prog_9_method_8_code 4 = .ok (.iconst 1, 1))
theorem d_Si_bestDamp_5 : m_D k_Si_bestDamp 5 (.istore_n 3) 1 := (by decide +kernel : decode prog_9_method_8_code 5 = .ok (.istore_n 3, 1))
theorem d_Si_bestDamp_6 : m_D k_Si_bestDamp 6 (.iload_n 3) 1 := (by decide +kernel : decode prog_9_method_8_code 6 = .ok (.iload_n 3, 1))
theorem d_Si_bestDamp_7 : m_D k_Si_bestDamp 7 (.bipush 9) 2 := (by decide +kernel : decode prog_9_method_8_code 7 = .ok (.bipush 9, 2))
theorem d_Si_bestDamp_9 : m_D k_Si_bestDamp 9 (.if_icmp .gt 27) 3 := (by decide +kernel : decode prog_9_method_8_code 9 = .ok (.if_icmp .gt 27, 3))
theorem d_Si_bestDamp_12 : m_D k_Si_bestDamp 12 (.aload_n 0) 1 := (by decide +kernel : decode prog_9_method_8_code 12 = .ok (.aload_n 0, 1))
theorem d_Si_bestDamp_13 : m_D k_Si_bestDamp 13 (.iload_n 3) 1 := (by decide +kernel : decode prog_9_method_8_code 13 = .ok (.iload_n 3, 1))
theorem d_Si_bestDamp_14 : m_D k_Si_bestDamp 14 (.invokevirtual 46) 3 := (by decide +kernel : decode prog_9_method_8_code 14 = .ok (.invokevirtual 46, 3))
theorem d_Si_bestDamp_17 : m_D k_Si_bestDamp 17 (.istore 4) 2 := (by decide +kernel : decode prog_9_method_8_code 17 = .ok (.istore 4, 2))
theorem d_Si_bestDamp_19 : m_D k_Si_bestDamp 19 (.iload 4) 2 := (by decide +kernel : decode prog_9_method_8_code 19 = .ok (.iload 4, 2))
theorem d_Si_bestDamp_21 : m_D k_Si_bestDamp 21 (.iload_n 2) 1 := (by decide +kernel : decode prog_9_method_8_code 21 = .ok (.iload_n 2, 1))
theorem d_Si_bestDamp_22 : m_D k_Si_bestDamp 22 (.if_icmp .le 8) 3 := (by decide +kernel : decode prog_9_method_8_code 22 = .ok (.if_icmp .le 8, 3))
theorem d_Si_bestDamp_25 : m_D k_Si_bestDamp 25 (.iload_n 3) 1 := (by decide +kernel : decode prog_9_method_8_code 25 = .ok (.iload_n 3, 1))
theorem d_Si_bestDamp_26 : m_D k_Si_bestDamp 26 (.istore_n 1) 1 := (by decide +kernel : decode prog_9_method_8_code 26 = .ok (.istore_n 1, 1))
theorem d_Si_bestDamp_27 : m_D k_Si_bestDamp 27 (.iload 4) 2 := (by decide +kernel : decode prog_9_method_8_code 27 = .ok (.iload 4, 2))
theorem d_Si_bestDamp_29 : m_D k_Si_bestDamp 29 (.istore_n 2) 1 := (by decide +kernel : decode prog_9_method_8_code 29 = .ok (.istore_n 2, 1))
theorem d_Si_bestDamp_30 : m_D k_Si_bestDamp 30 (.iinc 3 1) 3 := (by decide +kernel : decode prog_9_method_8_code 30 = .ok (.iinc 3 1, 3))
theorem d_Si_bestDamp_33 : m_D k_Si_bestDamp 33 (.goto (-27)) 3 := (by decide +kernel : decode prog_9_method_8_code 33 = .ok (.goto (-27), 3))
theorem d_Si_bestDamp_36 : m_D k_Si_bestDamp 36 (.iload_n 1) 1 := (by decide +kernel : decode prog_9_method_8_code 36 = .ok (.iload_n 1, 1))
theorem d_Si_bestDamp_37 : m_D k_Si_bestDamp 37 (.ireturn) 1 := (by decide +kernel : decode prog_9_method_8_code 37 = .ok (.ireturn, 1))
def fn_Si_bestDamp_l6 (x0 : Option mA) (t1 : Int32 × Int32 × Int32) : mP ((Int32 × Int32 × Int32) ⊕ (Int32)) :=
  if 9 < t1.2.2 then
    m_rt (.inr t1.1)
  else
    m_bd (fn_Si_unlikeBites x0 t1.2.2) fun v2 =>
    m_bd (α := Int32 × Int32) (
      if v2 ≤ t1.2.1 then
        m_rt (t1.1, t1.2.1)
      else
        m_rt (t1.2.2, v2)
      ) fun (t3 : Int32 × Int32) =>
    m_rt (.inl (t3.1, t3.2, (t1.2.2 + 1)))
def fn_Si_bestDamp (x0 : Option mA) : mP Int32 :=
  m_th 8 x0 <|
  m_bd (m_lp (fn_Si_bestDamp_l6 x0) m_F ((-1), 0, 1)) fun (t4 : Int32) =>
  m_rt t4
set_option maxHeartbeats 4000000 in
set_option maxRecDepth 100000 in
theorem sd_Si_bestDamp (x0 : Option mA) : m_Sm k_Si_bestDamp 2 0 0 [.inr (.inr x0)] (fn_Si_bestDamp x0) (fun b => some (.inl b)) := by
  refine ⟨Nat.le_of_ble_eq_true rfl, ?_⟩
  refine sm_th ?_
  refine sm_iconst (pc' := 1) d_Si_bestDamp_0 rfl ic_m1 (sm_istore_n (i := 1) (L' := [(1, .inl (-1)), (0, .inr (.inr x0))]) (pc' := 2) d_Si_bestDamp_1 rfl rfl (Nat.le_of_ble_eq_true rfl) rfl (sm_iconst (pc' := 3) d_Si_bestDamp_2 rfl ic_0 (sm_istore_n (i := 2) (L' := [(2, .inl 0), (1, .inl (-1)), (0, .inr (.inr x0))]) (pc' := 4) d_Si_bestDamp_3 rfl rfl (Nat.le_of_ble_eq_true rfl) rfl (sm_iconst (pc' := 5) d_Si_bestDamp_4 rfl ic_1 (sm_istore_n (i := 3) (L' := [(3, .inl 1), (2, .inl 0), (1, .inl (-1)), (0, .inr (.inr x0))]) (pc' := 6) d_Si_bestDamp_5 rfl rfl (Nat.le_of_ble_eq_true rfl) rfl ?_)))))
  refine sm_sub [2, 1, 0, 3] rfl ?_
  refine sm_bd (mid := fun (t4 : Int32) => .inl (36, [(1, .inl t4)], [])) (sm_lp (hd := fun (t1 : Int32 × Int32 × Int32) => (.inl (6, [(1, .inl t1.1), (2, .inl t1.2.1), (3, .inl t1.2.2), (0, .inr (.inr x0))], []) : mC)) (fun t1 => ?_) m_F ((-1), 0, 1)) (fun t4 => ?_)
  · refine sm_iload_n (i := 3) (j := 2) (pc' := 7) d_Si_bestDamp_6 rfl rfl rfl (sm_bipush (pc' := 9) d_Si_bestDamp_7 rfl ib_9 ?_)
    refine sm_icmp_gt (tgt := 36) (pc' := 12) d_Si_bestDamp_9 rfl rfl ?_ ?_
    · refine sm_sub [0] rfl ?_
      exact sm_rt rfl
    · refine sm_aload_n (i := 0) (j := 3) (pc' := 13) d_Si_bestDamp_12 rfl rfl rfl (sm_iload_n (i := 3) (j := 2) (pc' := 14) d_Si_bestDamp_13 rfl rfl rfl ?_)
      refine sm_callVi (ci := 8) (x := x0) (av := [.inl t1.2.2]) (st := []) (mc := 0) (ms := 0) (pc' := 17) d_Si_bestDamp_14 rfl (sd_Si_unlikeBites x0 t1.2.2) m_lv rfl cv_Si_unlikeBites w_ml_Si_46 rfl rfl (by decide) (Nat.le_of_ble_eq_true rfl) rfl rfl (fun v2 => ?_)
      refine sm_istore (L' := [(4, .inl v2), (1, .inl t1.1), (2, .inl t1.2.1), (3, .inl t1.2.2), (0, .inr (.inr x0))]) (pc' := 19) d_Si_bestDamp_17 rfl (Nat.le_of_ble_eq_true rfl) rfl (sm_iload (j := 0) (pc' := 21) d_Si_bestDamp_19 rfl rfl (sm_iload_n (i := 2) (j := 2) (pc' := 22) d_Si_bestDamp_21 rfl rfl rfl ?_))
      refine sm_bd (mid := fun (t3 : Int32 × Int32) => .inl (30, [(0, .inr (.inr x0)), (1, .inl t3.1), (2, .inl t3.2), (3, .inl t1.2.2)], [])) ?_ (fun t3 => ?_)
      · refine sm_icmp_le (tgt := 30) (pc' := 25) d_Si_bestDamp_22 rfl rfl ?_ ?_
        · refine sm_sub [4, 1, 2, 3] rfl ?_
          exact sm_rt rfl
        · refine sm_iload_n (i := 3) (j := 3) (pc' := 26) d_Si_bestDamp_25 rfl rfl rfl (sm_istore_n (i := 1) (L' := [(1, .inl t1.2.2), (4, .inl v2), (2, .inl t1.2.1), (3, .inl t1.2.2), (0, .inr (.inr x0))]) (pc' := 27) d_Si_bestDamp_26 rfl rfl (Nat.le_of_ble_eq_true rfl) rfl (sm_iload (j := 1) (pc' := 29) d_Si_bestDamp_27 rfl rfl (sm_istore_n (i := 2) (L' := [(2, .inl v2), (1, .inl t1.2.2), (4, .inl v2), (3, .inl t1.2.2), (0, .inr (.inr x0))]) (pc' := 30) d_Si_bestDamp_29 rfl rfl (Nat.le_of_ble_eq_true rfl) rfl (sm_sub [4, 1, 0, 3] rfl ?_))))
          exact sm_rt rfl
      · refine sm_iinc (j := 3) (L' := [(3, .inl (t1.2.2 + 1)), (0, .inr (.inr x0)), (1, .inl t3.1), (2, .inl t3.2)]) (pc' := 33) d_Si_bestDamp_30 rfl (v := (t1.2.2 + 1)) rfl (ix_1 _) (Nat.le_of_ble_eq_true rfl) rfl (sm_goto (tgt := 6) d_Si_bestDamp_33 rfl (sm_sub [2, 3, 0, 1] rfl ?_))
        exact sm_rt rfl
  · refine sm_iload_n (i := 1) (j := 0) (pc' := 37) d_Si_bestDamp_36 rfl rfl rfl ?_
    exact sm_ireturn d_Si_bestDamp_37 rfl rfl
theorem d_C_ask_0 : m_D k_C_ask 0 (.aload_n 0) 1 := (by decide +kernel : decode prog_1_method_51_code 0 = .ok (.aload_n 0, 1))
theorem d_C_ask_1 : m_D k_C_ask 1 (.aload_n 0) 1 := (by decide +kernel : decode prog_1_method_51_code 1 = .ok (.aload_n 0, 1))
theorem d_C_ask_2 : m_D k_C_ask 2 (.iload_n 1) 1 := (by decide +kernel : decode prog_1_method_51_code 2 = .ok (.iload_n 1, 1))
theorem d_C_ask_3 : m_D k_C_ask 3 (.iload_n 2) 1 := (by decide +kernel : decode prog_1_method_51_code 3 = .ok (.iload_n 2, 1))
theorem d_C_ask_4 : m_D k_C_ask 4 (.invokevirtual 327) 3 := (by decide +kernel : decode prog_1_method_51_code 4 = .ok (.invokevirtual 327, 3))
theorem d_C_ask_7 : m_D k_C_ask 7 (.putfield 9) 3 := (by decide +kernel : decode prog_1_method_51_code 7 = .ok (.putfield 9, 3))
theorem d_C_ask_10 : m_D k_C_ask 10 (.aload_n 0) 1 := (by decide +kernel : decode prog_1_method_51_code 10 = .ok (.aload_n 0, 1))
theorem d_C_ask_11 : m_D k_C_ask 11 (.getfield 9) 3 := (by decide +kernel : decode prog_1_method_51_code 11 = .ok (.getfield 9, 3))
theorem d_C_ask_14 : m_D k_C_ask 14 (.ifCond .eq 5) 3 := (by decide +kernel : decode prog_1_method_51_code 14 = .ok (.ifCond .eq 5, 3))
theorem d_C_ask_17 : m_D k_C_ask 17 (.iconst (-1)) 1 := (by decide +kernel : decode prog_1_method_51_code 17 = .ok (.iconst (-1), 1))
theorem d_C_ask_18 : m_D k_C_ask 18 (.ireturn) 1 := (by decide +kernel : decode prog_1_method_51_code 18 = .ok (.ireturn, 1))
theorem d_C_ask_19 : m_D k_C_ask 19 (.aload_n 0) 1 := (by decide +kernel : decode prog_1_method_51_code 19 = .ok (.aload_n 0, 1))
theorem d_C_ask_20 : m_D k_C_ask 20 (.getfield 68) 3 := (by decide +kernel : decode prog_1_method_51_code 20 = .ok (.getfield 68, 3))
theorem d_C_ask_23 : m_D k_C_ask 23 (.aload_n 0) 1 := (by decide +kernel : decode prog_1_method_51_code 23 = .ok (.aload_n 0, 1))
theorem d_C_ask_24 : m_D k_C_ask 24 (.getfield 37) 3 := (by decide +kernel : decode prog_1_method_51_code 24 = .ok (.getfield 37, 3))
theorem d_C_ask_27 : m_D k_C_ask 27 (.iconst 0) 1 := (by decide +kernel : decode prog_1_method_51_code 27 = .ok (.iconst 0, 1))
theorem d_C_ask_28 : m_D k_C_ask 28 (.invokevirtual 197) 3 := (by decide +kernel : decode prog_1_method_51_code 28 = .ok (.invokevirtual 197, 3))
theorem d_C_ask_31 : m_D k_C_ask 31 (.aload_n 0) 1 := (by decide +kernel : decode prog_1_method_51_code 31 = .ok (.aload_n 0, 1))
theorem d_C_ask_32 : m_D k_C_ask 32 (.getfield 22) 3 := (by decide +kernel : decode prog_1_method_51_code 32 = .ok (.getfield 22, 3))
theorem d_C_ask_35 : m_D k_C_ask 35 (.iload_n 1) 1 := (by decide +kernel : decode prog_1_method_51_code 35 = .ok (.iload_n 1, 1))
theorem d_C_ask_36 : m_D k_C_ask 36 (.aaload) 1 := (by decide +kernel : decode prog_1_method_51_code 36 = .ok (.aaload, 1))
theorem d_C_ask_37 : m_D k_C_ask 37 (.getfield 112) 3 := (by decide +kernel : decode prog_1_method_51_code 37 = .ok (.getfield 112, 3))
theorem d_C_ask_40 : m_D k_C_ask 40 (.iload_n 2) 1 := (by decide +kernel : decode prog_1_method_51_code 40 = .ok (.iload_n 2, 1))
theorem d_C_ask_41 : m_D k_C_ask 41 (.invokevirtual 330) 3 := (by decide +kernel : decode prog_1_method_51_code 41 = .ok (.invokevirtual 330, 3))
theorem d_C_ask_44 : m_D k_C_ask 44 (.aload_n 0) 1 := (by decide +kernel : decode prog_1_method_51_code 44 = .ok (.aload_n 0, 1))
theorem d_C_ask_45 : m_D k_C_ask 45 (.aload_n 0) 1 := (by decide +kernel : decode prog_1_method_51_code 45 = .ok (.aload_n 0, 1))
theorem d_C_ask_46 : m_D k_C_ask 46 (.getfield 68) 3 := (by decide +kernel : decode prog_1_method_51_code 46 = .ok (.getfield 68, 3))
theorem d_C_ask_49 : m_D k_C_ask 49 (.invokevirtual 334) 3 := (by decide +kernel : decode prog_1_method_51_code 49 = .ok (.invokevirtual 334, 3))
theorem d_C_ask_52 : m_D k_C_ask 52 (.iconst 2) 1 := (by decide +kernel : decode prog_1_method_51_code 52 = .ok (.iconst 2, 1))
theorem d_C_ask_53 : m_D k_C_ask 53 (.if_icmp .ge 7) 3 := (by decide +kernel : decode prog_1_method_51_code 53 = .ok (.if_icmp .ge 7, 3))
theorem d_C_ask_56 : m_D k_C_ask 56 (.iconst (-1)) 1 := (by decide +kernel : decode prog_1_method_51_code 56 = .ok (.iconst (-1), 1))
theorem d_C_ask_57 : m_D k_C_ask 57 (.goto 10) 3 := (by decide +kernel : decode prog_1_method_51_code 57 = .ok (.goto 10, 3))
theorem d_C_ask_60 : m_D k_C_ask 60 (.aload_n 0) 1 := (by decide +kernel : decode prog_1_method_51_code 60 = .ok (.aload_n 0, 1))
theorem d_C_ask_61 : m_D k_C_ask 61 (.getfield 68) 3 := (by decide +kernel : decode prog_1_method_51_code 61 = .ok (.getfield 68, 3))
theorem d_C_ask_64 : m_D k_C_ask 64 (.invokevirtual 340) 3 := (by decide +kernel : decode prog_1_method_51_code 64 = .ok (.invokevirtual 340, 3))
theorem d_C_ask_67 : m_D k_C_ask 67 (.invokevirtual 310) 3 := (by decide +kernel : decode prog_1_method_51_code 67 = .ok (.invokevirtual 310, 3))
theorem d_C_ask_70 : m_D k_C_ask 70 (.ireturn) 1 := (by decide +kernel : decode prog_1_method_51_code 70 = .ok (.ireturn, 1))
def fn_C_ask (x0 : Option mA) (x1 : Int32) (x2 : Int32) : mP Int32 :=
  m_th 0 x0 <|
  m_bd (fn_C_seenStatus x0 x1 x2) fun v1 =>
  m_bd (m_pI 0 0 x0 v1) fun _ =>
  m_bd (m_gI 0 0 x0) fun v2 =>
  if v2 = 0 then
    m_bd (m_gR 0 11 x0) fun v3 =>
    m_bd (m_gR 0 5 x0) fun v4 =>
    m_bd (fn_Fa_showingSet v4 0) fun v5 =>
    m_bd (m_gR 0 3 x0) fun v6 =>
    m_bd (m_aR 4 v6 x1) fun v7 =>
    m_bd (m_gR 1 2 v7) fun v8 =>
    m_bd (fn_Si_look v3 v5 v8 x2) fun _ =>
    m_bd (m_gR 0 11 x0) fun v9 =>
    m_bd (fn_Si_ways v9) fun v10 =>
    m_bd (α := Int32) (
      if 2 ≤ v10 then
        m_bd (m_gR 0 11 x0) fun v11 =>
        m_bd (fn_Si_bestDamp v11) fun v12 =>
        m_rt v12
      else
        m_rt (-1)
      ) fun (t13 : Int32) =>
    m_bd (fn_C_orNone x0 t13) fun v14 =>
    m_rt v14
  else
    m_rt (-1)
set_option maxHeartbeats 4000000 in
set_option maxRecDepth 100000 in
theorem sd_C_ask (x0 : Option mA) (x1 : Int32) (x2 : Int32) : m_Sm k_C_ask 4 0 0 [.inr (.inr x0), .inl x1, .inl x2] (fn_C_ask x0 x1 x2) (fun b => some (.inl b)) := by
  refine ⟨Nat.le_of_ble_eq_true rfl, ?_⟩
  refine sm_th ?_
  refine sm_aload_n (i := 0) (j := 0) (pc' := 1) d_C_ask_0 rfl rfl rfl (sm_aload_n (i := 0) (j := 0) (pc' := 2) d_C_ask_1 rfl rfl rfl (sm_iload_n (i := 1) (j := 1) (pc' := 3) d_C_ask_2 rfl rfl rfl (sm_iload_n (i := 2) (j := 2) (pc' := 4) d_C_ask_3 rfl rfl rfl ?_)))
  refine sm_callVi (ci := 0) (x := x0) (av := [.inl x1, .inl x2]) (st := [.inr (.inr x0)]) (mc := 0) (ms := 0) (pc' := 7) d_C_ask_4 rfl (sd_C_seenStatus x0 x1 x2) m_lv rfl cv_C_seenStatus w_ml_C_327 rfl rfl (by decide) (Nat.le_of_ble_eq_true rfl) rfl rfl (fun v1 => ?_)
  refine sm_putI (pc' := 10) d_C_ask_7 rfl fl_C_9 (Or.inl rfl) rfl (sm_aload_n (i := 0) (j := 0) (pc' := 11) d_C_ask_10 rfl rfl rfl ?_)
  refine sm_getI (pc' := 14) d_C_ask_11 rfl fl_C_9 rfl ⟨by decide, by decide⟩ (fun v2 => ?_)
  refine sm_if_eq (tgt := 19) (pc' := 17) d_C_ask_14 rfl rfl ?_ ?_
  · refine sm_aload_n (i := 0) (j := 0) (pc' := 20) d_C_ask_19 rfl rfl rfl ?_
    refine sm_getR (pc' := 23) d_C_ask_20 rfl fl_C_68 rfl rfl (fun v3 => ?_)
    refine sm_aload_n (i := 0) (j := 0) (pc' := 24) d_C_ask_23 rfl rfl rfl ?_
    refine sm_getR (pc' := 27) d_C_ask_24 rfl fl_C_37 rfl rfl (fun v4 => ?_)
    refine sm_iconst (pc' := 28) d_C_ask_27 rfl ic_0 ?_
    refine sm_callVi (ci := 3) (x := v4) (av := [.inl 0]) (st := [.inr (.inr v3)]) (mc := 0) (ms := 0) (pc' := 31) d_C_ask_28 rfl (sd_Fa_showingSet v4 0) m_lv rfl cv_Fa_showingSet w_ml_C_197 rfl rfl (by decide) (Nat.le_of_ble_eq_true rfl) rfl rfl (fun v5 => ?_)
    refine sm_aload_n (i := 0) (j := 0) (pc' := 32) d_C_ask_31 rfl rfl rfl ?_
    refine sm_getR (pc' := 35) d_C_ask_32 rfl fl_C_22 rfl rfl (fun v6 => ?_)
    refine sm_iload_n (i := 1) (j := 1) (pc' := 36) d_C_ask_35 rfl rfl rfl ?_
    refine sm_aald (t := 4) ⟨by decide, by decide⟩ rfl (pc' := 37) d_C_ask_36 rfl (fun v7 => ?_)
    refine sm_getR (pc' := 40) d_C_ask_37 rfl fl_C_112 rfl rfl (fun v8 => ?_)
    refine sm_iload_n (i := 2) (j := 2) (pc' := 41) d_C_ask_40 rfl rfl rfl ?_
    refine sm_callVv (ci := 8) (x := v3) (av := [.inl v5, .inr (.inr v8), .inl x2]) (st := []) (mc := 0) (ms := 0) (pc' := 44) d_C_ask_41 rfl (sd_Si_look v3 v5 v8 x2) m_lv rfl cv_Si_look w_ml_C_330 rfl rfl (by decide) (Nat.le_of_ble_eq_true rfl) rfl rfl ?_
    refine sm_aload_n (i := 0) (j := 0) (pc' := 45) d_C_ask_44 rfl rfl rfl (sm_aload_n (i := 0) (j := 0) (pc' := 46) d_C_ask_45 rfl rfl rfl ?_)
    refine sm_getR (pc' := 49) d_C_ask_46 rfl fl_C_68 rfl rfl (fun v9 => ?_)
    refine sm_callVi (ci := 8) (x := v9) (av := []) (st := [.inr (.inr x0)]) (mc := 0) (ms := 0) (pc' := 52) d_C_ask_49 rfl (sd_Si_ways v9) m_lv rfl cv_Si_ways w_ml_C_334 rfl rfl (by decide) (Nat.le_of_ble_eq_true rfl) rfl rfl (fun v10 => ?_)
    refine sm_iconst (pc' := 53) d_C_ask_52 rfl ic_2 ?_
    refine sm_bd (mid := fun (t13 : Int32) => .inl (67, [], [.inl t13, .inr (.inr x0)])) ?_ (fun t13 => ?_)
    · refine sm_icmp_ge (tgt := 60) (pc' := 56) d_C_ask_53 rfl rfl ?_ ?_
      · refine sm_aload_n (i := 0) (j := 0) (pc' := 61) d_C_ask_60 rfl rfl rfl ?_
        refine sm_getR (pc' := 64) d_C_ask_61 rfl fl_C_68 rfl rfl (fun v11 => ?_)
        refine sm_callVi (ci := 8) (x := v11) (av := []) (st := [.inr (.inr x0)]) (mc := 0) (ms := 0) (pc' := 67) d_C_ask_64 rfl (sd_Si_bestDamp v11) m_lv rfl cv_Si_bestDamp w_ml_C_340 rfl rfl (by decide) (Nat.le_of_ble_eq_true rfl) rfl rfl (fun v12 => ?_)
        refine sm_sub [] rfl ?_
        exact sm_rt rfl
      · refine sm_iconst (pc' := 57) d_C_ask_56 rfl ic_m1 (sm_goto (tgt := 67) d_C_ask_57 rfl (sm_sub [] rfl ?_))
        exact sm_rt rfl
    · refine sm_callVi (ci := 0) (x := x0) (av := [.inl t13]) (st := []) (mc := 0) (ms := 0) (pc' := 70) d_C_ask_67 rfl (sd_C_orNone x0 t13) m_lv rfl cv_C_orNone w_ml_C_310 rfl rfl (by decide) (Nat.le_of_ble_eq_true rfl) rfl rfl (fun v14 => ?_)
      exact sm_ireturn d_C_ask_70 rfl rfl
  · refine sm_iconst (pc' := 18) d_C_ask_17 rfl ic_m1 ?_
    exact sm_ireturn d_C_ask_18 rfl rfl
