/-! Part 69zd: pointers that change; back -/
/-- nothing was put but which family, spare, plan, marks are, and in the cells of the family f -/
def Rag (f : Nat) (R R' : mA → Nat → Option mA) : Prop := ∀ x y z k, ¬ (x = 1 ∧ 5 ≤ k ∧ k ≤ 7) → x ≠ 16 → ¬ (x = 7 ∧ k = 9) → ¬ (7 ≤ x ∧ x ≤ 15 ∧ y = f) → R' (x, y, z) k = R (x, y, z) k
section PT
variable {f N N' made : Nat} {R R' : mA → Nat → Option mA} {fa pa : Nat → Nat}
set_option maxHeartbeats 200000 in
theorem Rag_cls (h : Rag f R R') (hN : N ≤ N') (q : clsR N R) : clsR N' R' := by
  unfold Rag at h
  unfold clsR at q ⊢
  simp (disch := omega) only [h]
  exact ⟨by omega, q.2⟩
set_option maxHeartbeats 200000 in
theorem Rag_ref (h : Rag f R R') (hN : N ≤ N') (q : RefQ N R) : RefQ N' R' := by
  unfold Rag at h
  unfold RefQ at q ⊢
  simp (disch := omega) only [h]
  exact ⟨by omega, q.2⟩
set_option maxHeartbeats 200000 in
theorem Rag_fam {g : Nat} (h : Rag f R R') (hN : N ≤ N') (hg : g ≠ f) (q : famR N R g) : famR N' R' g := by
  unfold Rag at h
  unfold famR at q ⊢
  simp (disch := omega) only [h]
  exact ⟨q.1, by omega, q.2.2⟩
set_option maxHeartbeats 200000 in
theorem Rag_plan {g : Nat} (h : Rag f R R') (hN : N ≤ N') (hg : g ≠ f) (q : planR N R g) : planR N' R' g := by
  unfold Rag at h
  unfold planR at q ⊢
  simp (disch := omega) only [h]
  exact ⟨q.1, by omega, q.2.2⟩
def sw (a b j : Nat) : Nat := if j = a then b else if j = b then a else j
set_option maxHeartbeats 200000 in
theorem sw_lt {a b j n : Nat} (ha : a < n) (hb : b < n) (hj : j < n) : sw a b j < n := by
  unfold sw
  split
  · exact hb
  · split
    · exact ha
    · exact hj
set_option maxHeartbeats 200000 in
theorem sw_inj {a b i j : Nat} (h : sw a b i = sw a b j) : i = j := by
  unfold sw at h
  repeat' split at h
  all_goals omega
set_option maxHeartbeats 200000 in
theorem PtrQ_swap {a b : Nat} (h : PtrQ N R made fa pa) (hr : Rag 9 R R') (ha : a < made + 2) (hb : b < made + 2) (h9 : ∀ f, R' (7, f, 0) 9 = R (7, f, 0) 9) (h5 : R' (1, 0, 0) 5 = some (7, fa (sw a b 0), 0)) (h6 : R' (1, 0, 0) 6 = some (7, fa (sw a b 1), 0)) (h7 : R' (1, 0, 0) 7 = R (1, 0, 0) 7) (h16 : ∀ i, i < made → R' (16, 0, 0) i = some (7, fa (sw a b (2 + i)), 0)) (h16' : ∀ i, made ≤ i → i < 3 → R' (16, 0, 0) i = none) : PtrQ N R' made (fun j => fa (sw a b j)) (fun j => if j = 0 then pa 0 else pa (sw a b (j - 1) + 1)) := by
  obtain ⟨c1, c2, c3, c4, c5, c6, c7, c8, c9, c10, c11, c12, c13⟩ := h
  have hl := Nat.le_refl N
  have hgp : ∀ g, planR N R g → planR N R' g := fun g q => Rag_plan hr hl (by have := q.1; omega) q
  refine ⟨Rag_cls hr hl c1, Rag_ref hr hl c2, c3, c4, fun j hj => ?_, fun i j hi hj q => ?_, fun i j hi hj q => ?_, h5, h6, by rw [h7]; exact c10, hgp _ c11, h16, h16'⟩
  · obtain ⟨d1, d2, d3, d4⟩ := c5 (sw a b j) (sw_lt ha hb hj)
    refine ⟨d1, Rag_fam (f := 9) (g := fa (sw a b j)) hr hl (by have : fa (sw a b j) < 5 := d2.1; omega) d2, ?_, ?_⟩
    · rw [h9, d3]
      simp
    · simp only [Nat.add_sub_cancel, if_neg (show ¬ j + 1 = 0 by omega)]
      exact hgp _ d4
  · exact sw_inj (c6 _ _ (sw_lt ha hb hi) (sw_lt ha hb hj) q)
  · simp only at q
    by_cases zi : i = 0
    · by_cases zj : j = 0
      · omega
      · rw [if_pos zi, if_neg zj] at q
        have := c7 0 (sw a b (j - 1) + 1) (by omega) (by have := sw_lt ha hb (show j - 1 < made + 2 by omega); omega) q
        omega
    · by_cases zj : j = 0
      · rw [if_neg zi, if_pos zj] at q
        have := c7 (sw a b (i - 1) + 1) 0 (by have := sw_lt ha hb (show i - 1 < made + 2 by omega); omega) (by omega) q
        omega
      · rw [if_neg zi, if_neg zj] at q
        have h1 := sw_lt ha hb (show i - 1 < made + 2 by omega)
        have h2 := sw_lt ha hb (show j - 1 < made + 2 by omega)
        have := c7 _ _ (by omega) (by omega) q
        have := sw_inj (show sw a b (i - 1) = sw a b (j - 1) by omega)
        omega
end PT
section CP
variable {ν : mM}
set_option maxHeartbeats 200000 in
/-- a block of the reference is laid upon another -/
theorem r_copy (hR : RefP ν) {a b : Nat} (ha : a < 5) (hb : b < 5) (hab : a ≠ b) : m_e (fn_M_copy (some (40, 0, 0)) (nI a) (nI b) ν) (fun _ ν' => sm (fun x _ _ k => (x = 45 ∧ 377 * b ≤ k ∧ k < 377 * b + 377) ∨ (x = 48 ∧ 14 * b ≤ k ∧ k < 14 * b + 14)) ν ν' ∧ (∀ k, k < 377 → m_I ν' (45, 0, 0) (377 * b + k) = m_I ν (45, 0, 0) (377 * a + k)) ∧ ∀ k, k < 14 → m_J ν' (48, 0, 0) (14 * b + k) = m_J ν (48, 0, 0) (14 * a + k)) := by
  unfold fn_M_copy
  rw [r_th hR]
  have hab2 : a < b ∨ b < a := by omega
  refine e_bd (R := fun _ ν' => sm (fun x _ _ k => x = 45 ∧ 377 * b ≤ k ∧ k < 377 * b + 377) ν ν' ∧ ∀ k, k < 377 → m_I ν' (45, 0, 0) (377 * b + k) = m_I ν (45, 0, 0) (377 * a + k)) ?_ ?_
  · refine e_inv (fun i s ν' => s = nI i ∧ sm (fun x _ _ k => x = 45 ∧ 377 * b ≤ k ∧ k < 377 * b + 377) ν ν' ∧ ∀ k, k < i → m_I ν' (45, 0, 0) (377 * b + k) = m_I ν (45, 0, 0) (377 * a + k)) 377 ?_ ?_ ⟨rfl, sm_rf, fun k hk => absurd hk (Nat.not_lt_zero k)⟩ (by omega)
    · rintro i s ν' hi ⟨rfl, b1, b2⟩
      have hR := sm_R b1 hR
      have hge : ¬ (377 : Int32) ≤ nI i := nI_ge hi (by decide)
      unfold fn_M_copy_l2
      rw [ap_ite, if_neg hge, r_g45 hR, r_g45 hR, show (377 : Int32) = nI 377 from rfl, pk_mul, pk_mul, nI_add, nI_add, r_a45 hR (by omega), r_t45 hR (by omega)]
      refine ⟨_, _, rfl, _, rfl, nI_1 i, sm_sI b1 _ (by omega), fun k hk => ?_⟩
      rw [I_row]
      by_cases z : k = i
      · subst z
        rw [ud_at, sm_I b1 (by omega)]
      · rw [ud_ne (by omega)]
        exact b2 k (by omega)
    · rintro s ν' ⟨rfl, b1, b2⟩
      unfold fn_M_copy_l2
      rw [ap_ite, if_pos (show (377 : Int32) ≤ nI 377 by decide)]
      exact ⟨_, _, rfl, (), rfl, b1, b2⟩
  · rintro - ν1 ⟨b1, b2⟩
    have hR1 := sm_R b1 hR
    refine e_bd (R := fun _ ν' => sm (fun x _ _ k => x = 48 ∧ 14 * b ≤ k ∧ k < 14 * b + 14) ν1 ν' ∧ ∀ k, k < 14 → m_J ν' (48, 0, 0) (14 * b + k) = m_J ν1 (48, 0, 0) (14 * a + k)) ?_ ?_
    · refine e_inv (fun i s ν' => s = nI i ∧ sm (fun x _ _ k => x = 48 ∧ 14 * b ≤ k ∧ k < 14 * b + 14) ν1 ν' ∧ ∀ k, k < i → m_J ν' (48, 0, 0) (14 * b + k) = m_J ν1 (48, 0, 0) (14 * a + k)) 14 ?_ ?_ ⟨rfl, sm_rf, fun k hk => absurd hk (Nat.not_lt_zero k)⟩ (by omega)
      · rintro i s ν' hi ⟨rfl, d1, d2⟩
        have hR := sm_R d1 hR1
        have hge : ¬ (14 : Int32) ≤ nI i := nI_ge hi (by decide)
        unfold fn_M_copy_l41
        rw [ap_ite, if_neg hge, r_g48 hR, r_g48 hR, show (14 : Int32) = nI 14 from rfl, pk_mul, pk_mul, nI_add, nI_add, r_a48 hR (by omega), r_t48 hR (by omega)]
        refine ⟨_, _, rfl, _, rfl, nI_1 i, sm_sJ d1 _ (by omega), fun k hk => ?_⟩
        rw [J_row]
        by_cases z : k = i
        · subst z
          rw [ud_at, sm_J d1 (by omega)]
        · rw [ud_ne (by omega)]
          exact d2 k (by omega)
      · rintro s ν' ⟨rfl, d1, d2⟩
        unfold fn_M_copy_l41
        rw [ap_ite, if_pos (show (14 : Int32) ≤ nI 14 by decide)]
        exact ⟨_, _, rfl, (), rfl, d1, d2⟩
    · rintro - ν2 ⟨d1, d2⟩
      exact ⟨(), _, rfl, sm_tr (sm_mono b1 (by omega)) (sm_mono d1 (by omega)), fun k hk => by rw [sm_I d1 (by omega)]; exact b2 k hk, fun k hk => by rw [d2 k hk, sm_J b1 (by omega)]⟩
end CP
section CB
variable {μ : mM} {made n P T : Nat} {fa pa : Nat → Nat}
set_option maxHeartbeats 200000 in
theorem bd_gR' {α : Type} {μ : mM} {ci k : Nat} {a : mA} {v : Option mA} (h : oO μ ci a) (e : m_R μ a k = v) (K : Option mA → mP α) : m_bd (m_gR ci k (some a)) K μ = K v μ := by rw [bd_gR h, e]
set_option maxHeartbeats 200000 in
theorem call_back (h : Inv μ made n fa pa P T) : Jn (fn_C_back (some (1, 0, 0))) (fn_M_back (some (40, 0, 0))) μ := by
  obtain ⟨⟨hp, hnm⟩, i2, i3, i4, i5, i6, i7, i8, i9, i10⟩ := id h
  have hC := (Inv_cur h).1
  have hR := Inv_ref h
  obtain ⟨f1, f2, f3, f4, f5, f6⟩ := ptr_facts hp
  have hm3 := hp.2.2.1
  obtain ⟨c1, c2, c3, c4, c5, c6, c7, c8, c9, c10, c11, c12, c13⟩ := id hp
  by_cases hn : n = 0
  · subst hn
    refine call_q h (fun μ hR => r_pre hR _) 8 (-1) ?_ (fun ν hR e ez => ?_)
    · have hor := k_orNone hC (-1)
      simp only [if_true] at hor
      have e9 : m_I μ (1, 0, 0) 9 = 0 := i10.1
      have hl : ((0 : Int32) ≤ 0) = True := eq_true (by decide)
      unfold fn_C_back
      simp (disch := first | exact hC | exact hP | exact hR | ((repeat first | apply ClsP_sI | apply ClsP_sJ | apply ClsP_rI | apply ClsP_rJ | apply ClsP_rY); exact hC) | ((repeat first | apply FamP_sI | apply FamP_sJ | apply FamP_rI | apply FamP_rJ | apply FamP_rY); exact hP) | ((repeat first | apply RefP_sI | apply RefP_sJ | apply RefP_rI | apply RefP_rJ | apply RefP_rY); exact hR) | ((repeat first | apply PlanP_sI | apply PlanP_sJ | apply PlanP_rI | apply PlanP_rJ | apply PlanP_rY); exact hL) | omega) only [↓c_main_thb, ↓c_tray_thb, ↓c_text_thb, ↓c_fam_thb, ↓c_per_thb, ↓c_thi_thb, ↓c_plan_thb, ↓c_ahd_thb, ↓c_then_thb, ↓c_sig_thb, ↓c_kee_thb, ↓c_gam_thb, ↓c_brd_thb, ↓c_main_r3, ↓c_main_r4, ↓c_main_r8, ↓c_main_r10, ↓c_main_r11, ↓c_main_r12, ↓c_main_r13, ↓c_main_r14, ↓c_text_r0, ↓c_ahd_r1, ↓c_ahd_r2, ↓c_ahd_r3, ↓c_sig_r0, ↓c_sig_r1, ↓c_kee_r0, ↓c_kee_r1, ↓c_kee_r2, ↓c_kee_r3, ↓c_kee_r5, ↓c_gam_r1, ↓c_gam_r2, ↓c_trays_r, ↓c_tray_r2, ↓c_brds_r, ↓c_brds_r0, ↓c_brds_r1, ↓c_fam_r7, ↓c_fam_r8, ↓c_pers_r, ↓c_per_r4, ↓c_itm_r, ↓c_plan_r2, ↓c_plan_r3, ↓c_plan_r4, ↓c_plan_r5, ↓c_plan_r6, ↓c_plan_r11, ↓c_plan_r12, ↓c_main_R5, ↓c_main_R6, ↓c_main_R7, ↓c_fam_R9, ↓c_main_th, ↓c_main_gI, ↓c_main_gJ, ↓c_main_pI, ↓c_main_pJ, ↓c_main_pR, ↓c_main_pZ, ↓c_tray_th, ↓c_tray_gI, ↓c_tray_pI, ↓c_tray_pR, ↓c_text_th, ↓c_text_gI, ↓c_text_gJ, ↓c_text_pI, ↓c_text_pJ, ↓c_text_pR, ↓c_fam_th, ↓c_fam_gI, ↓c_fam_pI, ↓c_fam_pR, ↓c_per_th, ↓c_per_gI, ↓c_per_gJ, ↓c_per_pI, ↓c_per_pJ, ↓c_per_pR, ↓c_per_pZ, ↓c_thi_th, ↓c_thi_gI, ↓c_thi_gJ, ↓c_thi_pI, ↓c_thi_pJ, ↓c_plan_th, ↓c_plan_gI, ↓c_plan_pI, ↓c_plan_pR, ↓c_plan_pZ, ↓c_ahd_th, ↓c_ahd_gI, ↓c_ahd_pI, ↓c_ahd_pR, ↓c_then_th, ↓c_then_gI, ↓c_then_gJ, ↓c_then_pI, ↓c_then_pJ, ↓c_sig_th, ↓c_sig_gI, ↓c_sig_pI, ↓c_sig_pR, ↓c_kee_th, ↓c_kee_gI, ↓c_kee_pI, ↓c_kee_pR, ↓c_gam_th, ↓c_gam_gI, ↓c_gam_pI, ↓c_gam_pR, ↓c_brd_th, ↓c_brd_gI, ↓c_brd_gJ, ↓c_brd_pI, ↓c_brd_pJ, ↓c_nums_a, ↓c_nums_t, ↓c_bytes_a, ↓c_bytes_t, ↓c_lov_a, ↓c_lov_t, ↓c_parr_a, ↓c_parr_t, ↓c_plps_a, ↓c_plps_t, ↓c_mkd_a, ↓c_sav_a, ↓c_sav_t, ↓c_wut_a, ↓c_wut_t, ↓c_wut_a0, ↓c_wut_t0, ↓c_fits_a, ↓c_fits_t, ↓c_wsum_a, ↓c_wsum_t, ↓c_wsum_a0, ↓c_wsum_t0, ↓c_ckp_a, ↓c_ckp_t, ↓c_ckr_a, ↓c_ckr_t, ↓c_cas_a, ↓c_cas_t, ↓c_cmb_a, ↓c_cmb_t, ↓c_clb_a, ↓c_clb_t, ↓c_clb_a0, ↓c_clb_t0, ↓c_glv_a, ↓c_glv_t, ↓c_clv_a, ↓c_clv_t, ↓c_clv_a0, ↓c_clv_t0, ↓c_clv_a1, ↓c_clv_t1, ↓c_clv_a2, ↓c_clv_t2, ↓c_clv_a3, ↓c_clv_t3, ↓c_clv_a4, ↓c_clv_t4, ↓bd_bd, ↓bd_rt, c_main_thb, c_tray_thb, c_text_thb, c_fam_thb, c_per_thb, c_thi_thb, c_plan_thb, c_ahd_thb, c_then_thb, c_sig_thb, c_kee_thb, c_gam_thb, c_brd_thb, c_main_r3, c_main_r4, c_main_r8, c_main_r10, c_main_r11, c_main_r12, c_main_r13, c_main_r14, c_text_r0, c_ahd_r1, c_ahd_r2, c_ahd_r3, c_sig_r0, c_sig_r1, c_kee_r0, c_kee_r1, c_kee_r2, c_kee_r3, c_kee_r5, c_gam_r1, c_gam_r2, c_trays_r, c_tray_r2, c_brds_r, c_brds_r0, c_brds_r1, c_fam_r7, c_fam_r8, c_pers_r, c_per_r4, c_itm_r, c_plan_r2, c_plan_r3, c_plan_r4, c_plan_r5, c_plan_r6, c_plan_r11, c_plan_r12, c_main_R5, c_main_R6, c_main_R7, c_fam_R9, c_main_th, c_main_gI, c_main_gJ, c_main_pI, c_main_pJ, c_main_pR, c_main_pZ, c_tray_th, c_tray_gI, c_tray_pI, c_tray_pR, c_text_th, c_text_gI, c_text_gJ, c_text_pI, c_text_pJ, c_text_pR, c_fam_th, c_fam_gI, c_fam_pI, c_fam_pR, c_per_th, c_per_gI, c_per_gJ, c_per_pI, c_per_pJ, c_per_pR, c_per_pZ, c_thi_th, c_thi_gI, c_thi_gJ, c_thi_pI, c_thi_pJ, c_plan_th, c_plan_gI, c_plan_pI, c_plan_pR, c_plan_pZ, c_ahd_th, c_ahd_gI, c_ahd_pI, c_ahd_pR, c_then_th, c_then_gI, c_then_gJ, c_then_pI, c_then_pJ, c_sig_th, c_sig_gI, c_sig_pI, c_sig_pR, c_kee_th, c_kee_gI, c_kee_pI, c_kee_pR, c_gam_th, c_gam_gI, c_gam_pI, c_gam_pR, c_brd_th, c_brd_gI, c_brd_gJ, c_brd_pI, c_brd_pJ, c_nums_a, c_nums_t, c_bytes_a, c_bytes_t, c_lov_a, c_lov_t, c_parr_a, c_parr_t, c_plps_a, c_plps_t, c_mkd_a, c_sav_a, c_sav_t, c_wut_a, c_wut_t, c_wut_a0, c_wut_t0, c_fits_a, c_fits_t, c_wsum_a, c_wsum_t, c_wsum_a0, c_wsum_t0, c_ckp_a, c_ckp_t, c_ckr_a, c_ckr_t, c_cas_a, c_cas_t, c_cmb_a, c_cmb_t, c_clb_a, c_clb_t, c_clb_a0, c_clb_t0, c_glv_a, c_glv_t, c_clv_a, c_clv_t, c_clv_a0, c_clv_t0, c_clv_a1, c_clv_t1, c_clv_a2, c_clv_t2, c_clv_a3, c_clv_t3, c_clv_a4, c_clv_t4, ↓reduceIte, ↓ap_ite, ↓bd_ite, bd_bd, bd_rt, ap_rt, ite_some, nI_add, nI_1, R_sI, R_sJ, nz_1, nz_2, nz_3, nz_4, nz_5, nz_6, nz_7, nz_8, nz_9, nz_10, nz_11, nz_12, nz_m1, z_eq, if_true, if_false, e_some, ite_self, e9, hl, Option.isSome_none, (show ((false : Bool) = true) = False by simp), ↓bd_of hor]
      exact QC_st _ _
    · have e24 : m_I ν (40, 0, 0) 24 = 0 := by rw [ez.2 24 (by omega)]; exact i10.2.1
      simp (disch := first | exact hC | exact hP | exact hR | ((repeat first | apply ClsP_sI | apply ClsP_sJ | apply ClsP_rI | apply ClsP_rJ | apply ClsP_rY); exact hC) | ((repeat first | apply FamP_sI | apply FamP_sJ | apply FamP_rI | apply FamP_rJ | apply FamP_rY); exact hP) | ((repeat first | apply RefP_sI | apply RefP_sJ | apply RefP_rI | apply RefP_rJ | apply RefP_rY); exact hR) | ((repeat first | apply PlanP_sI | apply PlanP_sJ | apply PlanP_rI | apply PlanP_rJ | apply PlanP_rY); exact hL) | omega) only [↓r_thb, ↓r_th, ↓r_gI, ↓r_gJ, ↓r_pI, ↓r_pJ, ↓r_g41, ↓r_g42, ↓r_g43, ↓r_g44, ↓r_g45, ↓r_g46, ↓r_g47, ↓r_g48, ↓r_g49, ↓r_g50, ↓r_g51, ↓r_g52, ↓r_g53, ↓r_g54, ↓r_g55, ↓r_g56, ↓r_g57, ↓r_g58, ↓r_a41, ↓r_a42, ↓r_a43, ↓r_a44, ↓r_a45, ↓r_a46, ↓r_a47, ↓r_a48, ↓r_a49, ↓r_a50, ↓r_a51, ↓r_a52, ↓r_a53, ↓r_a54, ↓r_a55, ↓r_a56, ↓r_a57, ↓r_a58, ↓r_t41, ↓r_t42, ↓r_t43, ↓r_t44, ↓r_t45, ↓r_t46, ↓r_t47, ↓r_t48, ↓r_t49, ↓r_t50, ↓r_t51, ↓r_t52, ↓r_t53, ↓r_t54, ↓r_t55, ↓r_t56, ↓r_t57, ↓r_t58, ↓r_l43_0, ↓r_l45_0, ↓r_l45_1, ↓r_l45_2, ↓r_l45_3, ↓r_l45_4, ↓r_l45_5, ↓r_l45_6, ↓r_l45_105, ↓r_l45_106, ↓r_l45_1508, ↓r_l45_1509, ↓r_tl45_0, ↓r_tl45_1, ↓r_tl45_2, ↓r_tl45_3, ↓r_tl45_4, ↓r_tl45_5, ↓r_tl45_6, ↓r_tl45_105, ↓r_tl45_106, ↓r_tl45_1508, ↓r_tl45_1509, ↓r_l48_0, ↓r_l56_0, ↓r_l57_0, ↓r_tl58_0, ↓r_tl58_1, ↓r_tl58_2, ↓r_tl58_3, ↓r_tl58_4, ↓bd_bd, ↓bd_rt, r_thb, r_th, r_gI, r_gJ, r_pI, r_pJ, r_g41, r_g42, r_g43, r_g44, r_g45, r_g46, r_g47, r_g48, r_g49, r_g50, r_g51, r_g52, r_g53, r_g54, r_g55, r_g56, r_g57, r_g58, r_a41, r_a42, r_a43, r_a44, r_a45, r_a46, r_a47, r_a48, r_a49, r_a50, r_a51, r_a52, r_a53, r_a54, r_a55, r_a56, r_a57, r_a58, r_t41, r_t42, r_t43, r_t44, r_t45, r_t46, r_t47, r_t48, r_t49, r_t50, r_t51, r_t52, r_t53, r_t54, r_t55, r_t56, r_t57, r_t58, r_l43_0, r_l45_0, r_l45_1, r_l45_2, r_l45_3, r_l45_4, r_l45_5, r_l45_6, r_l45_105, r_l45_106, r_l45_1508, r_l45_1509, r_tl45_0, r_tl45_1, r_tl45_2, r_tl45_3, r_tl45_4, r_tl45_5, r_tl45_6, r_tl45_105, r_tl45_106, r_tl45_1508, r_tl45_1509, r_l48_0, r_l56_0, r_l57_0, r_tl58_0, r_tl58_1, r_tl58_2, r_tl58_3, r_tl58_4, la_1, lm_1, la_2, lm_2, la_3, lm_3, la_6, lm_6, la_7, lm_7, la_8, lm_8, la_13, lm_13, la_19, lm_19, la_25, lm_25, la_33, lm_33, la_41, lm_41, la_49, lm_49, la_57, lm_57, la_60, lm_60, la_105, lm_105, la_107, lm_107, la_1508, lm_1508, la_96, lm_96, la_377, lm_377, la_1509, lm_1509, ↓reduceIte, ↓ap_ite, ↓bd_ite, bd_bd, bd_rt, ap_rt, ite_some, nI_add, nI_1, nz_1, nz_2, nz_3, nz_4, nz_5, nz_6, nz_7, nz_8, nz_9, nz_10, nz_11, nz_12, nz_m1, z_eq, if_true, if_false, e_some, ite_self, e24, ↓bd_of (r_refuse hR 8)]
      exact QR_st _ _
  · obtain ⟨q, rfl⟩ : ∃ q, n = q + 1 := ⟨n - 1, by omega⟩
    have hq3 : q < 3 := by omega
    have hqm : q < made := by omega
    have e9 : m_I μ (1, 0, 0) 9 = nI (q + 1) := i10.1
    have e16 := c12 q hqm
    have hle : (nI (q + 1) ≤ 0) = False := eq_false (nI_ge (a := 0) (by omega) (by omega))
    have hs1 : nI (q + 1) - 1 = nI q := by rw [show (1 : Int32) = nI 1 from rfl, pk_sub (by omega)]; rfl
    have hd2 := c5 (2 + q) (by omega)
    have hd0 := c5 0 (by omega)
    -- the class
    generalize hμR : m_sR (m_sR μ (16, 0, 0) q (some (7, fa 0, 0))) (1, 0, 0) 5 (some (7, fa (2 + q), 0)) = μR
    have hcls : fn_C_back (some (1, 0, 0)) μ = some (nI q, m_sI (m_sI μR (1, 0, 0) 0 0) (1, 0, 0) 9 (nI q)) := by
      have o1 : oO (m_sI (m_sI μ (1, 0, 0) 0 0) (1, 0, 0) 9 (nI q)) 0 (1, 0, 0) := o_main hC
      have h16 : oA (m_sI (m_sI μ (1, 0, 0) 0 0) (1, 0, 0) 9 (nI q)) 5 3 (16, 0, 0) := o_mkd hC
      have hfo : oO (m_sI (m_sI μ (1, 0, 0) 0 0) (1, 0, 0) 9 (nI q)) 3 (7, fa 0, 0) := o_fam hd0.2.1
      have hR5 : m_R (m_sI (m_sI μ (1, 0, 0) 0 0) (1, 0, 0) 9 (nI q)) (1, 0, 0) 5 = some (7, fa 0, 0) := c8
      have o2 : oO (m_sR (m_sI (m_sI μ (1, 0, 0) 0 0) (1, 0, 0) 9 (nI q)) (16, 0, 0) q (some (7, fa 0, 0))) 0 (1, 0, 0) := o_main hC
      unfold fn_C_back
      simp (disch := first | exact hq3 | exact hqm | first | exact hC | exact hP | exact hR | ((repeat first | apply ClsP_sI | apply ClsP_sJ | apply ClsP_rI | apply ClsP_rJ | apply ClsP_rY); exact hC) | ((repeat first | apply FamP_sI | apply FamP_sJ | apply FamP_rI | apply FamP_rJ | apply FamP_rY); exact hP) | ((repeat first | apply RefP_sI | apply RefP_sJ | apply RefP_rI | apply RefP_rJ | apply RefP_rY); exact hR) | ((repeat first | apply PlanP_sI | apply PlanP_sJ | apply PlanP_rI | apply PlanP_rJ | apply PlanP_rY); exact hL) | omega) only [↓c_main_thb, ↓c_tray_thb, ↓c_text_thb, ↓c_fam_thb, ↓c_per_thb, ↓c_thi_thb, ↓c_plan_thb, ↓c_ahd_thb, ↓c_then_thb, ↓c_sig_thb, ↓c_kee_thb, ↓c_gam_thb, ↓c_brd_thb, ↓c_main_r3, ↓c_main_r4, ↓c_main_r8, ↓c_main_r10, ↓c_main_r11, ↓c_main_r12, ↓c_main_r13, ↓c_main_r14, ↓c_text_r0, ↓c_ahd_r1, ↓c_ahd_r2, ↓c_ahd_r3, ↓c_sig_r0, ↓c_sig_r1, ↓c_kee_r0, ↓c_kee_r1, ↓c_kee_r2, ↓c_kee_r3, ↓c_kee_r5, ↓c_gam_r1, ↓c_gam_r2, ↓c_trays_r, ↓c_tray_r2, ↓c_brds_r, ↓c_brds_r0, ↓c_brds_r1, ↓c_fam_r7, ↓c_fam_r8, ↓c_pers_r, ↓c_per_r4, ↓c_itm_r, ↓c_plan_r2, ↓c_plan_r3, ↓c_plan_r4, ↓c_plan_r5, ↓c_plan_r6, ↓c_plan_r11, ↓c_plan_r12, ↓c_main_R5, ↓c_main_R6, ↓c_main_R7, ↓c_fam_R9, ↓c_main_th, ↓c_main_gI, ↓c_main_gJ, ↓c_main_pI, ↓c_main_pJ, ↓c_main_pR, ↓c_main_pZ, ↓c_tray_th, ↓c_tray_gI, ↓c_tray_pI, ↓c_tray_pR, ↓c_text_th, ↓c_text_gI, ↓c_text_gJ, ↓c_text_pI, ↓c_text_pJ, ↓c_text_pR, ↓c_fam_th, ↓c_fam_gI, ↓c_fam_pI, ↓c_fam_pR, ↓c_per_th, ↓c_per_gI, ↓c_per_gJ, ↓c_per_pI, ↓c_per_pJ, ↓c_per_pR, ↓c_per_pZ, ↓c_thi_th, ↓c_thi_gI, ↓c_thi_gJ, ↓c_thi_pI, ↓c_thi_pJ, ↓c_plan_th, ↓c_plan_gI, ↓c_plan_pI, ↓c_plan_pR, ↓c_plan_pZ, ↓c_ahd_th, ↓c_ahd_gI, ↓c_ahd_pI, ↓c_ahd_pR, ↓c_then_th, ↓c_then_gI, ↓c_then_gJ, ↓c_then_pI, ↓c_then_pJ, ↓c_sig_th, ↓c_sig_gI, ↓c_sig_pI, ↓c_sig_pR, ↓c_kee_th, ↓c_kee_gI, ↓c_kee_pI, ↓c_kee_pR, ↓c_gam_th, ↓c_gam_gI, ↓c_gam_pI, ↓c_gam_pR, ↓c_brd_th, ↓c_brd_gI, ↓c_brd_gJ, ↓c_brd_pI, ↓c_brd_pJ, ↓c_nums_a, ↓c_nums_t, ↓c_bytes_a, ↓c_bytes_t, ↓c_lov_a, ↓c_lov_t, ↓c_parr_a, ↓c_parr_t, ↓c_plps_a, ↓c_plps_t, ↓c_mkd_a, ↓c_sav_a, ↓c_sav_t, ↓c_wut_a, ↓c_wut_t, ↓c_wut_a0, ↓c_wut_t0, ↓c_fits_a, ↓c_fits_t, ↓c_wsum_a, ↓c_wsum_t, ↓c_wsum_a0, ↓c_wsum_t0, ↓c_ckp_a, ↓c_ckp_t, ↓c_ckr_a, ↓c_ckr_t, ↓c_cas_a, ↓c_cas_t, ↓c_cmb_a, ↓c_cmb_t, ↓c_clb_a, ↓c_clb_t, ↓c_clb_a0, ↓c_clb_t0, ↓c_glv_a, ↓c_glv_t, ↓c_clv_a, ↓c_clv_t, ↓c_clv_a0, ↓c_clv_t0, ↓c_clv_a1, ↓c_clv_t1, ↓c_clv_a2, ↓c_clv_t2, ↓c_clv_a3, ↓c_clv_t3, ↓c_clv_a4, ↓c_clv_t4, ↓bd_bd, ↓bd_rt, c_main_thb, c_tray_thb, c_text_thb, c_fam_thb, c_per_thb, c_thi_thb, c_plan_thb, c_ahd_thb, c_then_thb, c_sig_thb, c_kee_thb, c_gam_thb, c_brd_thb, c_main_r3, c_main_r4, c_main_r8, c_main_r10, c_main_r11, c_main_r12, c_main_r13, c_main_r14, c_text_r0, c_ahd_r1, c_ahd_r2, c_ahd_r3, c_sig_r0, c_sig_r1, c_kee_r0, c_kee_r1, c_kee_r2, c_kee_r3, c_kee_r5, c_gam_r1, c_gam_r2, c_trays_r, c_tray_r2, c_brds_r, c_brds_r0, c_brds_r1, c_fam_r7, c_fam_r8, c_pers_r, c_per_r4, c_itm_r, c_plan_r2, c_plan_r3, c_plan_r4, c_plan_r5, c_plan_r6, c_plan_r11, c_plan_r12, c_main_R5, c_main_R6, c_main_R7, c_fam_R9, c_main_th, c_main_gI, c_main_gJ, c_main_pI, c_main_pJ, c_main_pR, c_main_pZ, c_tray_th, c_tray_gI, c_tray_pI, c_tray_pR, c_text_th, c_text_gI, c_text_gJ, c_text_pI, c_text_pJ, c_text_pR, c_fam_th, c_fam_gI, c_fam_pI, c_fam_pR, c_per_th, c_per_gI, c_per_gJ, c_per_pI, c_per_pJ, c_per_pR, c_per_pZ, c_thi_th, c_thi_gI, c_thi_gJ, c_thi_pI, c_thi_pJ, c_plan_th, c_plan_gI, c_plan_pI, c_plan_pR, c_plan_pZ, c_ahd_th, c_ahd_gI, c_ahd_pI, c_ahd_pR, c_then_th, c_then_gI, c_then_gJ, c_then_pI, c_then_pJ, c_sig_th, c_sig_gI, c_sig_pI, c_sig_pR, c_kee_th, c_kee_gI, c_kee_pI, c_kee_pR, c_gam_th, c_gam_gI, c_gam_pI, c_gam_pR, c_brd_th, c_brd_gI, c_brd_gJ, c_brd_pI, c_brd_pJ, c_nums_a, c_nums_t, c_bytes_a, c_bytes_t, c_lov_a, c_lov_t, c_parr_a, c_parr_t, c_plps_a, c_plps_t, c_mkd_a, c_sav_a, c_sav_t, c_wut_a, c_wut_t, c_wut_a0, c_wut_t0, c_fits_a, c_fits_t, c_wsum_a, c_wsum_t, c_wsum_a0, c_wsum_t0, c_ckp_a, c_ckp_t, c_ckr_a, c_ckr_t, c_cas_a, c_cas_t, c_cmb_a, c_cmb_t, c_clb_a, c_clb_t, c_clb_a0, c_clb_t0, c_glv_a, c_glv_t, c_clv_a, c_clv_t, c_clv_a0, c_clv_t0, c_clv_a1, c_clv_t1, c_clv_a2, c_clv_t2, c_clv_a3, c_clv_t3, c_clv_a4, c_clv_t4, ↓reduceIte, ↓ap_ite, ↓bd_ite, bd_bd, bd_rt, ap_rt, ite_some, nI_add, nI_1, R_sI, R_sJ, nz_1, nz_2, nz_3, nz_4, nz_5, nz_6, nz_7, nz_8, nz_9, nz_10, nz_11, nz_12, nz_m1, z_eq, if_true, if_false, e_some, ite_self, e9, hle, hs1, e16, Option.isSome_some, if_true, I_row, ud_at, ud_ne (show ¬ (9 : Nat) = 0 by decide)]
      have o3 : oO (m_sR (m_sR (m_sI (m_sI μ (1, 0, 0) 0 0) (1, 0, 0) 9 (nI q)) (16, 0, 0) q (some (7, fa 0, 0))) (1, 0, 0) 5 (some (7, fa (2 + q), 0))) 0 (1, 0, 0) := o_main hC
      rw [c8, bd_tR h16 hq3 (by decide) hfo, bd_pR o2, bd_gI o3, ← hμR]
      rfl
    have hs0 : sm (fun x _ _ k => x = 1 ∧ (k = 0 ∨ k = 9)) μR (m_sI (m_sI μR (1, 0, 0) 0 0) (1, 0, 0) 9 (nI q)) := sm_sI (sm_sI sm_rf _ ⟨rfl, .inl rfl⟩) _ ⟨rfl, .inr rfl⟩
    have hIR : m_I μR = m_I μ := by rw [← hμR]; rfl
    have hJR : m_J μR = m_J μ := by rw [← hμR]; rfl
    have hNR : μR.1 = μ.1 := by rw [← hμR]; rfl
    have hRR : ∀ a k, m_R μR a k = if a = (1, 0, 0) ∧ k = 5 then some (7, fa (2 + q), 0) else if a = (16, 0, 0) ∧ k = q then some (7, fa 0, 0) else m_R μ a k := fun a k => by rw [← hμR]; rfl
    have hp' : PtrQ μR.1 (m_R μR) made (fun j => fa (sw 0 (2 + q) j)) (fun j => if j = 0 then pa 0 else pa (sw 0 (2 + q) (j - 1) + 1)) := by
      rw [hNR]
      refine PtrQ_swap hp (fun x y z k h1 h2 h3 _ => ?_) (by omega) (by omega) (fun f => ?_) ?_ ?_ ?_ (fun i hi => ?_) (fun i h1 h2 => ?_)
      · rw [hRR, if_neg, if_neg]
        · rintro ⟨w, -⟩
          cases w
          exact h2 rfl
        · rintro ⟨w, rfl⟩
          cases w
          exact h1 ⟨rfl, by omega, by omega⟩
      · rw [hRR, if_neg (fun w => by cases w.1), if_neg (fun w => by cases w.1)]
      · rw [hRR, if_pos ⟨rfl, rfl⟩]
        rfl
      · rw [hRR, if_neg (fun w => by cases w.2), if_neg (fun w => by cases w.1), c9]
        unfold sw
        rw [if_neg (by omega), if_neg (by omega)]
      · rw [hRR, if_neg (fun w => by cases w.2), if_neg (fun w => by cases w.1)]
      · rw [hRR, if_neg (fun w => by cases w.1)]
        unfold sw
        by_cases w : i = q
        · rw [if_pos ⟨rfl, w⟩, if_neg (by omega), if_pos (by omega)]
        · rw [if_neg (fun v => w v.2), if_neg (by omega), if_neg (by omega)]
          exact c12 i hi
      · rw [hRR, if_neg (fun w => by cases w.1), if_neg (fun w => by have := w.2; omega)]
        exact c13 i h1 h2
    have hR1 : RefP (m_sI (m_sI μR (1, 0, 0) 0 0) (1, 0, 0) 9 (nI q)) := hp'.2.1
    -- the reference
    refine ⟨_, _, hcls, ?_⟩
    generalize hμ1 : m_sI (m_sI μR (1, 0, 0) 0 0) (1, 0, 0) 9 (nI q) = μ1 at *
    have e24 : m_I (zz μ1) (40, 0, 0) 24 = nI (q + 1) := by rw [zz_f (by decide) (by decide), sm_I hs0 (by omega), hIR]; exact i10.2.1
    have hne : ¬ nI (q + 1) = 0 := nI_ne0 (by omega) (by omega)
    have hcp := r_copy (ν := zz μ1) (a := q + 1) (b := 0) hR1 (by omega) (by omega) (by omega)
    show m_e (fn_M_back (some (40, 0, 0)) μ1) _
    unfold fn_M_back
    rw [r_pre hR1, r_gI (show RefP (zz μ1) from hR1), e24, ap_ite, if_neg hne, r_gI (show RefP (zz μ1) from hR1), e24]
    refine e_bd hcp ?_
    rintro - ν1 ⟨b1, b2, b3⟩
    have hR2 := sm_R b1 (show RefP (zz μ1) from hR1)
    rw [r_gI hR2, sm_I b1 (by omega), e24, hs1, r_pI hR2, r_gI (show RefP (m_sI ν1 (40, 0, 0) 24 (nI q)) from hR2), I_row, ud_at]
    refine ⟨_, _, rfl, rfl, made, q, (fun j => fa (sw 0 (2 + q) j)), (fun j => if j = 0 then pa 0 else pa (sw 0 (2 + q) (j - 1) + 1)), ?_⟩
    have hz : sm (fun x _ _ k => x = 40 ∧ k < 2) μ1 (zz μ1) := sm_sI (sm_sI sm_rf _ (by omega)) _ (by omega)
    have hs : sm (fun x _ _ k => (x = 1 ∧ (k = 0 ∨ k = 9)) ∨ (x = 40 ∧ (k < 2 ∨ k = 24)) ∨ (x = 45 ∧ k < 377) ∨ (x = 48 ∧ k < 14)) μR (m_sI ν1 (40, 0, 0) 24 (nI q)) := sm_tr (sm_mono hs0 (by omega)) (sm_tr (sm_mono hz (by omega)) (sm_sI (sm_mono b1 (by omega)) _ (by omega)))
    have hI40 : m_I (m_sI ν1 (40, 0, 0) 24 (nI q)) (40, 0, 0) 0 = 0 := by
      rw [I_row, ud_ne (by decide), sm_I b1 (by omega)]
      exact zz_0
    have hI1 : m_I (m_sI ν1 (40, 0, 0) 24 (nI q)) (1, 0, 0) 0 = 0 ∧ m_I (m_sI ν1 (40, 0, 0) 24 (nI q)) (1, 0, 0) 9 = nI q := by
      rw [I_ne _ rfl, sm_I b1 (by omega), sm_I b1 (by omega), zz_I rfl, ← hμ1]
      exact ⟨by rw [I_row, ud_ne (by decide), I_row, ud_at], by rw [I_row, ud_at]⟩
    have hc45 : ∀ k, k < 377 → cR (m_sI ν1 (40, 0, 0) 24 (nI q)) k = cB (cR μ) (q + 1) k := fun k hk => by
      show m_I (m_sI ν1 (40, 0, 0) 24 (nI q)) (45, 0, 0) k = m_I μ (45, 0, 0) (377 * (q + 1) + k)
      have := b2 k hk
      rw [Nat.mul_zero, Nat.zero_add] at this
      rw [I_ne _ rfl, this, zz_I rfl, sm_I hs0 (by omega), hIR]
    have hw48 : ∀ k, k < 14 → wR (m_sI ν1 (40, 0, 0) 24 (nI q)) k = wB (wR μ) (q + 1) k := fun k hk => by
      show m_J ν1 (48, 0, 0) k = m_J μ (48, 0, 0) (14 * (q + 1) + k)
      have := b3 k hk
      rw [Nat.mul_zero, Nat.zero_add] at this
      rw [this, zz_J, sm_J hs0 (by omega), hJR]
    have hsw : ∀ i, i < q → sw 0 (2 + q) (2 + i) = 2 + i := fun i hi => by
      unfold sw
      rw [if_neg (by omega), if_neg (by omega)]
    obtain ⟨P', T', g1, g2, g3, g4⟩ := i10.2.2 q (by omega)
    have hFI : ∀ {f P T : Nat} {c : Nat → Int32} {w : Nat → Int64}, FamI μ f c w P T → FamI μR f c w P T := fun q => by
      rw [FamI_iff] at q ⊢
      rw [hIR, hJR]
      exact q
    have hPI : ∀ {g P T : Nat} {c : Nat → Int32}, PlanI μ g c P T → PlanI μR g c P T := fun q => by
      unfold PlanI at q ⊢
      rw [hIR]
      exact q
    refine ⟨P', T', ⟨ptr_sm ⟨hp', Nat.le_of_lt hqm⟩ hs, ?_, ?_, ?_, ?_, ?_, ?_, ?_, ?_, ?_⟩⟩
    · exact hI1.1.trans hI40.symm
    · exact Fra_sm (μ := μR) (by unfold Fra; rw [hJR]; exact i3) hs (by omega) (by omega) (by omega) (by omega)
    · exact Tra_sm (μ := μR) (by unfold Tra; rw [hIR, hJR]; exact i4) hs (by omega) (by omega) (by omega)
    · exact Tap_sm (μ := μR) (by unfold Tap; rw [hIR]; exact i5) hs (by omega) (by omega) (by omega) (by omega)
    · exact Fau_sm (μ := μR) (by unfold Fau; rw [hIR]; exact i6) hs (by omega) (by omega) (by omega) (by omega)
    · exact Liv_sm (μ := μR) (by unfold Liv; rw [hIR]; exact i7) hs (by omega) (by omega) (by omega) (by omega)
    · have hc' : ∀ k, k < 105 → cR (m_sI ν1 (40, 0, 0) 24 (nI q)) k = cB (cR μ) (q + 1) k := fun k hk => hc45 k (by omega)
      exact ⟨FamI_c (FamI_sm (hFI g1) hs (by omega)) g2.2.2.1 g2.2.2.2 hc' hw48, Dim_c hc' g2, Okc_c g2.2.2.1 g2.2.2.2 hc' g3⟩
    · have e1 : (if (1 : Nat) = 0 then pa 0 else pa (sw 0 (2 + q) (1 - 1) + 1)) = pa (3 + q) := by
        rw [if_neg (by decide)]
        show pa (2 + q + 1) = _
        congr 1
        omega
      simp only [e1]
      exact PlanI_c (fun k _ hk => hc45 k hk) (PlanI_sm (hPI g4) hs (by omega) (by omega))
    · refine ⟨hI1.2, by rw [I_row, ud_at], fun i hi => ?_⟩
      obtain ⟨P2, T2, k1, k2, k3, k4⟩ := i10.2.2 i (by omega)
      have hc : ∀ k, k < 377 → cB (cR (m_sI ν1 (40, 0, 0) 24 (nI q))) (i + 1) k = cB (cR μ) (i + 1) k := fun k hk => by
        show m_I _ (45, 0, 0) (377 * (i + 1) + k) = m_I μ (45, 0, 0) (377 * (i + 1) + k)
        rw [sm_I hs (by omega), hIR]
      have hw : ∀ k, k < 14 → wB (wR (m_sI ν1 (40, 0, 0) 24 (nI q))) (i + 1) k = wB (wR μ) (i + 1) k := fun k hk => by
        show m_J _ (48, 0, 0) (14 * (i + 1) + k) = m_J μ (48, 0, 0) (14 * (i + 1) + k)
        rw [sm_J hs (by omega), hJR]
      have hc' : ∀ k, k < 105 → cB (cR (m_sI ν1 (40, 0, 0) 24 (nI q))) (i + 1) k = cB (cR μ) (i + 1) k := fun k hk => hc k (by omega)
      refine ⟨P2, T2, ?_, Dim_c hc' k2, Okc_c k2.2.2.1 k2.2.2.2 hc' k3, ?_⟩
      · simp only [hsw i hi]
        exact FamI_c (FamI_sm (hFI k1) hs (by omega)) k2.2.2.1 k2.2.2.2 hc' hw
      · have e1 : (if 3 + i = 0 then pa 0 else pa (sw 0 (2 + q) (3 + i - 1) + 1)) = pa (3 + i) := by
          rw [if_neg (by omega), show 3 + i - 1 = 2 + i by omega, hsw i hi]
          congr 1
          omega
        simp only [e1]
        exact PlanI_c (fun k _ hk => hc k hk) (PlanI_sm (hPI k4) hs (by omega) (by omega))
end CB
