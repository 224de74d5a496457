/-! Part 69x: stable keepings counted, on the reference's side; the call -/
section RB
variable {ν : mM} {P T : Nat} {c : Nat → Int32} {kp : Nat → Int32}
set_option maxHeartbeats 200000 in
theorem r_love (hR : RefP ν) (hcν : m_I ν (45, 0, 0) = c) (hD : Dim c P T) (hO : Okc c P T) {p i : Nat} (hp : p < P) (hi : i < 8) : fn_M_loveOf (some (40, 0, 0)) (nI p) (nI i) ν = some (nI (lvv c p i), ν) := by
  have h := r_loveOf (μ := ν) (p := p) hR (by have := hD.2.2.1; omega) hi
  rw [show cR ν (57 + 8 * p + i) = nI (lvv c p i) by rw [cR, hcν, lvv_eq hO hp hi]] at h
  exact h
set_option maxHeartbeats 200000 in
theorem r_wouldTake (hR : RefP ν) (hcν : m_I ν (45, 0, 0) = c) (hD : Dim c P T) (hO : Okc c P T) (hK : ∀ k, k < P → m_I ν (51, 0, 0) k = kp k) {q p t : Nat} (hq : q < 2 ^ P) (hp : p < P) (ht : t < T) : fn_M_wouldTake (some (40, 0, 0)) (nI q) (nI p) (nI t) ν = some (if tk c (krOf q.testBit P kp) p t = true then 1 else 0, ν) := by
  obtain ⟨hP0, hT0, hP6, hT8⟩ := id hD
  have h64 : 2 ^ P ≤ 2 ^ 8 := Nat.pow_le_pow_right (by omega) (by omega)
  have hq256 : q < 256 := by omega
  have e0 : m_I ν (45, 0, 0) 0 = nI P := by rw [hcν]; exact hP0
  obtain ⟨f1, f2, f3⟩ := fp_sp (W := kpW q.testBit kp t) P
  have hl : m_lp (fn_M_wouldTake_l3 (some (40, 0, 0)) (nI q) (nI p) (nI t)) m_F 0 ν = some (if tk c (krOf q.testBit P kp) p t = true then 1 else 0, ν) := by
    refine lp_nat (body := fn_M_wouldTake_l3 (some (40, 0, 0)) (nI q) (nI p) (nI t)) (fun i => nI i) (fun _ => ν) (fp (kpW q.testBit kp t) P) (fun i hi => ?_) ?_ (by have := F_gt; omega)
    · have hiP : i < P := by omega
      have hge := nI_ge hiP (show P < 2 ^ 31 by omega)
      have hi6 : i < 6 := by omega
      have hi8 : i < 8 := by omega
      have hW := f3 i hi
      have e51 := hK i hiP
      unfold fn_M_wouldTake_l3
      by_cases z1 : q.testBit i = true
      · unfold kpW at hW
        rw [z1] at hW
        have z2 : (kp i = nI t) = False := eq_false (of_decide_eq_false hW)
        simp (disch := first | exact hi6 | first | exact hC | exact hP | exact hR | ((repeat first | apply ClsP_sI | apply ClsP_sJ | apply ClsP_rI | apply ClsP_rJ | apply ClsP_rY); exact hC) | ((repeat first | apply FamP_sI | apply FamP_sJ | apply FamP_rI | apply FamP_rJ | apply FamP_rY); exact hP) | ((repeat first | apply RefP_sI | apply RefP_sJ | apply RefP_rI | apply RefP_rJ | apply RefP_rY); exact hR) | ((repeat first | apply PlanP_sI | apply PlanP_sJ | apply PlanP_rI | apply PlanP_rJ | apply PlanP_rY); exact hL) | omega) only [↓r_thb, ↓r_th, ↓r_gI, ↓r_gJ, ↓r_pI, ↓r_pJ, ↓r_g41, ↓r_g42, ↓r_g43, ↓r_g44, ↓r_g45, ↓r_g46, ↓r_g47, ↓r_g48, ↓r_g49, ↓r_g50, ↓r_g51, ↓r_g52, ↓r_g53, ↓r_g54, ↓r_g55, ↓r_g56, ↓r_g57, ↓r_g58, ↓r_a41, ↓r_a42, ↓r_a43, ↓r_a44, ↓r_a45, ↓r_a46, ↓r_a47, ↓r_a48, ↓r_a49, ↓r_a50, ↓r_a51, ↓r_a52, ↓r_a53, ↓r_a54, ↓r_a55, ↓r_a56, ↓r_a57, ↓r_a58, ↓r_t41, ↓r_t42, ↓r_t43, ↓r_t44, ↓r_t45, ↓r_t46, ↓r_t47, ↓r_t48, ↓r_t49, ↓r_t50, ↓r_t51, ↓r_t52, ↓r_t53, ↓r_t54, ↓r_t55, ↓r_t56, ↓r_t57, ↓r_t58, ↓r_l43_0, ↓r_l45_0, ↓r_l45_1, ↓r_l45_2, ↓r_l45_3, ↓r_l45_4, ↓r_l45_5, ↓r_l45_6, ↓r_l45_105, ↓r_l45_106, ↓r_l45_1508, ↓r_l45_1509, ↓r_tl45_0, ↓r_tl45_1, ↓r_tl45_2, ↓r_tl45_3, ↓r_tl45_4, ↓r_tl45_5, ↓r_tl45_6, ↓r_tl45_105, ↓r_tl45_106, ↓r_tl45_1508, ↓r_tl45_1509, ↓r_l48_0, ↓r_l56_0, ↓r_l57_0, ↓r_tl58_0, ↓r_tl58_1, ↓r_tl58_2, ↓r_tl58_3, ↓r_tl58_4, ↓bd_bd, ↓bd_rt, r_thb, r_th, r_gI, r_gJ, r_pI, r_pJ, r_g41, r_g42, r_g43, r_g44, r_g45, r_g46, r_g47, r_g48, r_g49, r_g50, r_g51, r_g52, r_g53, r_g54, r_g55, r_g56, r_g57, r_g58, r_a41, r_a42, r_a43, r_a44, r_a45, r_a46, r_a47, r_a48, r_a49, r_a50, r_a51, r_a52, r_a53, r_a54, r_a55, r_a56, r_a57, r_a58, r_t41, r_t42, r_t43, r_t44, r_t45, r_t46, r_t47, r_t48, r_t49, r_t50, r_t51, r_t52, r_t53, r_t54, r_t55, r_t56, r_t57, r_t58, r_l43_0, r_l45_0, r_l45_1, r_l45_2, r_l45_3, r_l45_4, r_l45_5, r_l45_6, r_l45_105, r_l45_106, r_l45_1508, r_l45_1509, r_tl45_0, r_tl45_1, r_tl45_2, r_tl45_3, r_tl45_4, r_tl45_5, r_tl45_6, r_tl45_105, r_tl45_106, r_tl45_1508, r_tl45_1509, r_l48_0, r_l56_0, r_l57_0, r_tl58_0, r_tl58_1, r_tl58_2, r_tl58_3, r_tl58_4, la_1, lm_1, la_2, lm_2, la_3, lm_3, la_6, lm_6, la_7, lm_7, la_8, lm_8, la_13, lm_13, la_19, lm_19, la_25, lm_25, la_33, lm_33, la_41, lm_41, la_49, lm_49, la_57, lm_57, la_60, lm_60, la_105, lm_105, la_107, lm_107, la_1508, lm_1508, la_96, lm_96, la_377, lm_377, la_1509, lm_1509, ↓reduceIte, ↓ap_ite, ↓bd_ite, bd_bd, bd_rt, ap_rt, ite_some, nI_add, nI_1, nz_1, nz_2, nz_3, nz_4, nz_5, nz_6, nz_7, nz_8, nz_9, nz_10, nz_11, nz_12, nz_m1, z_eq, if_true, if_false, e_some, ite_self, e0, hge, ↓r_has hq256 hi8, z1, e51, z2]
      · simp (disch := first | exact hi6 | first | exact hC | exact hP | exact hR | ((repeat first | apply ClsP_sI | apply ClsP_sJ | apply ClsP_rI | apply ClsP_rJ | apply ClsP_rY); exact hC) | ((repeat first | apply FamP_sI | apply FamP_sJ | apply FamP_rI | apply FamP_rJ | apply FamP_rY); exact hP) | ((repeat first | apply RefP_sI | apply RefP_sJ | apply RefP_rI | apply RefP_rJ | apply RefP_rY); exact hR) | ((repeat first | apply PlanP_sI | apply PlanP_sJ | apply PlanP_rI | apply PlanP_rJ | apply PlanP_rY); exact hL) | omega) only [↓r_thb, ↓r_th, ↓r_gI, ↓r_gJ, ↓r_pI, ↓r_pJ, ↓r_g41, ↓r_g42, ↓r_g43, ↓r_g44, ↓r_g45, ↓r_g46, ↓r_g47, ↓r_g48, ↓r_g49, ↓r_g50, ↓r_g51, ↓r_g52, ↓r_g53, ↓r_g54, ↓r_g55, ↓r_g56, ↓r_g57, ↓r_g58, ↓r_a41, ↓r_a42, ↓r_a43, ↓r_a44, ↓r_a45, ↓r_a46, ↓r_a47, ↓r_a48, ↓r_a49, ↓r_a50, ↓r_a51, ↓r_a52, ↓r_a53, ↓r_a54, ↓r_a55, ↓r_a56, ↓r_a57, ↓r_a58, ↓r_t41, ↓r_t42, ↓r_t43, ↓r_t44, ↓r_t45, ↓r_t46, ↓r_t47, ↓r_t48, ↓r_t49, ↓r_t50, ↓r_t51, ↓r_t52, ↓r_t53, ↓r_t54, ↓r_t55, ↓r_t56, ↓r_t57, ↓r_t58, ↓r_l43_0, ↓r_l45_0, ↓r_l45_1, ↓r_l45_2, ↓r_l45_3, ↓r_l45_4, ↓r_l45_5, ↓r_l45_6, ↓r_l45_105, ↓r_l45_106, ↓r_l45_1508, ↓r_l45_1509, ↓r_tl45_0, ↓r_tl45_1, ↓r_tl45_2, ↓r_tl45_3, ↓r_tl45_4, ↓r_tl45_5, ↓r_tl45_6, ↓r_tl45_105, ↓r_tl45_106, ↓r_tl45_1508, ↓r_tl45_1509, ↓r_l48_0, ↓r_l56_0, ↓r_l57_0, ↓r_tl58_0, ↓r_tl58_1, ↓r_tl58_2, ↓r_tl58_3, ↓r_tl58_4, ↓bd_bd, ↓bd_rt, r_thb, r_th, r_gI, r_gJ, r_pI, r_pJ, r_g41, r_g42, r_g43, r_g44, r_g45, r_g46, r_g47, r_g48, r_g49, r_g50, r_g51, r_g52, r_g53, r_g54, r_g55, r_g56, r_g57, r_g58, r_a41, r_a42, r_a43, r_a44, r_a45, r_a46, r_a47, r_a48, r_a49, r_a50, r_a51, r_a52, r_a53, r_a54, r_a55, r_a56, r_a57, r_a58, r_t41, r_t42, r_t43, r_t44, r_t45, r_t46, r_t47, r_t48, r_t49, r_t50, r_t51, r_t52, r_t53, r_t54, r_t55, r_t56, r_t57, r_t58, r_l43_0, r_l45_0, r_l45_1, r_l45_2, r_l45_3, r_l45_4, r_l45_5, r_l45_6, r_l45_105, r_l45_106, r_l45_1508, r_l45_1509, r_tl45_0, r_tl45_1, r_tl45_2, r_tl45_3, r_tl45_4, r_tl45_5, r_tl45_6, r_tl45_105, r_tl45_106, r_tl45_1508, r_tl45_1509, r_l48_0, r_l56_0, r_l57_0, r_tl58_0, r_tl58_1, r_tl58_2, r_tl58_3, r_tl58_4, la_1, lm_1, la_2, lm_2, la_3, lm_3, la_6, lm_6, la_7, lm_7, la_8, lm_8, la_13, lm_13, la_19, lm_19, la_25, lm_25, la_33, lm_33, la_41, lm_41, la_49, lm_49, la_57, lm_57, la_60, lm_60, la_105, lm_105, la_107, lm_107, la_1508, lm_1508, la_96, lm_96, la_377, lm_377, la_1509, lm_1509, ↓reduceIte, ↓ap_ite, ↓bd_ite, bd_bd, bd_rt, ap_rt, ite_some, nI_add, nI_1, nz_1, nz_2, nz_3, nz_4, nz_5, nz_6, nz_7, nz_8, nz_9, nz_10, nz_11, nz_12, nz_m1, z_eq, if_true, if_false, e_some, ite_self, e0, hge, ↓r_has hq256 hi8, eq_false z1]
    · unfold fn_M_wouldTake_l3 tk
      by_cases z : fp (kpW q.testBit kp t) P < P
      · have hW := f2 z
        rw [show krOf q.testBit P kp t = nI (fp (kpW q.testBit kp t) P) from if_pos z]
        generalize fp (kpW q.testBit kp t) P = i at *
        unfold kpW at hW
        rw [Bool.and_eq_true] at hW
        obtain ⟨z1, z2⟩ := hW
        have z2 := of_decide_eq_true z2
        have hge := nI_ge z (show P < 2 ^ 31 by omega)
        have hi6 : i < 6 := by omega
        have hi8 : i < 8 := by omega
        have ht8 : t < 8 := by omega
        have e51 := hK i z
        rw [z2] at e51
        have h1 := r_love hR hcν hD hO z ht8
        have h2 := r_love hR hcν hD hO hp ht8
        have hl1 := lvv_le c i t
        have hl2 := lvv_le c p t
        have hle : (nI (lvv c i t) ≤ nI (lvv c p t)) = (lvv c i t ≤ lvv c p t) := nI_leq (by omega) (by omega)
        rw [nI_clamp (by omega), decide_eq_false (nI_m1 (show i < 2 ^ 31 by omega)), Bool.false_or]
        by_cases y : lvv c i t ≤ lvv c p t
        · have hle' := hle.trans (eq_true y)
          rw [decide_eq_false (by omega)]
          simp (disch := first | exact hi6 | first | exact hC | exact hP | exact hR | ((repeat first | apply ClsP_sI | apply ClsP_sJ | apply ClsP_rI | apply ClsP_rJ | apply ClsP_rY); exact hC) | ((repeat first | apply FamP_sI | apply FamP_sJ | apply FamP_rI | apply FamP_rJ | apply FamP_rY); exact hP) | ((repeat first | apply RefP_sI | apply RefP_sJ | apply RefP_rI | apply RefP_rJ | apply RefP_rY); exact hR) | ((repeat first | apply PlanP_sI | apply PlanP_sJ | apply PlanP_rI | apply PlanP_rJ | apply PlanP_rY); exact hL) | omega) only [↓r_thb, ↓r_th, ↓r_gI, ↓r_gJ, ↓r_pI, ↓r_pJ, ↓r_g41, ↓r_g42, ↓r_g43, ↓r_g44, ↓r_g45, ↓r_g46, ↓r_g47, ↓r_g48, ↓r_g49, ↓r_g50, ↓r_g51, ↓r_g52, ↓r_g53, ↓r_g54, ↓r_g55, ↓r_g56, ↓r_g57, ↓r_g58, ↓r_a41, ↓r_a42, ↓r_a43, ↓r_a44, ↓r_a45, ↓r_a46, ↓r_a47, ↓r_a48, ↓r_a49, ↓r_a50, ↓r_a51, ↓r_a52, ↓r_a53, ↓r_a54, ↓r_a55, ↓r_a56, ↓r_a57, ↓r_a58, ↓r_t41, ↓r_t42, ↓r_t43, ↓r_t44, ↓r_t45, ↓r_t46, ↓r_t47, ↓r_t48, ↓r_t49, ↓r_t50, ↓r_t51, ↓r_t52, ↓r_t53, ↓r_t54, ↓r_t55, ↓r_t56, ↓r_t57, ↓r_t58, ↓r_l43_0, ↓r_l45_0, ↓r_l45_1, ↓r_l45_2, ↓r_l45_3, ↓r_l45_4, ↓r_l45_5, ↓r_l45_6, ↓r_l45_105, ↓r_l45_106, ↓r_l45_1508, ↓r_l45_1509, ↓r_tl45_0, ↓r_tl45_1, ↓r_tl45_2, ↓r_tl45_3, ↓r_tl45_4, ↓r_tl45_5, ↓r_tl45_6, ↓r_tl45_105, ↓r_tl45_106, ↓r_tl45_1508, ↓r_tl45_1509, ↓r_l48_0, ↓r_l56_0, ↓r_l57_0, ↓r_tl58_0, ↓r_tl58_1, ↓r_tl58_2, ↓r_tl58_3, ↓r_tl58_4, ↓bd_bd, ↓bd_rt, r_thb, r_th, r_gI, r_gJ, r_pI, r_pJ, r_g41, r_g42, r_g43, r_g44, r_g45, r_g46, r_g47, r_g48, r_g49, r_g50, r_g51, r_g52, r_g53, r_g54, r_g55, r_g56, r_g57, r_g58, r_a41, r_a42, r_a43, r_a44, r_a45, r_a46, r_a47, r_a48, r_a49, r_a50, r_a51, r_a52, r_a53, r_a54, r_a55, r_a56, r_a57, r_a58, r_t41, r_t42, r_t43, r_t44, r_t45, r_t46, r_t47, r_t48, r_t49, r_t50, r_t51, r_t52, r_t53, r_t54, r_t55, r_t56, r_t57, r_t58, r_l43_0, r_l45_0, r_l45_1, r_l45_2, r_l45_3, r_l45_4, r_l45_5, r_l45_6, r_l45_105, r_l45_106, r_l45_1508, r_l45_1509, r_tl45_0, r_tl45_1, r_tl45_2, r_tl45_3, r_tl45_4, r_tl45_5, r_tl45_6, r_tl45_105, r_tl45_106, r_tl45_1508, r_tl45_1509, r_l48_0, r_l56_0, r_l57_0, r_tl58_0, r_tl58_1, r_tl58_2, r_tl58_3, r_tl58_4, la_1, lm_1, la_2, lm_2, la_3, lm_3, la_6, lm_6, la_7, lm_7, la_8, lm_8, la_13, lm_13, la_19, lm_19, la_25, lm_25, la_33, lm_33, la_41, lm_41, la_49, lm_49, la_57, lm_57, la_60, lm_60, la_105, lm_105, la_107, lm_107, la_1508, lm_1508, la_96, lm_96, la_377, lm_377, la_1509, lm_1509, ↓reduceIte, ↓ap_ite, ↓bd_ite, bd_bd, bd_rt, ap_rt, ite_some, nI_add, nI_1, nz_1, nz_2, nz_3, nz_4, nz_5, nz_6, nz_7, nz_8, nz_9, nz_10, nz_11, nz_12, nz_m1, z_eq, if_true, if_false, e_some, ite_self, e0, hge, ↓r_has hq256 hi8, z1, e51, ↓bd_of h1, ↓bd_of h2, hle', (show ((false : Bool) = true) = False by simp)]
        · have hle' := hle.trans (eq_false y)
          rw [decide_eq_true (by omega)]
          simp (disch := first | exact hi6 | first | exact hC | exact hP | exact hR | ((repeat first | apply ClsP_sI | apply ClsP_sJ | apply ClsP_rI | apply ClsP_rJ | apply ClsP_rY); exact hC) | ((repeat first | apply FamP_sI | apply FamP_sJ | apply FamP_rI | apply FamP_rJ | apply FamP_rY); exact hP) | ((repeat first | apply RefP_sI | apply RefP_sJ | apply RefP_rI | apply RefP_rJ | apply RefP_rY); exact hR) | ((repeat first | apply PlanP_sI | apply PlanP_sJ | apply PlanP_rI | apply PlanP_rJ | apply PlanP_rY); exact hL) | omega) only [↓r_thb, ↓r_th, ↓r_gI, ↓r_gJ, ↓r_pI, ↓r_pJ, ↓r_g41, ↓r_g42, ↓r_g43, ↓r_g44, ↓r_g45, ↓r_g46, ↓r_g47, ↓r_g48, ↓r_g49, ↓r_g50, ↓r_g51, ↓r_g52, ↓r_g53, ↓r_g54, ↓r_g55, ↓r_g56, ↓r_g57, ↓r_g58, ↓r_a41, ↓r_a42, ↓r_a43, ↓r_a44, ↓r_a45, ↓r_a46, ↓r_a47, ↓r_a48, ↓r_a49, ↓r_a50, ↓r_a51, ↓r_a52, ↓r_a53, ↓r_a54, ↓r_a55, ↓r_a56, ↓r_a57, ↓r_a58, ↓r_t41, ↓r_t42, ↓r_t43, ↓r_t44, ↓r_t45, ↓r_t46, ↓r_t47, ↓r_t48, ↓r_t49, ↓r_t50, ↓r_t51, ↓r_t52, ↓r_t53, ↓r_t54, ↓r_t55, ↓r_t56, ↓r_t57, ↓r_t58, ↓r_l43_0, ↓r_l45_0, ↓r_l45_1, ↓r_l45_2, ↓r_l45_3, ↓r_l45_4, ↓r_l45_5, ↓r_l45_6, ↓r_l45_105, ↓r_l45_106, ↓r_l45_1508, ↓r_l45_1509, ↓r_tl45_0, ↓r_tl45_1, ↓r_tl45_2, ↓r_tl45_3, ↓r_tl45_4, ↓r_tl45_5, ↓r_tl45_6, ↓r_tl45_105, ↓r_tl45_106, ↓r_tl45_1508, ↓r_tl45_1509, ↓r_l48_0, ↓r_l56_0, ↓r_l57_0, ↓r_tl58_0, ↓r_tl58_1, ↓r_tl58_2, ↓r_tl58_3, ↓r_tl58_4, ↓bd_bd, ↓bd_rt, r_thb, r_th, r_gI, r_gJ, r_pI, r_pJ, r_g41, r_g42, r_g43, r_g44, r_g45, r_g46, r_g47, r_g48, r_g49, r_g50, r_g51, r_g52, r_g53, r_g54, r_g55, r_g56, r_g57, r_g58, r_a41, r_a42, r_a43, r_a44, r_a45, r_a46, r_a47, r_a48, r_a49, r_a50, r_a51, r_a52, r_a53, r_a54, r_a55, r_a56, r_a57, r_a58, r_t41, r_t42, r_t43, r_t44, r_t45, r_t46, r_t47, r_t48, r_t49, r_t50, r_t51, r_t52, r_t53, r_t54, r_t55, r_t56, r_t57, r_t58, r_l43_0, r_l45_0, r_l45_1, r_l45_2, r_l45_3, r_l45_4, r_l45_5, r_l45_6, r_l45_105, r_l45_106, r_l45_1508, r_l45_1509, r_tl45_0, r_tl45_1, r_tl45_2, r_tl45_3, r_tl45_4, r_tl45_5, r_tl45_6, r_tl45_105, r_tl45_106, r_tl45_1508, r_tl45_1509, r_l48_0, r_l56_0, r_l57_0, r_tl58_0, r_tl58_1, r_tl58_2, r_tl58_3, r_tl58_4, la_1, lm_1, la_2, lm_2, la_3, lm_3, la_6, lm_6, la_7, lm_7, la_8, lm_8, la_13, lm_13, la_19, lm_19, la_25, lm_25, la_33, lm_33, la_41, lm_41, la_49, lm_49, la_57, lm_57, la_60, lm_60, la_105, lm_105, la_107, lm_107, la_1508, lm_1508, la_96, lm_96, la_377, lm_377, la_1509, lm_1509, ↓reduceIte, ↓ap_ite, ↓bd_ite, bd_bd, bd_rt, ap_rt, ite_some, nI_add, nI_1, nz_1, nz_2, nz_3, nz_4, nz_5, nz_6, nz_7, nz_8, nz_9, nz_10, nz_11, nz_12, nz_m1, z_eq, if_true, if_false, e_some, ite_self, e0, hge, ↓r_has hq256 hi8, z1, e51, ↓bd_of h1, ↓bd_of h2, hle']
      · have e : fp (kpW q.testBit kp t) P = P := by omega
        rw [show krOf q.testBit P kp t = -1 from if_neg z, e, decide_eq_true rfl, Bool.true_or]
        simp (disch := first | exact hC | exact hP | exact hR | ((repeat first | apply ClsP_sI | apply ClsP_sJ | apply ClsP_rI | apply ClsP_rJ | apply ClsP_rY); exact hC) | ((repeat first | apply FamP_sI | apply FamP_sJ | apply FamP_rI | apply FamP_rJ | apply FamP_rY); exact hP) | ((repeat first | apply RefP_sI | apply RefP_sJ | apply RefP_rI | apply RefP_rJ | apply RefP_rY); exact hR) | ((repeat first | apply PlanP_sI | apply PlanP_sJ | apply PlanP_rI | apply PlanP_rJ | apply PlanP_rY); exact hL) | omega) only [↓r_thb, ↓r_th, ↓r_gI, ↓r_gJ, ↓r_pI, ↓r_pJ, ↓r_g41, ↓r_g42, ↓r_g43, ↓r_g44, ↓r_g45, ↓r_g46, ↓r_g47, ↓r_g48, ↓r_g49, ↓r_g50, ↓r_g51, ↓r_g52, ↓r_g53, ↓r_g54, ↓r_g55, ↓r_g56, ↓r_g57, ↓r_g58, ↓r_a41, ↓r_a42, ↓r_a43, ↓r_a44, ↓r_a45, ↓r_a46, ↓r_a47, ↓r_a48, ↓r_a49, ↓r_a50, ↓r_a51, ↓r_a52, ↓r_a53, ↓r_a54, ↓r_a55, ↓r_a56, ↓r_a57, ↓r_a58, ↓r_t41, ↓r_t42, ↓r_t43, ↓r_t44, ↓r_t45, ↓r_t46, ↓r_t47, ↓r_t48, ↓r_t49, ↓r_t50, ↓r_t51, ↓r_t52, ↓r_t53, ↓r_t54, ↓r_t55, ↓r_t56, ↓r_t57, ↓r_t58, ↓r_l43_0, ↓r_l45_0, ↓r_l45_1, ↓r_l45_2, ↓r_l45_3, ↓r_l45_4, ↓r_l45_5, ↓r_l45_6, ↓r_l45_105, ↓r_l45_106, ↓r_l45_1508, ↓r_l45_1509, ↓r_tl45_0, ↓r_tl45_1, ↓r_tl45_2, ↓r_tl45_3, ↓r_tl45_4, ↓r_tl45_5, ↓r_tl45_6, ↓r_tl45_105, ↓r_tl45_106, ↓r_tl45_1508, ↓r_tl45_1509, ↓r_l48_0, ↓r_l56_0, ↓r_l57_0, ↓r_tl58_0, ↓r_tl58_1, ↓r_tl58_2, ↓r_tl58_3, ↓r_tl58_4, ↓bd_bd, ↓bd_rt, r_thb, r_th, r_gI, r_gJ, r_pI, r_pJ, r_g41, r_g42, r_g43, r_g44, r_g45, r_g46, r_g47, r_g48, r_g49, r_g50, r_g51, r_g52, r_g53, r_g54, r_g55, r_g56, r_g57, r_g58, r_a41, r_a42, r_a43, r_a44, r_a45, r_a46, r_a47, r_a48, r_a49, r_a50, r_a51, r_a52, r_a53, r_a54, r_a55, r_a56, r_a57, r_a58, r_t41, r_t42, r_t43, r_t44, r_t45, r_t46, r_t47, r_t48, r_t49, r_t50, r_t51, r_t52, r_t53, r_t54, r_t55, r_t56, r_t57, r_t58, r_l43_0, r_l45_0, r_l45_1, r_l45_2, r_l45_3, r_l45_4, r_l45_5, r_l45_6, r_l45_105, r_l45_106, r_l45_1508, r_l45_1509, r_tl45_0, r_tl45_1, r_tl45_2, r_tl45_3, r_tl45_4, r_tl45_5, r_tl45_6, r_tl45_105, r_tl45_106, r_tl45_1508, r_tl45_1509, r_l48_0, r_l56_0, r_l57_0, r_tl58_0, r_tl58_1, r_tl58_2, r_tl58_3, r_tl58_4, la_1, lm_1, la_2, lm_2, la_3, lm_3, la_6, lm_6, la_7, lm_7, la_8, lm_8, la_13, lm_13, la_19, lm_19, la_25, lm_25, la_33, lm_33, la_41, lm_41, la_49, lm_49, la_57, lm_57, la_60, lm_60, la_105, lm_105, la_107, lm_107, la_1508, lm_1508, la_96, lm_96, la_377, lm_377, la_1509, lm_1509, ↓reduceIte, ↓ap_ite, ↓bd_ite, bd_bd, bd_rt, ap_rt, ite_some, nI_add, nI_1, nz_1, nz_2, nz_3, nz_4, nz_5, nz_6, nz_7, nz_8, nz_9, nz_10, nz_11, nz_12, nz_m1, z_eq, if_true, if_false, e_some, ite_self, e0, Int32.le_refl (nI P)]
  unfold fn_M_wouldTake
  rw [r_th hR]
  exact hl
set_option maxHeartbeats 200000 in
theorem r_stIn (hR : RefP ν) (hcν : m_I ν (45, 0, 0) = c) (hD : Dim c P T) (hO : Okc c P T) (hK : ∀ k, k < P → m_I ν (51, 0, 0) k = kp k) {q p : Nat} (hq : q < 2 ^ P) (hp : p < P) : m_lp (fn_M_isStable_l51 (some (40, 0, 0)) (nI q) (nI p) (nI (kb c kp p))) m_F 0 ν = some (if chg c T kp (krOf q.testBit P kp) p = true then .inr 0 else .inl (nI (p + 1)), ν) := by
  obtain ⟨hP0, hT0, hP6, hT8⟩ := id hD
  have e1 : m_I ν (45, 0, 0) 1 = nI T := by rw [hcν]; exact hT0
  obtain ⟨f1, f2, f3⟩ := fp_sp (W := chW c kp (krOf q.testBit P kp) p) T
  have hkb : kb c kp p ≤ 9 := by
    unfold kb
    split
    · omega
    · exact lvv_le c p _
  refine lp_nat (body := fn_M_isStable_l51 (some (40, 0, 0)) (nI q) (nI p) (nI (kb c kp p))) (fun i => nI i) (fun _ => ν) (fp (chW c kp (krOf q.testBit P kp) p) T) (fun i hi => ?_) ?_ (by have := F_gt; omega)
  · have hiT : i < T := by omega
    have hi8 : i < 8 := by omega
    have hge := nI_ge hiT (show T < 2 ^ 31 by omega)
    have hW := f3 i hi
    have hlo := r_love hR hcν hD hO hp hi8
    have hlv := lvv_le c p i
    have hle : (nI (lvv c p i) ≤ nI (kb c kp p)) = (lvv c p i ≤ kb c kp p) := nI_leq (by omega) (by omega)
    have hth := r_isThrough (μ := ν) (t := i) hR hi8
    rw [show cR ν = c from hcν] at hth
    have hwt := r_wouldTake hR hcν hD hO hK hq hp hiT
    unfold fn_M_isStable_l51
    by_cases z2 : i_thr c i = 0
    · by_cases z1 : lvv c p i ≤ kb c kp p
      · have hle' := hle.trans (eq_true z1)
        simp (disch := first | exact hC | exact hP | exact hR | ((repeat first | apply ClsP_sI | apply ClsP_sJ | apply ClsP_rI | apply ClsP_rJ | apply ClsP_rY); exact hC) | ((repeat first | apply FamP_sI | apply FamP_sJ | apply FamP_rI | apply FamP_rJ | apply FamP_rY); exact hP) | ((repeat first | apply RefP_sI | apply RefP_sJ | apply RefP_rI | apply RefP_rJ | apply RefP_rY); exact hR) | ((repeat first | apply PlanP_sI | apply PlanP_sJ | apply PlanP_rI | apply PlanP_rJ | apply PlanP_rY); exact hL) | omega) only [↓r_thb, ↓r_th, ↓r_gI, ↓r_gJ, ↓r_pI, ↓r_pJ, ↓r_g41, ↓r_g42, ↓r_g43, ↓r_g44, ↓r_g45, ↓r_g46, ↓r_g47, ↓r_g48, ↓r_g49, ↓r_g50, ↓r_g51, ↓r_g52, ↓r_g53, ↓r_g54, ↓r_g55, ↓r_g56, ↓r_g57, ↓r_g58, ↓r_a41, ↓r_a42, ↓r_a43, ↓r_a44, ↓r_a45, ↓r_a46, ↓r_a47, ↓r_a48, ↓r_a49, ↓r_a50, ↓r_a51, ↓r_a52, ↓r_a53, ↓r_a54, ↓r_a55, ↓r_a56, ↓r_a57, ↓r_a58, ↓r_t41, ↓r_t42, ↓r_t43, ↓r_t44, ↓r_t45, ↓r_t46, ↓r_t47, ↓r_t48, ↓r_t49, ↓r_t50, ↓r_t51, ↓r_t52, ↓r_t53, ↓r_t54, ↓r_t55, ↓r_t56, ↓r_t57, ↓r_t58, ↓r_l43_0, ↓r_l45_0, ↓r_l45_1, ↓r_l45_2, ↓r_l45_3, ↓r_l45_4, ↓r_l45_5, ↓r_l45_6, ↓r_l45_105, ↓r_l45_106, ↓r_l45_1508, ↓r_l45_1509, ↓r_tl45_0, ↓r_tl45_1, ↓r_tl45_2, ↓r_tl45_3, ↓r_tl45_4, ↓r_tl45_5, ↓r_tl45_6, ↓r_tl45_105, ↓r_tl45_106, ↓r_tl45_1508, ↓r_tl45_1509, ↓r_l48_0, ↓r_l56_0, ↓r_l57_0, ↓r_tl58_0, ↓r_tl58_1, ↓r_tl58_2, ↓r_tl58_3, ↓r_tl58_4, ↓bd_bd, ↓bd_rt, r_thb, r_th, r_gI, r_gJ, r_pI, r_pJ, r_g41, r_g42, r_g43, r_g44, r_g45, r_g46, r_g47, r_g48, r_g49, r_g50, r_g51, r_g52, r_g53, r_g54, r_g55, r_g56, r_g57, r_g58, r_a41, r_a42, r_a43, r_a44, r_a45, r_a46, r_a47, r_a48, r_a49, r_a50, r_a51, r_a52, r_a53, r_a54, r_a55, r_a56, r_a57, r_a58, r_t41, r_t42, r_t43, r_t44, r_t45, r_t46, r_t47, r_t48, r_t49, r_t50, r_t51, r_t52, r_t53, r_t54, r_t55, r_t56, r_t57, r_t58, r_l43_0, r_l45_0, r_l45_1, r_l45_2, r_l45_3, r_l45_4, r_l45_5, r_l45_6, r_l45_105, r_l45_106, r_l45_1508, r_l45_1509, r_tl45_0, r_tl45_1, r_tl45_2, r_tl45_3, r_tl45_4, r_tl45_5, r_tl45_6, r_tl45_105, r_tl45_106, r_tl45_1508, r_tl45_1509, r_l48_0, r_l56_0, r_l57_0, r_tl58_0, r_tl58_1, r_tl58_2, r_tl58_3, r_tl58_4, la_1, lm_1, la_2, lm_2, la_3, lm_3, la_6, lm_6, la_7, lm_7, la_8, lm_8, la_13, lm_13, la_19, lm_19, la_25, lm_25, la_33, lm_33, la_41, lm_41, la_49, lm_49, la_57, lm_57, la_60, lm_60, la_105, lm_105, la_107, lm_107, la_1508, lm_1508, la_96, lm_96, la_377, lm_377, la_1509, lm_1509, ↓reduceIte, ↓ap_ite, ↓bd_ite, bd_bd, bd_rt, ap_rt, ite_some, nI_add, nI_1, nz_1, nz_2, nz_3, nz_4, nz_5, nz_6, nz_7, nz_8, nz_9, nz_10, nz_11, nz_12, nz_m1, z_eq, if_true, if_false, e_some, ite_self, e1, hge, ↓bd_of hth, z2, ↓bd_of hlo, hle']
      · have hle' := hle.trans (eq_false z1)
        have htk : tk c (krOf q.testBit P kp) p i = false := by
          unfold chW at hW
          rw [decide_eq_true z2, decide_eq_true (show kb c kp p < lvv c p i by omega)] at hW
          exact hW
        rw [htk] at hwt
        simp (disch := first | exact hC | exact hP | exact hR | ((repeat first | apply ClsP_sI | apply ClsP_sJ | apply ClsP_rI | apply ClsP_rJ | apply ClsP_rY); exact hC) | ((repeat first | apply FamP_sI | apply FamP_sJ | apply FamP_rI | apply FamP_rJ | apply FamP_rY); exact hP) | ((repeat first | apply RefP_sI | apply RefP_sJ | apply RefP_rI | apply RefP_rJ | apply RefP_rY); exact hR) | ((repeat first | apply PlanP_sI | apply PlanP_sJ | apply PlanP_rI | apply PlanP_rJ | apply PlanP_rY); exact hL) | omega) only [↓r_thb, ↓r_th, ↓r_gI, ↓r_gJ, ↓r_pI, ↓r_pJ, ↓r_g41, ↓r_g42, ↓r_g43, ↓r_g44, ↓r_g45, ↓r_g46, ↓r_g47, ↓r_g48, ↓r_g49, ↓r_g50, ↓r_g51, ↓r_g52, ↓r_g53, ↓r_g54, ↓r_g55, ↓r_g56, ↓r_g57, ↓r_g58, ↓r_a41, ↓r_a42, ↓r_a43, ↓r_a44, ↓r_a45, ↓r_a46, ↓r_a47, ↓r_a48, ↓r_a49, ↓r_a50, ↓r_a51, ↓r_a52, ↓r_a53, ↓r_a54, ↓r_a55, ↓r_a56, ↓r_a57, ↓r_a58, ↓r_t41, ↓r_t42, ↓r_t43, ↓r_t44, ↓r_t45, ↓r_t46, ↓r_t47, ↓r_t48, ↓r_t49, ↓r_t50, ↓r_t51, ↓r_t52, ↓r_t53, ↓r_t54, ↓r_t55, ↓r_t56, ↓r_t57, ↓r_t58, ↓r_l43_0, ↓r_l45_0, ↓r_l45_1, ↓r_l45_2, ↓r_l45_3, ↓r_l45_4, ↓r_l45_5, ↓r_l45_6, ↓r_l45_105, ↓r_l45_106, ↓r_l45_1508, ↓r_l45_1509, ↓r_tl45_0, ↓r_tl45_1, ↓r_tl45_2, ↓r_tl45_3, ↓r_tl45_4, ↓r_tl45_5, ↓r_tl45_6, ↓r_tl45_105, ↓r_tl45_106, ↓r_tl45_1508, ↓r_tl45_1509, ↓r_l48_0, ↓r_l56_0, ↓r_l57_0, ↓r_tl58_0, ↓r_tl58_1, ↓r_tl58_2, ↓r_tl58_3, ↓r_tl58_4, ↓bd_bd, ↓bd_rt, r_thb, r_th, r_gI, r_gJ, r_pI, r_pJ, r_g41, r_g42, r_g43, r_g44, r_g45, r_g46, r_g47, r_g48, r_g49, r_g50, r_g51, r_g52, r_g53, r_g54, r_g55, r_g56, r_g57, r_g58, r_a41, r_a42, r_a43, r_a44, r_a45, r_a46, r_a47, r_a48, r_a49, r_a50, r_a51, r_a52, r_a53, r_a54, r_a55, r_a56, r_a57, r_a58, r_t41, r_t42, r_t43, r_t44, r_t45, r_t46, r_t47, r_t48, r_t49, r_t50, r_t51, r_t52, r_t53, r_t54, r_t55, r_t56, r_t57, r_t58, r_l43_0, r_l45_0, r_l45_1, r_l45_2, r_l45_3, r_l45_4, r_l45_5, r_l45_6, r_l45_105, r_l45_106, r_l45_1508, r_l45_1509, r_tl45_0, r_tl45_1, r_tl45_2, r_tl45_3, r_tl45_4, r_tl45_5, r_tl45_6, r_tl45_105, r_tl45_106, r_tl45_1508, r_tl45_1509, r_l48_0, r_l56_0, r_l57_0, r_tl58_0, r_tl58_1, r_tl58_2, r_tl58_3, r_tl58_4, la_1, lm_1, la_2, lm_2, la_3, lm_3, la_6, lm_6, la_7, lm_7, la_8, lm_8, la_13, lm_13, la_19, lm_19, la_25, lm_25, la_33, lm_33, la_41, lm_41, la_49, lm_49, la_57, lm_57, la_60, lm_60, la_105, lm_105, la_107, lm_107, la_1508, lm_1508, la_96, lm_96, la_377, lm_377, la_1509, lm_1509, ↓reduceIte, ↓ap_ite, ↓bd_ite, bd_bd, bd_rt, ap_rt, ite_some, nI_add, nI_1, nz_1, nz_2, nz_3, nz_4, nz_5, nz_6, nz_7, nz_8, nz_9, nz_10, nz_11, nz_12, nz_m1, z_eq, if_true, if_false, e_some, ite_self, e1, hge, ↓bd_of hth, z2, ↓bd_of hlo, hle', ↓bd_of hwt, (show ((false : Bool) = true) = False by simp)]
    · simp (disch := first | exact hC | exact hP | exact hR | ((repeat first | apply ClsP_sI | apply ClsP_sJ | apply ClsP_rI | apply ClsP_rJ | apply ClsP_rY); exact hC) | ((repeat first | apply FamP_sI | apply FamP_sJ | apply FamP_rI | apply FamP_rJ | apply FamP_rY); exact hP) | ((repeat first | apply RefP_sI | apply RefP_sJ | apply RefP_rI | apply RefP_rJ | apply RefP_rY); exact hR) | ((repeat first | apply PlanP_sI | apply PlanP_sJ | apply PlanP_rI | apply PlanP_rJ | apply PlanP_rY); exact hL) | omega) only [↓r_thb, ↓r_th, ↓r_gI, ↓r_gJ, ↓r_pI, ↓r_pJ, ↓r_g41, ↓r_g42, ↓r_g43, ↓r_g44, ↓r_g45, ↓r_g46, ↓r_g47, ↓r_g48, ↓r_g49, ↓r_g50, ↓r_g51, ↓r_g52, ↓r_g53, ↓r_g54, ↓r_g55, ↓r_g56, ↓r_g57, ↓r_g58, ↓r_a41, ↓r_a42, ↓r_a43, ↓r_a44, ↓r_a45, ↓r_a46, ↓r_a47, ↓r_a48, ↓r_a49, ↓r_a50, ↓r_a51, ↓r_a52, ↓r_a53, ↓r_a54, ↓r_a55, ↓r_a56, ↓r_a57, ↓r_a58, ↓r_t41, ↓r_t42, ↓r_t43, ↓r_t44, ↓r_t45, ↓r_t46, ↓r_t47, ↓r_t48, ↓r_t49, ↓r_t50, ↓r_t51, ↓r_t52, ↓r_t53, ↓r_t54, ↓r_t55, ↓r_t56, ↓r_t57, ↓r_t58, ↓r_l43_0, ↓r_l45_0, ↓r_l45_1, ↓r_l45_2, ↓r_l45_3, ↓r_l45_4, ↓r_l45_5, ↓r_l45_6, ↓r_l45_105, ↓r_l45_106, ↓r_l45_1508, ↓r_l45_1509, ↓r_tl45_0, ↓r_tl45_1, ↓r_tl45_2, ↓r_tl45_3, ↓r_tl45_4, ↓r_tl45_5, ↓r_tl45_6, ↓r_tl45_105, ↓r_tl45_106, ↓r_tl45_1508, ↓r_tl45_1509, ↓r_l48_0, ↓r_l56_0, ↓r_l57_0, ↓r_tl58_0, ↓r_tl58_1, ↓r_tl58_2, ↓r_tl58_3, ↓r_tl58_4, ↓bd_bd, ↓bd_rt, r_thb, r_th, r_gI, r_gJ, r_pI, r_pJ, r_g41, r_g42, r_g43, r_g44, r_g45, r_g46, r_g47, r_g48, r_g49, r_g50, r_g51, r_g52, r_g53, r_g54, r_g55, r_g56, r_g57, r_g58, r_a41, r_a42, r_a43, r_a44, r_a45, r_a46, r_a47, r_a48, r_a49, r_a50, r_a51, r_a52, r_a53, r_a54, r_a55, r_a56, r_a57, r_a58, r_t41, r_t42, r_t43, r_t44, r_t45, r_t46, r_t47, r_t48, r_t49, r_t50, r_t51, r_t52, r_t53, r_t54, r_t55, r_t56, r_t57, r_t58, r_l43_0, r_l45_0, r_l45_1, r_l45_2, r_l45_3, r_l45_4, r_l45_5, r_l45_6, r_l45_105, r_l45_106, r_l45_1508, r_l45_1509, r_tl45_0, r_tl45_1, r_tl45_2, r_tl45_3, r_tl45_4, r_tl45_5, r_tl45_6, r_tl45_105, r_tl45_106, r_tl45_1508, r_tl45_1509, r_l48_0, r_l56_0, r_l57_0, r_tl58_0, r_tl58_1, r_tl58_2, r_tl58_3, r_tl58_4, la_1, lm_1, la_2, lm_2, la_3, lm_3, la_6, lm_6, la_7, lm_7, la_8, lm_8, la_13, lm_13, la_19, lm_19, la_25, lm_25, la_33, lm_33, la_41, lm_41, la_49, lm_49, la_57, lm_57, la_60, lm_60, la_105, lm_105, la_107, lm_107, la_1508, lm_1508, la_96, lm_96, la_377, lm_377, la_1509, lm_1509, ↓reduceIte, ↓ap_ite, ↓bd_ite, bd_bd, bd_rt, ap_rt, ite_some, nI_add, nI_1, nz_1, nz_2, nz_3, nz_4, nz_5, nz_6, nz_7, nz_8, nz_9, nz_10, nz_11, nz_12, nz_m1, z_eq, if_true, if_false, e_some, ite_self, e1, hge, ↓bd_of hth, eq_false z2]
  · unfold fn_M_isStable_l51 chg
    by_cases z : fp (chW c kp (krOf q.testBit P kp) p) T < T
    · have hW := f2 z
      rw [decide_eq_true z]
      generalize fp (chW c kp (krOf q.testBit P kp) p) T = i at *
      have hi8 : i < 8 := by omega
      have hge := nI_ge z (show T < 2 ^ 31 by omega)
      unfold chW at hW
      rw [Bool.and_eq_true, Bool.and_eq_true] at hW
      obtain ⟨w1, w2, w3⟩ := hW
      have w1 := of_decide_eq_true w1
      have w2 := of_decide_eq_true w2
      have hlo := r_love hR hcν hD hO hp hi8
      have hlv := lvv_le c p i
      have hle : (nI (lvv c p i) ≤ nI (kb c kp p)) = False := eq_false (nI_ge w2 (by omega))
      have hth := r_isThrough (μ := ν) (t := i) hR hi8
      rw [show cR ν = c from hcν] at hth
      have hwt := r_wouldTake hR hcν hD hO hK hq hp z
      rw [w3] at hwt
      simp (disch := first | exact hC | exact hP | exact hR | ((repeat first | apply ClsP_sI | apply ClsP_sJ | apply ClsP_rI | apply ClsP_rJ | apply ClsP_rY); exact hC) | ((repeat first | apply FamP_sI | apply FamP_sJ | apply FamP_rI | apply FamP_rJ | apply FamP_rY); exact hP) | ((repeat first | apply RefP_sI | apply RefP_sJ | apply RefP_rI | apply RefP_rJ | apply RefP_rY); exact hR) | ((repeat first | apply PlanP_sI | apply PlanP_sJ | apply PlanP_rI | apply PlanP_rJ | apply PlanP_rY); exact hL) | omega) only [↓r_thb, ↓r_th, ↓r_gI, ↓r_gJ, ↓r_pI, ↓r_pJ, ↓r_g41, ↓r_g42, ↓r_g43, ↓r_g44, ↓r_g45, ↓r_g46, ↓r_g47, ↓r_g48, ↓r_g49, ↓r_g50, ↓r_g51, ↓r_g52, ↓r_g53, ↓r_g54, ↓r_g55, ↓r_g56, ↓r_g57, ↓r_g58, ↓r_a41, ↓r_a42, ↓r_a43, ↓r_a44, ↓r_a45, ↓r_a46, ↓r_a47, ↓r_a48, ↓r_a49, ↓r_a50, ↓r_a51, ↓r_a52, ↓r_a53, ↓r_a54, ↓r_a55, ↓r_a56, ↓r_a57, ↓r_a58, ↓r_t41, ↓r_t42, ↓r_t43, ↓r_t44, ↓r_t45, ↓r_t46, ↓r_t47, ↓r_t48, ↓r_t49, ↓r_t50, ↓r_t51, ↓r_t52, ↓r_t53, ↓r_t54, ↓r_t55, ↓r_t56, ↓r_t57, ↓r_t58, ↓r_l43_0, ↓r_l45_0, ↓r_l45_1, ↓r_l45_2, ↓r_l45_3, ↓r_l45_4, ↓r_l45_5, ↓r_l45_6, ↓r_l45_105, ↓r_l45_106, ↓r_l45_1508, ↓r_l45_1509, ↓r_tl45_0, ↓r_tl45_1, ↓r_tl45_2, ↓r_tl45_3, ↓r_tl45_4, ↓r_tl45_5, ↓r_tl45_6, ↓r_tl45_105, ↓r_tl45_106, ↓r_tl45_1508, ↓r_tl45_1509, ↓r_l48_0, ↓r_l56_0, ↓r_l57_0, ↓r_tl58_0, ↓r_tl58_1, ↓r_tl58_2, ↓r_tl58_3, ↓r_tl58_4, ↓bd_bd, ↓bd_rt, r_thb, r_th, r_gI, r_gJ, r_pI, r_pJ, r_g41, r_g42, r_g43, r_g44, r_g45, r_g46, r_g47, r_g48, r_g49, r_g50, r_g51, r_g52, r_g53, r_g54, r_g55, r_g56, r_g57, r_g58, r_a41, r_a42, r_a43, r_a44, r_a45, r_a46, r_a47, r_a48, r_a49, r_a50, r_a51, r_a52, r_a53, r_a54, r_a55, r_a56, r_a57, r_a58, r_t41, r_t42, r_t43, r_t44, r_t45, r_t46, r_t47, r_t48, r_t49, r_t50, r_t51, r_t52, r_t53, r_t54, r_t55, r_t56, r_t57, r_t58, r_l43_0, r_l45_0, r_l45_1, r_l45_2, r_l45_3, r_l45_4, r_l45_5, r_l45_6, r_l45_105, r_l45_106, r_l45_1508, r_l45_1509, r_tl45_0, r_tl45_1, r_tl45_2, r_tl45_3, r_tl45_4, r_tl45_5, r_tl45_6, r_tl45_105, r_tl45_106, r_tl45_1508, r_tl45_1509, r_l48_0, r_l56_0, r_l57_0, r_tl58_0, r_tl58_1, r_tl58_2, r_tl58_3, r_tl58_4, la_1, lm_1, la_2, lm_2, la_3, lm_3, la_6, lm_6, la_7, lm_7, la_8, lm_8, la_13, lm_13, la_19, lm_19, la_25, lm_25, la_33, lm_33, la_41, lm_41, la_49, lm_49, la_57, lm_57, la_60, lm_60, la_105, lm_105, la_107, lm_107, la_1508, lm_1508, la_96, lm_96, la_377, lm_377, la_1509, lm_1509, ↓reduceIte, ↓ap_ite, ↓bd_ite, bd_bd, bd_rt, ap_rt, ite_some, nI_add, nI_1, nz_1, nz_2, nz_3, nz_4, nz_5, nz_6, nz_7, nz_8, nz_9, nz_10, nz_11, nz_12, nz_m1, z_eq, if_true, if_false, e_some, ite_self, e1, hge, ↓bd_of hth, w1, ↓bd_of hlo, hle, ↓bd_of hwt]
    · have e : fp (chW c kp (krOf q.testBit P kp) p) T = T := by omega
      rw [decide_eq_false z, e]
      simp (disch := first | exact hC | exact hP | exact hR | ((repeat first | apply ClsP_sI | apply ClsP_sJ | apply ClsP_rI | apply ClsP_rJ | apply ClsP_rY); exact hC) | ((repeat first | apply FamP_sI | apply FamP_sJ | apply FamP_rI | apply FamP_rJ | apply FamP_rY); exact hP) | ((repeat first | apply RefP_sI | apply RefP_sJ | apply RefP_rI | apply RefP_rJ | apply RefP_rY); exact hR) | ((repeat first | apply PlanP_sI | apply PlanP_sJ | apply PlanP_rI | apply PlanP_rJ | apply PlanP_rY); exact hL) | omega) only [↓r_thb, ↓r_th, ↓r_gI, ↓r_gJ, ↓r_pI, ↓r_pJ, ↓r_g41, ↓r_g42, ↓r_g43, ↓r_g44, ↓r_g45, ↓r_g46, ↓r_g47, ↓r_g48, ↓r_g49, ↓r_g50, ↓r_g51, ↓r_g52, ↓r_g53, ↓r_g54, ↓r_g55, ↓r_g56, ↓r_g57, ↓r_g58, ↓r_a41, ↓r_a42, ↓r_a43, ↓r_a44, ↓r_a45, ↓r_a46, ↓r_a47, ↓r_a48, ↓r_a49, ↓r_a50, ↓r_a51, ↓r_a52, ↓r_a53, ↓r_a54, ↓r_a55, ↓r_a56, ↓r_a57, ↓r_a58, ↓r_t41, ↓r_t42, ↓r_t43, ↓r_t44, ↓r_t45, ↓r_t46, ↓r_t47, ↓r_t48, ↓r_t49, ↓r_t50, ↓r_t51, ↓r_t52, ↓r_t53, ↓r_t54, ↓r_t55, ↓r_t56, ↓r_t57, ↓r_t58, ↓r_l43_0, ↓r_l45_0, ↓r_l45_1, ↓r_l45_2, ↓r_l45_3, ↓r_l45_4, ↓r_l45_5, ↓r_l45_6, ↓r_l45_105, ↓r_l45_106, ↓r_l45_1508, ↓r_l45_1509, ↓r_tl45_0, ↓r_tl45_1, ↓r_tl45_2, ↓r_tl45_3, ↓r_tl45_4, ↓r_tl45_5, ↓r_tl45_6, ↓r_tl45_105, ↓r_tl45_106, ↓r_tl45_1508, ↓r_tl45_1509, ↓r_l48_0, ↓r_l56_0, ↓r_l57_0, ↓r_tl58_0, ↓r_tl58_1, ↓r_tl58_2, ↓r_tl58_3, ↓r_tl58_4, ↓bd_bd, ↓bd_rt, r_thb, r_th, r_gI, r_gJ, r_pI, r_pJ, r_g41, r_g42, r_g43, r_g44, r_g45, r_g46, r_g47, r_g48, r_g49, r_g50, r_g51, r_g52, r_g53, r_g54, r_g55, r_g56, r_g57, r_g58, r_a41, r_a42, r_a43, r_a44, r_a45, r_a46, r_a47, r_a48, r_a49, r_a50, r_a51, r_a52, r_a53, r_a54, r_a55, r_a56, r_a57, r_a58, r_t41, r_t42, r_t43, r_t44, r_t45, r_t46, r_t47, r_t48, r_t49, r_t50, r_t51, r_t52, r_t53, r_t54, r_t55, r_t56, r_t57, r_t58, r_l43_0, r_l45_0, r_l45_1, r_l45_2, r_l45_3, r_l45_4, r_l45_5, r_l45_6, r_l45_105, r_l45_106, r_l45_1508, r_l45_1509, r_tl45_0, r_tl45_1, r_tl45_2, r_tl45_3, r_tl45_4, r_tl45_5, r_tl45_6, r_tl45_105, r_tl45_106, r_tl45_1508, r_tl45_1509, r_l48_0, r_l56_0, r_l57_0, r_tl58_0, r_tl58_1, r_tl58_2, r_tl58_3, r_tl58_4, la_1, lm_1, la_2, lm_2, la_3, lm_3, la_6, lm_6, la_7, lm_7, la_8, lm_8, la_13, lm_13, la_19, lm_19, la_25, lm_25, la_33, lm_33, la_41, lm_41, la_49, lm_49, la_57, lm_57, la_60, lm_60, la_105, lm_105, la_107, lm_107, la_1508, lm_1508, la_96, lm_96, la_377, lm_377, la_1509, lm_1509, ↓reduceIte, ↓ap_ite, ↓bd_ite, bd_bd, bd_rt, ap_rt, ite_some, nI_add, nI_1, nz_1, nz_2, nz_3, nz_4, nz_5, nz_6, nz_7, nz_8, nz_9, nz_10, nz_11, nz_12, nz_m1, z_eq, if_true, if_false, e_some, ite_self, e1, Int32.le_refl (nI T), (show ((false : Bool) = true) = False by simp)]
set_option maxHeartbeats 200000 in
theorem r_isStable (hR : RefP ν) (hcν : m_I ν (45, 0, 0) = c) (hD : Dim c P T) (hO : Okc c P T) (hK : ∀ k, k < P → m_I ν (51, 0, 0) k = kp k) (hV : ∀ p, p < P → kp p = -1 ∨ ∃ t, t < T ∧ kp p = nI t) {q : Nat} (hq : q < 2 ^ P) : fn_M_isStable (some (40, 0, 0)) (nI q) ν = some (stb q.testBit c P T kp (krOf q.testBit P kp), ν) := by
  obtain ⟨hP0, hT0, hP6, hT8⟩ := id hD
  have h64 : 2 ^ P ≤ 2 ^ 8 := Nat.pow_le_pow_right (by omega) (by omega)
  have hq256 : q < 256 := by omega
  have e0 : m_I ν (45, 0, 0) 0 = nI P := by rw [hcν]; exact hP0
  obtain ⟨f1, f2, f3⟩ := fp_sp (W := usW q.testBit c T kp (krOf q.testBit P kp)) P
  have hbody : ∀ p, p < P → q.testBit p = true → fn_M_isStable_l2 (some (40, 0, 0)) (nI q) (nI p) ν = some (if chg c T kp (krOf q.testBit P kp) p = true then .inr 0 else .inl (nI (p + 1)), ν) := fun p hp hS => by
    have hge := nI_ge hp (show P < 2 ^ 31 by omega)
    have hp6 : p < 6 := by omega
    have hp8 : p < 8 := by omega
    have e51 := hK p hp
    have hl := r_stIn hR hcν hD hO hK hq hp
    unfold fn_M_isStable_l2
    rw [r_g45 hR, r_l45_0 hR, e0, ap_ite, if_neg hge, r_has hq256 hp8, if_pos hS, ap_ite, if_neg (by decide), r_g51 hR, r_a51 hR hp6, e51]
    rcases hV p hp with w | ⟨t, ht, w⟩
    · have hk0 : kb c kp p = 0 := if_pos w
      have hk1 : nI (kb c kp p) = 0 := by
        rw [hk0]
        rfl
      rw [hk1] at hl
      rw [w, bd_ite, if_neg (by decide), bd_rt]
      exact hl
    · have ht8 : t < 8 := by omega
      have hk0 : kb c kp p = lvv c p t := by
        unfold kb
        rw [w, if_neg (nI_m1 (show t < 2 ^ 31 by omega)), nI_clamp (by omega)]
      rw [hk0] at hl
      rw [w, bd_ite, if_pos (nI_pos' (by omega)), bd_bd, r_g51 hR, bd_bd, r_a51 hR hp6, e51, w, bd_bd, bd_of (r_love hR hcν hD hO hp ht8), bd_rt]
      exact hl
  have hl : m_lp (fn_M_isStable_l2 (some (40, 0, 0)) (nI q)) m_F 0 ν = some (stb q.testBit c P T kp (krOf q.testBit P kp), ν) := by
    refine lp_nat (body := fn_M_isStable_l2 (some (40, 0, 0)) (nI q)) (fun i => nI i) (fun _ => ν) (fp (usW q.testBit c T kp (krOf q.testBit P kp)) P) (fun i hi => ?_) ?_ (by have := F_gt; omega)
    · have hiP : i < P := by omega
      have hge := nI_ge hiP (show P < 2 ^ 31 by omega)
      have hi8 : i < 8 := by omega
      have hW := f3 i hi
      by_cases z1 : q.testBit i = true
      · unfold usW at hW
        rw [z1] at hW
        have hW : chg c T kp (krOf q.testBit P kp) i = false := hW
        have hb := hbody i hiP z1
        rw [hW] at hb
        exact hb
      · unfold fn_M_isStable_l2
        rw [r_g45 hR, r_l45_0 hR, e0, ap_ite, if_neg hge, r_has hq256 hi8, if_neg z1, ap_ite, if_pos rfl, nI_1]
        rfl
    · unfold stb
      by_cases z : fp (usW q.testBit c T kp (krOf q.testBit P kp)) P < P
      · have hW := f2 z
        rw [if_pos z]
        generalize fp (usW q.testBit c T kp (krOf q.testBit P kp)) P = i at *
        unfold usW at hW
        rw [Bool.and_eq_true] at hW
        have hb := hbody _ z hW.1
        rw [if_pos hW.2] at hb
        exact hb
      · have e : fp (usW q.testBit c T kp (krOf q.testBit P kp)) P = P := by omega
        rw [if_neg z, e]
        unfold fn_M_isStable_l2
        rw [r_g45 hR, r_l45_0 hR, e0, ap_ite, if_pos (Int32.le_refl (nI P))]
        rfl
  unfold fn_M_isStable
  rw [r_th hR]
  exact hl
set_option maxHeartbeats 200000 in
theorem r_stablesOf (hD : Dim c P T) (hO : Okc c P T) {q : Nat} (hq : q < 2 ^ P) : ∀ n j p, j < n → p + j = P → ∀ (ν : mM) (kp : Nat → Int32) (X : Nat), RefP ν → m_I ν (45, 0, 0) = c → X < 256 → (∀ k, k < p → m_I ν (51, 0, 0) k = kp k) → (∀ r, p ≤ r → r < P → kp r = -1) → (∀ p, p < P → kp p = -1 ∨ ∃ t, t < T ∧ kp p = nI t) → (∀ t, t < T → avR X t = avK q.testBit c P kp t) → m_e (fn_M_stablesOf n (some (40, 0, 0)) (nI q) (nI p) (nI X) ν) (fun v ν' => v = sbl q.testBit c P T (P - p) kp (avK q.testBit c P kp) ∧ sm (fun x _ _ k => x = 51 ∧ p ≤ k) ν ν')
  | 0, j, p, h, _ => by omega
  | n + 1, j, p, hj, hpj => by
    intro ν kp X hR hcν hX hK hun hV hav
    obtain ⟨hP0, hT0, hP6, hT8⟩ := id hD
    have h64 : 2 ^ P ≤ 2 ^ 8 := Nat.pow_le_pow_right (by omega) (by omega)
    have hq256 : q < 256 := by omega
    have e0 : m_I ν (45, 0, 0) 0 = nI P := by rw [hcν]; exact hP0
    unfold fn_M_stablesOf fn_M_stablesOf_r
    rw [r_th hR, r_g45 hR, r_l45_0 hR, e0, ap_ite]
    by_cases zp : p = P
    · subst zp
      rw [if_pos rfl, bd_of (r_isStable hR hcν hD hO hK hV hq), Nat.sub_self]
      have hs : sbl q.testBit c p T 0 kp (avK q.testBit c p kp) = stb q.testBit c p T kp (krOf q.testBit p kp) := rfl
      rw [hs]
      have hst : stb q.testBit c p T kp (krOf q.testBit p kp) = 0 ∨ stb q.testBit c p T kp (krOf q.testBit p kp) = 1 := by
        unfold stb
        split
        · exact .inl rfl
        · exact .inr rfl
      rcases hst with w | w
      · rw [w]
        exact ⟨_, _, rfl, rfl, sm_rf⟩
      · rw [w]
        exact ⟨_, _, rfl, rfl, sm_rf⟩
    · have hp : p < P := by omega
      have hp6 : p < 6 := by omega
      have hp8 : p < 8 := by omega
      rw [if_neg (fun y => zp ((nI_eq (by omega) (by omega)).mp y)), r_g51 hR, r_t51 hR hp6, nI_1]
      have ih := r_stablesOf hD hO hq n (j - 1) (p + 1) (by omega) (by omega)
      have hkp := hun p (Nat.le_refl p) hp
      have b0 : sm (fun x _ _ k => x = 51 ∧ p ≤ k) ν (m_sI ν (51, 0, 0) p (-1)) := sm_sI sm_rf _ ⟨rfl, Nat.le_refl p⟩
      refine e_bd (ih (m_sI ν (51, 0, 0) p (-1)) kp X hR (by rw [I_ne _ rfl]; exact hcν) hX (fun k hk => ?_) (fun r h1 h2 => hun r (by omega) h2) hV hav) ?_
      · rw [I_row]
        by_cases v : k = p
        · rw [v, ud_at, hkp]
        · rw [ud_ne v, hK k (by omega)]
      rintro _ ν1 ⟨rfl, b1⟩
      have b2 : sm (fun x _ _ k => x = 51 ∧ p ≤ k) ν ν1 := sm_tr b0 (sm_mono b1 (by omega))
      rw [sbl_step hp]
      refine e_bd (R := fun v ν' => v = (if q.testBit p = true then fld (sbl q.testBit c P T (P - (p + 1)) kp (avK q.testBit c P kp)) (fun t => sbl q.testBit c P T (P - (p + 1)) (ud kp p (nI t)) (rm (avK q.testBit c P kp) t)) (avK q.testBit c P kp) T else sbl q.testBit c P T (P - (p + 1)) kp (avK q.testBit c P kp)) ∧ sm (fun x _ _ k => x = 51 ∧ p ≤ k) ν ν') ?_ ?_
      · by_cases z : q.testBit p = true
        · rw [if_pos z]
          refine e_inv (fun i s ν' => s = (fld (sbl q.testBit c P T (P - (p + 1)) kp (avK q.testBit c P kp)) (fun t => sbl q.testBit c P T (P - (p + 1)) (ud kp p (nI t)) (rm (avK q.testBit c P kp) t)) (avK q.testBit c P kp) i, nI i) ∧ sm (fun x _ _ k => x = 51 ∧ p ≤ k) ν ν') T ?_ ?_ ⟨rfl, b2⟩ (by omega)
          · rintro i s ν2 hi ⟨rfl, d1⟩
            have hR2 := sm_R d1 hR
            have hc2 : m_I ν2 (45, 0, 0) = c := (sm_Ir d1 (by omega)).trans hcν
            have e1 : m_I ν2 (45, 0, 0) 1 = nI T := by rw [hc2]; exact hT0
            have hge := nI_ge hi (show T < 2 ^ 31 by omega)
            have hi8 : i < 8 := by omega
            have hai := hav i hi
            unfold fn_M_stablesOf_l45
            rw [r_g45 hR2, r_l45_1 hR2, e1, ap_ite, if_neg hge, r_has hq256 hp8, if_pos z, ap_ite, if_neg (by decide), r_has hX hi8]
            by_cases y : X.testBit i = true
            · have hno : ¬ avK q.testBit c P kp i = true := by
                rw [← hai]
                unfold avR
                rw [y]
                decide
              rw [if_pos y, bd_ite, if_neg (by decide), bd_rt]
              refine ⟨_, _, rfl, _, rfl, ?_, d1⟩
              rw [nI_1]
              exact congrArg (fun a => (a, nI (i + 1))) (if_neg hno).symm
            · have hbX : X.testBit i = false := Bool.eq_false_iff.mpr y
              have hyes : avK q.testBit c P kp i = true := by
                rw [← hai]
                unfold avR
                rw [hbX]
                rfl
              have hkr : krOf q.testBit P kp i = -1 := by
                unfold avK at hyes
                rw [Bool.and_eq_true] at hyes
                exact of_decide_eq_true hyes.1
              have hku := krOf_ud hP6 hp z hkp hi8 hkr
              have hX2 : X + 2 ^ i < 256 := bit_lt 8 (by decide) i hi8 X hX hbX
              have hrm : ∀ k, k < T → avK q.testBit c P (ud kp p (nI i)) k = rm (avK q.testBit c P kp) i k := fun k hk => by
                unfold avK rm
                rw [hku k (by omega)]
                by_cases v : k = i
                · subst v
                  rw [ud_at, decide_eq_false (nI_m1 (show p < 2 ^ 31 by omega)), decide_eq_false (show ¬ k ≠ k by simp), Bool.and_false]
                  rfl
                · rw [ud_ne v, decide_eq_true v, Bool.and_true]
              rw [if_neg y, bd_ite, if_pos rfl, bd_bd, r_g51 hR2, bd_bd, r_t51 hR2 hp6, nI_1, or_bit X hX i hi8 hbX, bd_bd]
              have g1 : sm (fun x _ _ k => x = 51 ∧ p ≤ k) ν (m_sI ν2 (51, 0, 0) p (nI i)) := sm_sI d1 _ ⟨rfl, Nat.le_refl p⟩
              refine e_bd (ih (m_sI ν2 (51, 0, 0) p (nI i)) (ud kp p (nI i)) (X + 2 ^ i) (sm_R g1 hR) ((sm_Ir g1 (by omega)).trans hcν) hX2 (fun k hk => ?_) (fun r h1 h2 => by rw [ud_ne (by omega)]; exact hun r (by omega) h2) (fun k hk => ?_) (fun k hk => ?_)) ?_
              · rw [I_row]
                by_cases v : k = p
                · rw [v, ud_at, ud_at]
                · rw [ud_ne v, ud_ne v, sm_I d1 (by omega), hK k (by omega)]
              · by_cases v : k = p
                · rw [v, ud_at]
                  exact .inr ⟨i, hi, rfl⟩
                · rw [ud_ne v]
                  exact hV k hk
              · rw [hrm k hk]
                unfold avR rm
                rw [bit_add X hX i hi8 hbX k (by omega), ← hav k hk]
                unfold avR
                by_cases v : k = i
                · simp [v]
                · simp [v]
              · rintro _ ν3 ⟨rfl, g2⟩
                refine ⟨_, _, rfl, _, rfl, ?_, sm_tr g1 (sm_mono g2 (by omega))⟩
                rw [sbl_c _ _ _ _ hrm, nI_1]
                exact congrArg (fun a => (a, nI (i + 1))) (if_pos hyes).symm
          · rintro s ν2 ⟨rfl, d1⟩
            have hR2 := sm_R d1 hR
            have hc2 : m_I ν2 (45, 0, 0) = c := (sm_Ir d1 (by omega)).trans hcν
            have e1 : m_I ν2 (45, 0, 0) 1 = nI T := by rw [hc2]; exact hT0
            unfold fn_M_stablesOf_l45
            rw [r_g45 hR2, r_l45_1 hR2, e1, ap_ite, if_pos (Int32.le_refl (nI T))]
            exact ⟨_, _, rfl, _, rfl, rfl, d1⟩
        · rw [if_neg z]
          refine e_inv (fun i s ν' => s = (sbl q.testBit c P T (P - (p + 1)) kp (avK q.testBit c P kp), 0) ∧ sm (fun x _ _ k => x = 51 ∧ p ≤ k) ν ν') 0 (fun i s ν' hi _ => absurd hi (Nat.not_lt_zero i)) ?_ ⟨rfl, b2⟩ (by omega)
          rintro s ν2 ⟨rfl, d1⟩
          have hR2 := sm_R d1 hR
          have hc2 : m_I ν2 (45, 0, 0) = c := (sm_Ir d1 (by omega)).trans hcν
          have e1 : m_I ν2 (45, 0, 0) 1 = nI T := by rw [hc2]; exact hT0
          unfold fn_M_stablesOf_l45
          dsimp only
          rw [r_g45 hR2, r_l45_1 hR2, e1, ap_ite]
          by_cases y : T = 0
          · subst y
            rw [if_pos (by decide)]
            exact ⟨_, _, rfl, _, rfl, rfl, d1⟩
          · rw [if_neg (show ¬ nI T ≤ (0 : Int32) from nI_ge (a := 0) (by omega) (by omega)), r_has hq256 hp8, if_neg z, ap_ite, if_pos rfl]
            exact ⟨_, _, rfl, _, rfl, rfl, d1⟩
      · rintro v ν2 ⟨rfl, d1⟩
        have hR2 := sm_R d1 hR
        rw [r_g51 hR2, r_t51 hR2 hp6]
        exact ⟨_, _, rfl, rfl, sm_sI d1 _ ⟨rfl, Nat.le_refl p⟩⟩
end RB
section CT
variable {μ : mM} {made n P T : Nat} {fa pa : Nat → Nat}
set_option maxHeartbeats 200000 in
theorem krOf_0 {S : Nat → Bool} {P t : Nat} (ht : t < 8) : krOf S P (fun _ => -1) t = -1 := by
  by_cases z : fp (kpW S (fun _ => -1) t) P < P
  · have hW := (fp_sp P).2.1 z
    unfold kpW at hW
    rw [Bool.and_eq_true] at hW
    exact absurd (of_decide_eq_true hW.2).symm (nI_m1 (by omega))
  · exact if_neg z
set_option maxHeartbeats 200000 in
theorem avK_0 {S : Nat → Bool} {c : Nat → Int32} {P t : Nat} (ht : t < 8) : avK S c P (fun _ => -1) t = avC c 0 t := by
  have e := krOf_0 (S := S) (P := P) ht
  unfold avK avC
  rw [e, Nat.zero_testBit]
  rfl
set_option maxHeartbeats 200000 in
theorem call_stables (h : Inv μ made n fa pa P T) (x : Int32) : Jn (fn_C_stables (some (1, 0, 0)) x) (fn_M_stables (some (40, 0, 0)) x) μ := by
  have hc := Inv_cur h
  have hO := Inv_ok h
  obtain ⟨hC, hM, hP, hI, hD⟩ := id hc
  obtain ⟨hP0, hT0, hP6, hT8⟩ := id hD
  have hP8 : P ≤ 8 := by omega
  have h64 : 2 ^ P ≤ 2 ^ 8 := Nat.pow_le_pow_right (by omega) hP8
  have h256 : 2 ^ T ≤ 2 ^ 8 := Nat.pow_le_pow_right (by omega) hT8
  have hc0 := Cur_st (k := 0) hc 0
  have hDν : ∀ ν, (∀ x, 41 ≤ x → m_I ν (x, 0, 0) = m_I μ (x, 0, 0) ∧ m_J ν (x, 0, 0) = m_J μ (x, 0, 0)) → Dim (cR ν) P T := fun ν e => by rw [cR, (e 45 (by omega)).1]; exact hD
  rcases set_cases hP8 x with h0 | ⟨q, hq, rfl, h0⟩
  · refine call_q h (fun μ hR => r_pre hR _) 5 (-1) ?_ (fun ν hR e ez => ?_)
    · unfold fn_C_stables
      simp (disch := first | exact hC | exact hP | exact hR | ((repeat first | apply ClsP_sI | apply ClsP_sJ | apply ClsP_rI | apply ClsP_rJ | apply ClsP_rY); exact hC) | ((repeat first | apply FamP_sI | apply FamP_sJ | apply FamP_rI | apply FamP_rJ | apply FamP_rY); exact hP) | ((repeat first | apply RefP_sI | apply RefP_sJ | apply RefP_rI | apply RefP_rJ | apply RefP_rY); exact hR) | ((repeat first | apply PlanP_sI | apply PlanP_sJ | apply PlanP_rI | apply PlanP_rJ | apply PlanP_rY); exact hL) | omega) only [↓c_main_thb, ↓c_tray_thb, ↓c_text_thb, ↓c_fam_thb, ↓c_per_thb, ↓c_thi_thb, ↓c_plan_thb, ↓c_ahd_thb, ↓c_then_thb, ↓c_sig_thb, ↓c_kee_thb, ↓c_gam_thb, ↓c_brd_thb, ↓c_main_r3, ↓c_main_r4, ↓c_main_r8, ↓c_main_r10, ↓c_main_r11, ↓c_main_r12, ↓c_main_r13, ↓c_main_r14, ↓c_text_r0, ↓c_ahd_r1, ↓c_ahd_r2, ↓c_ahd_r3, ↓c_sig_r0, ↓c_sig_r1, ↓c_kee_r0, ↓c_kee_r1, ↓c_kee_r2, ↓c_kee_r3, ↓c_kee_r5, ↓c_gam_r1, ↓c_gam_r2, ↓c_trays_r, ↓c_tray_r2, ↓c_brds_r, ↓c_brds_r0, ↓c_brds_r1, ↓c_fam_r7, ↓c_fam_r8, ↓c_pers_r, ↓c_per_r4, ↓c_itm_r, ↓c_plan_r2, ↓c_plan_r3, ↓c_plan_r4, ↓c_plan_r5, ↓c_plan_r6, ↓c_plan_r11, ↓c_plan_r12, ↓c_main_R5, ↓c_main_R6, ↓c_main_R7, ↓c_fam_R9, ↓c_main_th, ↓c_main_gI, ↓c_main_gJ, ↓c_main_pI, ↓c_main_pJ, ↓c_main_pR, ↓c_main_pZ, ↓c_tray_th, ↓c_tray_gI, ↓c_tray_pI, ↓c_tray_pR, ↓c_text_th, ↓c_text_gI, ↓c_text_gJ, ↓c_text_pI, ↓c_text_pJ, ↓c_text_pR, ↓c_fam_th, ↓c_fam_gI, ↓c_fam_pI, ↓c_fam_pR, ↓c_per_th, ↓c_per_gI, ↓c_per_gJ, ↓c_per_pI, ↓c_per_pJ, ↓c_per_pR, ↓c_per_pZ, ↓c_thi_th, ↓c_thi_gI, ↓c_thi_gJ, ↓c_thi_pI, ↓c_thi_pJ, ↓c_plan_th, ↓c_plan_gI, ↓c_plan_pI, ↓c_plan_pR, ↓c_plan_pZ, ↓c_ahd_th, ↓c_ahd_gI, ↓c_ahd_pI, ↓c_ahd_pR, ↓c_then_th, ↓c_then_gI, ↓c_then_gJ, ↓c_then_pI, ↓c_then_pJ, ↓c_sig_th, ↓c_sig_gI, ↓c_sig_pI, ↓c_sig_pR, ↓c_kee_th, ↓c_kee_gI, ↓c_kee_pI, ↓c_kee_pR, ↓c_gam_th, ↓c_gam_gI, ↓c_gam_pI, ↓c_gam_pR, ↓c_brd_th, ↓c_brd_gI, ↓c_brd_gJ, ↓c_brd_pI, ↓c_brd_pJ, ↓c_nums_a, ↓c_nums_t, ↓c_bytes_a, ↓c_bytes_t, ↓c_lov_a, ↓c_lov_t, ↓c_parr_a, ↓c_parr_t, ↓c_plps_a, ↓c_plps_t, ↓c_mkd_a, ↓c_sav_a, ↓c_sav_t, ↓c_wut_a, ↓c_wut_t, ↓c_wut_a0, ↓c_wut_t0, ↓c_fits_a, ↓c_fits_t, ↓c_wsum_a, ↓c_wsum_t, ↓c_wsum_a0, ↓c_wsum_t0, ↓c_ckp_a, ↓c_ckp_t, ↓c_ckr_a, ↓c_ckr_t, ↓c_cas_a, ↓c_cas_t, ↓c_cmb_a, ↓c_cmb_t, ↓c_clb_a, ↓c_clb_t, ↓c_clb_a0, ↓c_clb_t0, ↓c_glv_a, ↓c_glv_t, ↓c_clv_a, ↓c_clv_t, ↓c_clv_a0, ↓c_clv_t0, ↓c_clv_a1, ↓c_clv_t1, ↓c_clv_a2, ↓c_clv_t2, ↓c_clv_a3, ↓c_clv_t3, ↓c_clv_a4, ↓c_clv_t4, ↓bd_bd, ↓bd_rt, c_main_thb, c_tray_thb, c_text_thb, c_fam_thb, c_per_thb, c_thi_thb, c_plan_thb, c_ahd_thb, c_then_thb, c_sig_thb, c_kee_thb, c_gam_thb, c_brd_thb, c_main_r3, c_main_r4, c_main_r8, c_main_r10, c_main_r11, c_main_r12, c_main_r13, c_main_r14, c_text_r0, c_ahd_r1, c_ahd_r2, c_ahd_r3, c_sig_r0, c_sig_r1, c_kee_r0, c_kee_r1, c_kee_r2, c_kee_r3, c_kee_r5, c_gam_r1, c_gam_r2, c_trays_r, c_tray_r2, c_brds_r, c_brds_r0, c_brds_r1, c_fam_r7, c_fam_r8, c_pers_r, c_per_r4, c_itm_r, c_plan_r2, c_plan_r3, c_plan_r4, c_plan_r5, c_plan_r6, c_plan_r11, c_plan_r12, c_main_R5, c_main_R6, c_main_R7, c_fam_R9, c_main_th, c_main_gI, c_main_gJ, c_main_pI, c_main_pJ, c_main_pR, c_main_pZ, c_tray_th, c_tray_gI, c_tray_pI, c_tray_pR, c_text_th, c_text_gI, c_text_gJ, c_text_pI, c_text_pJ, c_text_pR, c_fam_th, c_fam_gI, c_fam_pI, c_fam_pR, c_per_th, c_per_gI, c_per_gJ, c_per_pI, c_per_pJ, c_per_pR, c_per_pZ, c_thi_th, c_thi_gI, c_thi_gJ, c_thi_pI, c_thi_pJ, c_plan_th, c_plan_gI, c_plan_pI, c_plan_pR, c_plan_pZ, c_ahd_th, c_ahd_gI, c_ahd_pI, c_ahd_pR, c_then_th, c_then_gI, c_then_gJ, c_then_pI, c_then_pJ, c_sig_th, c_sig_gI, c_sig_pI, c_sig_pR, c_kee_th, c_kee_gI, c_kee_pI, c_kee_pR, c_gam_th, c_gam_gI, c_gam_pI, c_gam_pR, c_brd_th, c_brd_gI, c_brd_gJ, c_brd_pI, c_brd_pJ, c_nums_a, c_nums_t, c_bytes_a, c_bytes_t, c_lov_a, c_lov_t, c_parr_a, c_parr_t, c_plps_a, c_plps_t, c_mkd_a, c_sav_a, c_sav_t, c_wut_a, c_wut_t, c_wut_a0, c_wut_t0, c_fits_a, c_fits_t, c_wsum_a, c_wsum_t, c_wsum_a0, c_wsum_t0, c_ckp_a, c_ckp_t, c_ckr_a, c_ckr_t, c_cas_a, c_cas_t, c_cmb_a, c_cmb_t, c_clb_a, c_clb_t, c_clb_a0, c_clb_t0, c_glv_a, c_glv_t, c_clv_a, c_clv_t, c_clv_a0, c_clv_t0, c_clv_a1, c_clv_t1, c_clv_a2, c_clv_t2, c_clv_a3, c_clv_t3, c_clv_a4, c_clv_t4, ↓reduceIte, ↓ap_ite, ↓bd_ite, bd_bd, bd_rt, ap_rt, ite_some, nI_add, nI_1, R_sI, R_sJ, nz_1, nz_2, nz_3, nz_4, nz_5, nz_6, nz_7, nz_8, nz_9, nz_10, nz_11, nz_12, nz_m1, z_eq, if_true, if_false, e_some, ite_self, hM, fi_P hI hD, ↓bd_of (k_isSet (q := x) (μ := μ) hP8), h0, I_row, ud_at]
      exact QC_st _ _
    · simp (disch := first | exact hC | exact hP | exact hR | ((repeat first | apply ClsP_sI | apply ClsP_sJ | apply ClsP_rI | apply ClsP_rJ | apply ClsP_rY); exact hC) | ((repeat first | apply FamP_sI | apply FamP_sJ | apply FamP_rI | apply FamP_rJ | apply FamP_rY); exact hP) | ((repeat first | apply RefP_sI | apply RefP_sJ | apply RefP_rI | apply RefP_rJ | apply RefP_rY); exact hR) | ((repeat first | apply PlanP_sI | apply PlanP_sJ | apply PlanP_rI | apply PlanP_rJ | apply PlanP_rY); exact hL) | omega) only [↓r_thb, ↓r_th, ↓r_gI, ↓r_gJ, ↓r_pI, ↓r_pJ, ↓r_g41, ↓r_g42, ↓r_g43, ↓r_g44, ↓r_g45, ↓r_g46, ↓r_g47, ↓r_g48, ↓r_g49, ↓r_g50, ↓r_g51, ↓r_g52, ↓r_g53, ↓r_g54, ↓r_g55, ↓r_g56, ↓r_g57, ↓r_g58, ↓r_a41, ↓r_a42, ↓r_a43, ↓r_a44, ↓r_a45, ↓r_a46, ↓r_a47, ↓r_a48, ↓r_a49, ↓r_a50, ↓r_a51, ↓r_a52, ↓r_a53, ↓r_a54, ↓r_a55, ↓r_a56, ↓r_a57, ↓r_a58, ↓r_t41, ↓r_t42, ↓r_t43, ↓r_t44, ↓r_t45, ↓r_t46, ↓r_t47, ↓r_t48, ↓r_t49, ↓r_t50, ↓r_t51, ↓r_t52, ↓r_t53, ↓r_t54, ↓r_t55, ↓r_t56, ↓r_t57, ↓r_t58, ↓r_l43_0, ↓r_l45_0, ↓r_l45_1, ↓r_l45_2, ↓r_l45_3, ↓r_l45_4, ↓r_l45_5, ↓r_l45_6, ↓r_l45_105, ↓r_l45_106, ↓r_l45_1508, ↓r_l45_1509, ↓r_tl45_0, ↓r_tl45_1, ↓r_tl45_2, ↓r_tl45_3, ↓r_tl45_4, ↓r_tl45_5, ↓r_tl45_6, ↓r_tl45_105, ↓r_tl45_106, ↓r_tl45_1508, ↓r_tl45_1509, ↓r_l48_0, ↓r_l56_0, ↓r_l57_0, ↓r_tl58_0, ↓r_tl58_1, ↓r_tl58_2, ↓r_tl58_3, ↓r_tl58_4, ↓bd_bd, ↓bd_rt, r_thb, r_th, r_gI, r_gJ, r_pI, r_pJ, r_g41, r_g42, r_g43, r_g44, r_g45, r_g46, r_g47, r_g48, r_g49, r_g50, r_g51, r_g52, r_g53, r_g54, r_g55, r_g56, r_g57, r_g58, r_a41, r_a42, r_a43, r_a44, r_a45, r_a46, r_a47, r_a48, r_a49, r_a50, r_a51, r_a52, r_a53, r_a54, r_a55, r_a56, r_a57, r_a58, r_t41, r_t42, r_t43, r_t44, r_t45, r_t46, r_t47, r_t48, r_t49, r_t50, r_t51, r_t52, r_t53, r_t54, r_t55, r_t56, r_t57, r_t58, r_l43_0, r_l45_0, r_l45_1, r_l45_2, r_l45_3, r_l45_4, r_l45_5, r_l45_6, r_l45_105, r_l45_106, r_l45_1508, r_l45_1509, r_tl45_0, r_tl45_1, r_tl45_2, r_tl45_3, r_tl45_4, r_tl45_5, r_tl45_6, r_tl45_105, r_tl45_106, r_tl45_1508, r_tl45_1509, r_l48_0, r_l56_0, r_l57_0, r_tl58_0, r_tl58_1, r_tl58_2, r_tl58_3, r_tl58_4, la_1, lm_1, la_2, lm_2, la_3, lm_3, la_6, lm_6, la_7, lm_7, la_8, lm_8, la_13, lm_13, la_19, lm_19, la_25, lm_25, la_33, lm_33, la_41, lm_41, la_49, lm_49, la_57, lm_57, la_60, lm_60, la_105, lm_105, la_107, lm_107, la_1508, lm_1508, la_96, lm_96, la_377, lm_377, la_1509, lm_1509, ↓reduceIte, ↓ap_ite, ↓bd_ite, bd_bd, bd_rt, ap_rt, ite_some, nI_add, nI_1, nz_1, nz_2, nz_3, nz_4, nz_5, nz_6, nz_7, nz_8, nz_9, nz_10, nz_11, nz_12, nz_m1, z_eq, if_true, if_false, e_some, ite_self, ↓bd_of (r_arePeople hR (hDν ν e) x), h0, ↓bd_of (r_refuse hR 5)]
      exact QR_st _ _
  · have hq256 : q < 256 := by omega
    have e2 := bcv_n q hq256
    have hsz : ∀ ν, fn_M_sizeOf (nI q) ν = some (nI (cnt q.testBit 8), ν) := fun ν => sizeOf_n hq256
    have hcle := cnt_le q.testBit 8
    by_cases z : cnt q.testBit 8 ≤ 4
    · have z1 : ((4 : Int32) < nI (cnt q.testBit 8)) = False := eq_false (nI_nlt (b := cnt q.testBit 8) (a := 4) z (by omega))
      have z2 : (nI (cnt q.testBit 8) ≤ (4 : Int32)) = True := eq_true (nI_le (b := 4) z (by omega))
      refine call_q h (fun μ hR => r_pre hR _) 0 (sbl q.testBit (cR μ) P T P (fun _ => -1) (avK q.testBit (cR μ) P (fun _ => -1))) ?_ (fun ν hR e ez => ?_)
      · unfold fn_C_stables fn_Ke_countStable
        simp (disch := first | exact hC | exact hP | exact hR | ((repeat first | apply ClsP_sI | apply ClsP_sJ | apply ClsP_rI | apply ClsP_rJ | apply ClsP_rY); exact hC) | ((repeat first | apply FamP_sI | apply FamP_sJ | apply FamP_rI | apply FamP_rJ | apply FamP_rY); exact hP) | ((repeat first | apply RefP_sI | apply RefP_sJ | apply RefP_rI | apply RefP_rJ | apply RefP_rY); exact hR) | ((repeat first | apply PlanP_sI | apply PlanP_sJ | apply PlanP_rI | apply PlanP_rJ | apply PlanP_rY); exact hL) | omega) only [↓c_main_thb, ↓c_tray_thb, ↓c_text_thb, ↓c_fam_thb, ↓c_per_thb, ↓c_thi_thb, ↓c_plan_thb, ↓c_ahd_thb, ↓c_then_thb, ↓c_sig_thb, ↓c_kee_thb, ↓c_gam_thb, ↓c_brd_thb, ↓c_main_r3, ↓c_main_r4, ↓c_main_r8, ↓c_main_r10, ↓c_main_r11, ↓c_main_r12, ↓c_main_r13, ↓c_main_r14, ↓c_text_r0, ↓c_ahd_r1, ↓c_ahd_r2, ↓c_ahd_r3, ↓c_sig_r0, ↓c_sig_r1, ↓c_kee_r0, ↓c_kee_r1, ↓c_kee_r2, ↓c_kee_r3, ↓c_kee_r5, ↓c_gam_r1, ↓c_gam_r2, ↓c_trays_r, ↓c_tray_r2, ↓c_brds_r, ↓c_brds_r0, ↓c_brds_r1, ↓c_fam_r7, ↓c_fam_r8, ↓c_pers_r, ↓c_per_r4, ↓c_itm_r, ↓c_plan_r2, ↓c_plan_r3, ↓c_plan_r4, ↓c_plan_r5, ↓c_plan_r6, ↓c_plan_r11, ↓c_plan_r12, ↓c_main_R5, ↓c_main_R6, ↓c_main_R7, ↓c_fam_R9, ↓c_main_th, ↓c_main_gI, ↓c_main_gJ, ↓c_main_pI, ↓c_main_pJ, ↓c_main_pR, ↓c_main_pZ, ↓c_tray_th, ↓c_tray_gI, ↓c_tray_pI, ↓c_tray_pR, ↓c_text_th, ↓c_text_gI, ↓c_text_gJ, ↓c_text_pI, ↓c_text_pJ, ↓c_text_pR, ↓c_fam_th, ↓c_fam_gI, ↓c_fam_pI, ↓c_fam_pR, ↓c_per_th, ↓c_per_gI, ↓c_per_gJ, ↓c_per_pI, ↓c_per_pJ, ↓c_per_pR, ↓c_per_pZ, ↓c_thi_th, ↓c_thi_gI, ↓c_thi_gJ, ↓c_thi_pI, ↓c_thi_pJ, ↓c_plan_th, ↓c_plan_gI, ↓c_plan_pI, ↓c_plan_pR, ↓c_plan_pZ, ↓c_ahd_th, ↓c_ahd_gI, ↓c_ahd_pI, ↓c_ahd_pR, ↓c_then_th, ↓c_then_gI, ↓c_then_gJ, ↓c_then_pI, ↓c_then_pJ, ↓c_sig_th, ↓c_sig_gI, ↓c_sig_pI, ↓c_sig_pR, ↓c_kee_th, ↓c_kee_gI, ↓c_kee_pI, ↓c_kee_pR, ↓c_gam_th, ↓c_gam_gI, ↓c_gam_pI, ↓c_gam_pR, ↓c_brd_th, ↓c_brd_gI, ↓c_brd_gJ, ↓c_brd_pI, ↓c_brd_pJ, ↓c_nums_a, ↓c_nums_t, ↓c_bytes_a, ↓c_bytes_t, ↓c_lov_a, ↓c_lov_t, ↓c_parr_a, ↓c_parr_t, ↓c_plps_a, ↓c_plps_t, ↓c_mkd_a, ↓c_sav_a, ↓c_sav_t, ↓c_wut_a, ↓c_wut_t, ↓c_wut_a0, ↓c_wut_t0, ↓c_fits_a, ↓c_fits_t, ↓c_wsum_a, ↓c_wsum_t, ↓c_wsum_a0, ↓c_wsum_t0, ↓c_ckp_a, ↓c_ckp_t, ↓c_ckr_a, ↓c_ckr_t, ↓c_cas_a, ↓c_cas_t, ↓c_cmb_a, ↓c_cmb_t, ↓c_clb_a, ↓c_clb_t, ↓c_clb_a0, ↓c_clb_t0, ↓c_glv_a, ↓c_glv_t, ↓c_clv_a, ↓c_clv_t, ↓c_clv_a0, ↓c_clv_t0, ↓c_clv_a1, ↓c_clv_t1, ↓c_clv_a2, ↓c_clv_t2, ↓c_clv_a3, ↓c_clv_t3, ↓c_clv_a4, ↓c_clv_t4, ↓bd_bd, ↓bd_rt, c_main_thb, c_tray_thb, c_text_thb, c_fam_thb, c_per_thb, c_thi_thb, c_plan_thb, c_ahd_thb, c_then_thb, c_sig_thb, c_kee_thb, c_gam_thb, c_brd_thb, c_main_r3, c_main_r4, c_main_r8, c_main_r10, c_main_r11, c_main_r12, c_main_r13, c_main_r14, c_text_r0, c_ahd_r1, c_ahd_r2, c_ahd_r3, c_sig_r0, c_sig_r1, c_kee_r0, c_kee_r1, c_kee_r2, c_kee_r3, c_kee_r5, c_gam_r1, c_gam_r2, c_trays_r, c_tray_r2, c_brds_r, c_brds_r0, c_brds_r1, c_fam_r7, c_fam_r8, c_pers_r, c_per_r4, c_itm_r, c_plan_r2, c_plan_r3, c_plan_r4, c_plan_r5, c_plan_r6, c_plan_r11, c_plan_r12, c_main_R5, c_main_R6, c_main_R7, c_fam_R9, c_main_th, c_main_gI, c_main_gJ, c_main_pI, c_main_pJ, c_main_pR, c_main_pZ, c_tray_th, c_tray_gI, c_tray_pI, c_tray_pR, c_text_th, c_text_gI, c_text_gJ, c_text_pI, c_text_pJ, c_text_pR, c_fam_th, c_fam_gI, c_fam_pI, c_fam_pR, c_per_th, c_per_gI, c_per_gJ, c_per_pI, c_per_pJ, c_per_pR, c_per_pZ, c_thi_th, c_thi_gI, c_thi_gJ, c_thi_pI, c_thi_pJ, c_plan_th, c_plan_gI, c_plan_pI, c_plan_pR, c_plan_pZ, c_ahd_th, c_ahd_gI, c_ahd_pI, c_ahd_pR, c_then_th, c_then_gI, c_then_gJ, c_then_pI, c_then_pJ, c_sig_th, c_sig_gI, c_sig_pI, c_sig_pR, c_kee_th, c_kee_gI, c_kee_pI, c_kee_pR, c_gam_th, c_gam_gI, c_gam_pI, c_gam_pR, c_brd_th, c_brd_gI, c_brd_gJ, c_brd_pI, c_brd_pJ, c_nums_a, c_nums_t, c_bytes_a, c_bytes_t, c_lov_a, c_lov_t, c_parr_a, c_parr_t, c_plps_a, c_plps_t, c_mkd_a, c_sav_a, c_sav_t, c_wut_a, c_wut_t, c_wut_a0, c_wut_t0, c_fits_a, c_fits_t, c_wsum_a, c_wsum_t, c_wsum_a0, c_wsum_t0, c_ckp_a, c_ckp_t, c_ckr_a, c_ckr_t, c_cas_a, c_cas_t, c_cmb_a, c_cmb_t, c_clb_a, c_clb_t, c_clb_a0, c_clb_t0, c_glv_a, c_glv_t, c_clv_a, c_clv_t, c_clv_a0, c_clv_t0, c_clv_a1, c_clv_t1, c_clv_a2, c_clv_t2, c_clv_a3, c_clv_t3, c_clv_a4, c_clv_t4, ↓reduceIte, ↓ap_ite, ↓bd_ite, bd_bd, bd_rt, ap_rt, ite_some, nI_add, nI_1, R_sI, R_sJ, nz_1, nz_2, nz_3, nz_4, nz_5, nz_6, nz_7, nz_8, nz_9, nz_10, nz_11, nz_12, nz_m1, z_eq, if_true, if_false, e_some, ite_self, hM, fi_P hI hD, ↓bd_of (k_isSet (q := nI q) (μ := μ) hP8), h0, ↓bd_of (bc_eq (nI q) μ), e2, z1, I_row, ud_at]
        refine e_bd (k_gather hc0 hq256) ?_
        rintro - μ1 ⟨b1, b2, b3, b4, -⟩
        have hc1 := Cur_sm hc0 b1 (by omega)
        have hkn : ∀ t, t < 8 → krOf q.testBit P (fun _ => -1) t = -1 := fun t ht => krOf_0 ht
        have hk := (k_countFrom hO 8 P 0 (by omega) (by omega) μ1 (fun _ => -1) hc1 b2 ⟨b3, fun k hk => by rw [b4 k hk, hkn k hk], fun _ _ => .inl rfl, fun t ht => .inl (hkn t (by omega))⟩ (fun _ _ _ => rfl))
        rw [show nI (cnt q.testBit 0) = 0 from rfl] at hk
        rw [bd_bd]
        refine e_bd hk ?_
        rintro _ μ2 ⟨rfl, d1, -⟩
        refine ⟨_, _, rfl, rfl, by rw [sm_I d1 (by omega), sm_I b1 (by omega), I_row, ud_at], sm_tr (sm_sI sm_rf _ (.inl ⟨rfl, rfl⟩)) (sm_tr (sm_mono b1 (fun _ _ _ _ q => KC_r (by omega) (by omega))) (sm_mono d1 (fun _ _ _ _ q => KC_r (by omega) (by omega))))⟩
      · have hth := r_throughs hR (hDν ν e)
        rw [show cR ν = cR μ from (e 45 (by omega)).1, i_set_n _ T hT8] at hth
        have hW := n_set_lt (i_thr (cR μ)) T
        simp (disch := first | exact hC | exact hP | exact hR | ((repeat first | apply ClsP_sI | apply ClsP_sJ | apply ClsP_rI | apply ClsP_rJ | apply ClsP_rY); exact hC) | ((repeat first | apply FamP_sI | apply FamP_sJ | apply FamP_rI | apply FamP_rJ | apply FamP_rY); exact hP) | ((repeat first | apply RefP_sI | apply RefP_sJ | apply RefP_rI | apply RefP_rJ | apply RefP_rY); exact hR) | ((repeat first | apply PlanP_sI | apply PlanP_sJ | apply PlanP_rI | apply PlanP_rJ | apply PlanP_rY); exact hL) | omega) only [↓r_thb, ↓r_th, ↓r_gI, ↓r_gJ, ↓r_pI, ↓r_pJ, ↓r_g41, ↓r_g42, ↓r_g43, ↓r_g44, ↓r_g45, ↓r_g46, ↓r_g47, ↓r_g48, ↓r_g49, ↓r_g50, ↓r_g51, ↓r_g52, ↓r_g53, ↓r_g54, ↓r_g55, ↓r_g56, ↓r_g57, ↓r_g58, ↓r_a41, ↓r_a42, ↓r_a43, ↓r_a44, ↓r_a45, ↓r_a46, ↓r_a47, ↓r_a48, ↓r_a49, ↓r_a50, ↓r_a51, ↓r_a52, ↓r_a53, ↓r_a54, ↓r_a55, ↓r_a56, ↓r_a57, ↓r_a58, ↓r_t41, ↓r_t42, ↓r_t43, ↓r_t44, ↓r_t45, ↓r_t46, ↓r_t47, ↓r_t48, ↓r_t49, ↓r_t50, ↓r_t51, ↓r_t52, ↓r_t53, ↓r_t54, ↓r_t55, ↓r_t56, ↓r_t57, ↓r_t58, ↓r_l43_0, ↓r_l45_0, ↓r_l45_1, ↓r_l45_2, ↓r_l45_3, ↓r_l45_4, ↓r_l45_5, ↓r_l45_6, ↓r_l45_105, ↓r_l45_106, ↓r_l45_1508, ↓r_l45_1509, ↓r_tl45_0, ↓r_tl45_1, ↓r_tl45_2, ↓r_tl45_3, ↓r_tl45_4, ↓r_tl45_5, ↓r_tl45_6, ↓r_tl45_105, ↓r_tl45_106, ↓r_tl45_1508, ↓r_tl45_1509, ↓r_l48_0, ↓r_l56_0, ↓r_l57_0, ↓r_tl58_0, ↓r_tl58_1, ↓r_tl58_2, ↓r_tl58_3, ↓r_tl58_4, ↓bd_bd, ↓bd_rt, r_thb, r_th, r_gI, r_gJ, r_pI, r_pJ, r_g41, r_g42, r_g43, r_g44, r_g45, r_g46, r_g47, r_g48, r_g49, r_g50, r_g51, r_g52, r_g53, r_g54, r_g55, r_g56, r_g57, r_g58, r_a41, r_a42, r_a43, r_a44, r_a45, r_a46, r_a47, r_a48, r_a49, r_a50, r_a51, r_a52, r_a53, r_a54, r_a55, r_a56, r_a57, r_a58, r_t41, r_t42, r_t43, r_t44, r_t45, r_t46, r_t47, r_t48, r_t49, r_t50, r_t51, r_t52, r_t53, r_t54, r_t55, r_t56, r_t57, r_t58, r_l43_0, r_l45_0, r_l45_1, r_l45_2, r_l45_3, r_l45_4, r_l45_5, r_l45_6, r_l45_105, r_l45_106, r_l45_1508, r_l45_1509, r_tl45_0, r_tl45_1, r_tl45_2, r_tl45_3, r_tl45_4, r_tl45_5, r_tl45_6, r_tl45_105, r_tl45_106, r_tl45_1508, r_tl45_1509, r_l48_0, r_l56_0, r_l57_0, r_tl58_0, r_tl58_1, r_tl58_2, r_tl58_3, r_tl58_4, la_1, lm_1, la_2, lm_2, la_3, lm_3, la_6, lm_6, la_7, lm_7, la_8, lm_8, la_13, lm_13, la_19, lm_19, la_25, lm_25, la_33, lm_33, la_41, lm_41, la_49, lm_49, la_57, lm_57, la_60, lm_60, la_105, lm_105, la_107, lm_107, la_1508, lm_1508, la_96, lm_96, la_377, lm_377, la_1509, lm_1509, ↓reduceIte, ↓ap_ite, ↓bd_ite, bd_bd, bd_rt, ap_rt, ite_some, nI_add, nI_1, nz_1, nz_2, nz_3, nz_4, nz_5, nz_6, nz_7, nz_8, nz_9, nz_10, nz_11, nz_12, nz_m1, z_eq, if_true, if_false, e_some, ite_self, ↓bd_of (r_arePeople hR (hDν ν e) (nI q)), h0, ↓bd_of (hsz ν), z2, ↓bd_of hth]
        refine e_bd (r_stablesOf hD hO hq 8 P 0 (by omega) (by omega) ν (fun _ => -1) (n_set (i_thr (cR μ)) T) hR (e 45 (by omega)).1 (by omega) (fun k hk => absurd hk (Nat.not_lt_zero k)) (fun _ _ _ => rfl) (fun _ _ => .inl rfl) (fun t ht => by rw [avK_0 (by omega), avC_W ht]; rfl)) ?_
        rintro _ ν1 ⟨rfl, d1⟩
        exact ⟨_, _, rfl, rfl, by rw [sm_I d1 (by omega)]; exact ez.1, sm_mono d1 (by unfold KR; omega)⟩
    · have z1 : ((4 : Int32) < nI (cnt q.testBit 8)) = True := eq_true (nI_lt (a := 4) (by omega) (by omega))
      have z2 : (nI (cnt q.testBit 8) ≤ (4 : Int32)) = False := eq_false (nI_ge (a := 4) (by omega) (by omega))
      refine call_q h (fun μ hR => r_pre hR _) 5 (-1) ?_ (fun ν hR e ez => ?_)
      · unfold fn_C_stables
        simp (disch := first | exact hC | exact hP | exact hR | ((repeat first | apply ClsP_sI | apply ClsP_sJ | apply ClsP_rI | apply ClsP_rJ | apply ClsP_rY); exact hC) | ((repeat first | apply FamP_sI | apply FamP_sJ | apply FamP_rI | apply FamP_rJ | apply FamP_rY); exact hP) | ((repeat first | apply RefP_sI | apply RefP_sJ | apply RefP_rI | apply RefP_rJ | apply RefP_rY); exact hR) | ((repeat first | apply PlanP_sI | apply PlanP_sJ | apply PlanP_rI | apply PlanP_rJ | apply PlanP_rY); exact hL) | omega) only [↓c_main_thb, ↓c_tray_thb, ↓c_text_thb, ↓c_fam_thb, ↓c_per_thb, ↓c_thi_thb, ↓c_plan_thb, ↓c_ahd_thb, ↓c_then_thb, ↓c_sig_thb, ↓c_kee_thb, ↓c_gam_thb, ↓c_brd_thb, ↓c_main_r3, ↓c_main_r4, ↓c_main_r8, ↓c_main_r10, ↓c_main_r11, ↓c_main_r12, ↓c_main_r13, ↓c_main_r14, ↓c_text_r0, ↓c_ahd_r1, ↓c_ahd_r2, ↓c_ahd_r3, ↓c_sig_r0, ↓c_sig_r1, ↓c_kee_r0, ↓c_kee_r1, ↓c_kee_r2, ↓c_kee_r3, ↓c_kee_r5, ↓c_gam_r1, ↓c_gam_r2, ↓c_trays_r, ↓c_tray_r2, ↓c_brds_r, ↓c_brds_r0, ↓c_brds_r1, ↓c_fam_r7, ↓c_fam_r8, ↓c_pers_r, ↓c_per_r4, ↓c_itm_r, ↓c_plan_r2, ↓c_plan_r3, ↓c_plan_r4, ↓c_plan_r5, ↓c_plan_r6, ↓c_plan_r11, ↓c_plan_r12, ↓c_main_R5, ↓c_main_R6, ↓c_main_R7, ↓c_fam_R9, ↓c_main_th, ↓c_main_gI, ↓c_main_gJ, ↓c_main_pI, ↓c_main_pJ, ↓c_main_pR, ↓c_main_pZ, ↓c_tray_th, ↓c_tray_gI, ↓c_tray_pI, ↓c_tray_pR, ↓c_text_th, ↓c_text_gI, ↓c_text_gJ, ↓c_text_pI, ↓c_text_pJ, ↓c_text_pR, ↓c_fam_th, ↓c_fam_gI, ↓c_fam_pI, ↓c_fam_pR, ↓c_per_th, ↓c_per_gI, ↓c_per_gJ, ↓c_per_pI, ↓c_per_pJ, ↓c_per_pR, ↓c_per_pZ, ↓c_thi_th, ↓c_thi_gI, ↓c_thi_gJ, ↓c_thi_pI, ↓c_thi_pJ, ↓c_plan_th, ↓c_plan_gI, ↓c_plan_pI, ↓c_plan_pR, ↓c_plan_pZ, ↓c_ahd_th, ↓c_ahd_gI, ↓c_ahd_pI, ↓c_ahd_pR, ↓c_then_th, ↓c_then_gI, ↓c_then_gJ, ↓c_then_pI, ↓c_then_pJ, ↓c_sig_th, ↓c_sig_gI, ↓c_sig_pI, ↓c_sig_pR, ↓c_kee_th, ↓c_kee_gI, ↓c_kee_pI, ↓c_kee_pR, ↓c_gam_th, ↓c_gam_gI, ↓c_gam_pI, ↓c_gam_pR, ↓c_brd_th, ↓c_brd_gI, ↓c_brd_gJ, ↓c_brd_pI, ↓c_brd_pJ, ↓c_nums_a, ↓c_nums_t, ↓c_bytes_a, ↓c_bytes_t, ↓c_lov_a, ↓c_lov_t, ↓c_parr_a, ↓c_parr_t, ↓c_plps_a, ↓c_plps_t, ↓c_mkd_a, ↓c_sav_a, ↓c_sav_t, ↓c_wut_a, ↓c_wut_t, ↓c_wut_a0, ↓c_wut_t0, ↓c_fits_a, ↓c_fits_t, ↓c_wsum_a, ↓c_wsum_t, ↓c_wsum_a0, ↓c_wsum_t0, ↓c_ckp_a, ↓c_ckp_t, ↓c_ckr_a, ↓c_ckr_t, ↓c_cas_a, ↓c_cas_t, ↓c_cmb_a, ↓c_cmb_t, ↓c_clb_a, ↓c_clb_t, ↓c_clb_a0, ↓c_clb_t0, ↓c_glv_a, ↓c_glv_t, ↓c_clv_a, ↓c_clv_t, ↓c_clv_a0, ↓c_clv_t0, ↓c_clv_a1, ↓c_clv_t1, ↓c_clv_a2, ↓c_clv_t2, ↓c_clv_a3, ↓c_clv_t3, ↓c_clv_a4, ↓c_clv_t4, ↓bd_bd, ↓bd_rt, c_main_thb, c_tray_thb, c_text_thb, c_fam_thb, c_per_thb, c_thi_thb, c_plan_thb, c_ahd_thb, c_then_thb, c_sig_thb, c_kee_thb, c_gam_thb, c_brd_thb, c_main_r3, c_main_r4, c_main_r8, c_main_r10, c_main_r11, c_main_r12, c_main_r13, c_main_r14, c_text_r0, c_ahd_r1, c_ahd_r2, c_ahd_r3, c_sig_r0, c_sig_r1, c_kee_r0, c_kee_r1, c_kee_r2, c_kee_r3, c_kee_r5, c_gam_r1, c_gam_r2, c_trays_r, c_tray_r2, c_brds_r, c_brds_r0, c_brds_r1, c_fam_r7, c_fam_r8, c_pers_r, c_per_r4, c_itm_r, c_plan_r2, c_plan_r3, c_plan_r4, c_plan_r5, c_plan_r6, c_plan_r11, c_plan_r12, c_main_R5, c_main_R6, c_main_R7, c_fam_R9, c_main_th, c_main_gI, c_main_gJ, c_main_pI, c_main_pJ, c_main_pR, c_main_pZ, c_tray_th, c_tray_gI, c_tray_pI, c_tray_pR, c_text_th, c_text_gI, c_text_gJ, c_text_pI, c_text_pJ, c_text_pR, c_fam_th, c_fam_gI, c_fam_pI, c_fam_pR, c_per_th, c_per_gI, c_per_gJ, c_per_pI, c_per_pJ, c_per_pR, c_per_pZ, c_thi_th, c_thi_gI, c_thi_gJ, c_thi_pI, c_thi_pJ, c_plan_th, c_plan_gI, c_plan_pI, c_plan_pR, c_plan_pZ, c_ahd_th, c_ahd_gI, c_ahd_pI, c_ahd_pR, c_then_th, c_then_gI, c_then_gJ, c_then_pI, c_then_pJ, c_sig_th, c_sig_gI, c_sig_pI, c_sig_pR, c_kee_th, c_kee_gI, c_kee_pI, c_kee_pR, c_gam_th, c_gam_gI, c_gam_pI, c_gam_pR, c_brd_th, c_brd_gI, c_brd_gJ, c_brd_pI, c_brd_pJ, c_nums_a, c_nums_t, c_bytes_a, c_bytes_t, c_lov_a, c_lov_t, c_parr_a, c_parr_t, c_plps_a, c_plps_t, c_mkd_a, c_sav_a, c_sav_t, c_wut_a, c_wut_t, c_wut_a0, c_wut_t0, c_fits_a, c_fits_t, c_wsum_a, c_wsum_t, c_wsum_a0, c_wsum_t0, c_ckp_a, c_ckp_t, c_ckr_a, c_ckr_t, c_cas_a, c_cas_t, c_cmb_a, c_cmb_t, c_clb_a, c_clb_t, c_clb_a0, c_clb_t0, c_glv_a, c_glv_t, c_clv_a, c_clv_t, c_clv_a0, c_clv_t0, c_clv_a1, c_clv_t1, c_clv_a2, c_clv_t2, c_clv_a3, c_clv_t3, c_clv_a4, c_clv_t4, ↓reduceIte, ↓ap_ite, ↓bd_ite, bd_bd, bd_rt, ap_rt, ite_some, nI_add, nI_1, R_sI, R_sJ, nz_1, nz_2, nz_3, nz_4, nz_5, nz_6, nz_7, nz_8, nz_9, nz_10, nz_11, nz_12, nz_m1, z_eq, if_true, if_false, e_some, ite_self, hM, fi_P hI hD, ↓bd_of (k_isSet (q := nI q) (μ := μ) hP8), h0, ↓bd_of (bc_eq (nI q) μ), e2, z1, I_row, ud_at]
        exact QC_st _ _
      · simp (disch := first | exact hC | exact hP | exact hR | ((repeat first | apply ClsP_sI | apply ClsP_sJ | apply ClsP_rI | apply ClsP_rJ | apply ClsP_rY); exact hC) | ((repeat first | apply FamP_sI | apply FamP_sJ | apply FamP_rI | apply FamP_rJ | apply FamP_rY); exact hP) | ((repeat first | apply RefP_sI | apply RefP_sJ | apply RefP_rI | apply RefP_rJ | apply RefP_rY); exact hR) | ((repeat first | apply PlanP_sI | apply PlanP_sJ | apply PlanP_rI | apply PlanP_rJ | apply PlanP_rY); exact hL) | omega) only [↓r_thb, ↓r_th, ↓r_gI, ↓r_gJ, ↓r_pI, ↓r_pJ, ↓r_g41, ↓r_g42, ↓r_g43, ↓r_g44, ↓r_g45, ↓r_g46, ↓r_g47, ↓r_g48, ↓r_g49, ↓r_g50, ↓r_g51, ↓r_g52, ↓r_g53, ↓r_g54, ↓r_g55, ↓r_g56, ↓r_g57, ↓r_g58, ↓r_a41, ↓r_a42, ↓r_a43, ↓r_a44, ↓r_a45, ↓r_a46, ↓r_a47, ↓r_a48, ↓r_a49, ↓r_a50, ↓r_a51, ↓r_a52, ↓r_a53, ↓r_a54, ↓r_a55, ↓r_a56, ↓r_a57, ↓r_a58, ↓r_t41, ↓r_t42, ↓r_t43, ↓r_t44, ↓r_t45, ↓r_t46, ↓r_t47, ↓r_t48, ↓r_t49, ↓r_t50, ↓r_t51, ↓r_t52, ↓r_t53, ↓r_t54, ↓r_t55, ↓r_t56, ↓r_t57, ↓r_t58, ↓r_l43_0, ↓r_l45_0, ↓r_l45_1, ↓r_l45_2, ↓r_l45_3, ↓r_l45_4, ↓r_l45_5, ↓r_l45_6, ↓r_l45_105, ↓r_l45_106, ↓r_l45_1508, ↓r_l45_1509, ↓r_tl45_0, ↓r_tl45_1, ↓r_tl45_2, ↓r_tl45_3, ↓r_tl45_4, ↓r_tl45_5, ↓r_tl45_6, ↓r_tl45_105, ↓r_tl45_106, ↓r_tl45_1508, ↓r_tl45_1509, ↓r_l48_0, ↓r_l56_0, ↓r_l57_0, ↓r_tl58_0, ↓r_tl58_1, ↓r_tl58_2, ↓r_tl58_3, ↓r_tl58_4, ↓bd_bd, ↓bd_rt, r_thb, r_th, r_gI, r_gJ, r_pI, r_pJ, r_g41, r_g42, r_g43, r_g44, r_g45, r_g46, r_g47, r_g48, r_g49, r_g50, r_g51, r_g52, r_g53, r_g54, r_g55, r_g56, r_g57, r_g58, r_a41, r_a42, r_a43, r_a44, r_a45, r_a46, r_a47, r_a48, r_a49, r_a50, r_a51, r_a52, r_a53, r_a54, r_a55, r_a56, r_a57, r_a58, r_t41, r_t42, r_t43, r_t44, r_t45, r_t46, r_t47, r_t48, r_t49, r_t50, r_t51, r_t52, r_t53, r_t54, r_t55, r_t56, r_t57, r_t58, r_l43_0, r_l45_0, r_l45_1, r_l45_2, r_l45_3, r_l45_4, r_l45_5, r_l45_6, r_l45_105, r_l45_106, r_l45_1508, r_l45_1509, r_tl45_0, r_tl45_1, r_tl45_2, r_tl45_3, r_tl45_4, r_tl45_5, r_tl45_6, r_tl45_105, r_tl45_106, r_tl45_1508, r_tl45_1509, r_l48_0, r_l56_0, r_l57_0, r_tl58_0, r_tl58_1, r_tl58_2, r_tl58_3, r_tl58_4, la_1, lm_1, la_2, lm_2, la_3, lm_3, la_6, lm_6, la_7, lm_7, la_8, lm_8, la_13, lm_13, la_19, lm_19, la_25, lm_25, la_33, lm_33, la_41, lm_41, la_49, lm_49, la_57, lm_57, la_60, lm_60, la_105, lm_105, la_107, lm_107, la_1508, lm_1508, la_96, lm_96, la_377, lm_377, la_1509, lm_1509, ↓reduceIte, ↓ap_ite, ↓bd_ite, bd_bd, bd_rt, ap_rt, ite_some, nI_add, nI_1, nz_1, nz_2, nz_3, nz_4, nz_5, nz_6, nz_7, nz_8, nz_9, nz_10, nz_11, nz_12, nz_m1, z_eq, if_true, if_false, e_some, ite_self, ↓bd_of (r_arePeople hR (hDν ν e) (nI q)), h0, ↓bd_of (hsz ν), z2, ↓bd_of (r_refuse hR 5)]
        exact QR_st _ _
end CT
