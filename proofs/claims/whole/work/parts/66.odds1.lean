/-! Part 66: how the reference spreads odds; lasts, thickFor -/
def y_ag (c : Nat → Int32) (P : Nat) : Nat → Nat → Int32
  | 0 => c
  | i + 1 => y_ages (y_ag c P i) P
set_option maxHeartbeats 200000 in
theorem ages_c {c c' : Nat → Int32} {P : Nat} (hP : P ≤ 6) (h : ∀ k, k < 25 → c k = c' k) {k : Nat} (hk : k < 25) : y_ages c P k = y_ages c' P k := by
  unfold y_ages y_age y_liv
  by_cases h1 : 7 ≤ k ∧ k < 7 + P
  · rw [if_pos h1, if_pos h1, h _ (by omega), h _ (by omega)]
  · by_cases h2 : 19 ≤ k ∧ k < 19 + P
    · rw [if_neg h1, if_pos h2, if_neg h1, if_pos h2, h _ (by omega), h 3 (by omega), h _ (by omega)]
    · rw [if_neg h1, if_neg h2, if_neg h1, if_neg h2, h k hk]
set_option maxHeartbeats 200000 in
theorem ag_sts {c : Nat → Int32} {P T : Nat} (hP : P ≤ 6) : ∀ i k, k < 25 → y_ag c P i k = y_sts c P T i k
  | 0, _, _ => rfl
  | i + 1, k, hk => by
    show y_ages (y_ag c P i) P k = y_step (y_sts c P T i) P T k
    unfold y_step
    rw [y_bites_at (by omega) (by omega) (by omega)]
    exact ages_c hP (fun j hj => ag_sts hP i j hj) hk
set_option maxHeartbeats 200000 in
theorem y_ag_at {c : Nat → Int32} {P : Nat} (hP : P ≤ 6) {k : Nat} (h : k < 7 ∨ (13 ≤ k ∧ k < 19) ∨ 25 ≤ k) : ∀ i, y_ag c P i k = c k
  | 0 => rfl
  | i + 1 => by
    show y_ages (y_ag c P i) P k = _
    rw [y_ages_at (by omega) (by omega), y_ag_at hP h i]
def c_ag (c : Nat → Int32) (P t oi i : Nat) : Nat → Int32 := fun k => if k = 49 + t then nI (oi - i) else y_ag c P i k
set_option maxHeartbeats 200000 in
theorem lvN_ag {c : Nat → Int32} {P T t oi j i : Nat} (h : Okc c P T) (ht : t < 8) (hP : P ≤ 6) (hT : T ≤ 8) (hi : i < 1000) {c' : Nat → Int32} (hc : ∀ k, k ≠ 49 + t → c' k = y_ag c P i k) : i_lvf (i_sho c') c' t P = lvN c P t i := by
  unfold lvN
  refine i_lvf_congr P (fun k hk => ?_) (fun k hk => ?_)
  · rw [← sho_sts h hk hP hT (show i < 2000 by omega)]
    have : i_sho c' k = i_sho (y_sts c P T i) k := i_sho_c (fun j hj => by rw [hc j (by omega), ag_sts hP i j hj]) (by omega)
    rw [this]
  · rw [hc _ (by omega), y_ag_at hP (by omega)]
set_option maxHeartbeats 200000 in
theorem bitten_n {μ : mM} {l d : Nat} (hl : l ≤ 54) (hd : d ≤ 9) {o : Int32} {oi : Nat} (ho : (o = 0) = (oi = 0)) : fn_M_bitten (nI l) (nI d) o μ = some (nI (bbt l oi d), μ) := by
  have hm := Nat.mul_le_mul hl hd
  have e4 : nI (l * d) / 4 = nI (l * d / 4) := pk_div (a := l * d) (d := 4) (by omega) (by omega) (by decide)
  have e5 : nI (l * d / 4) / 2 = nI (l * d / 4 / 2) := pk_div (a := l * d / 4) (d := 2) (by omega) (by omega) (by decide)
  unfold fn_M_bitten bbt
  simp only [↓bd_bd, ↓bd_rt, ↓reduceIte, ↓ap_ite, ↓bd_ite, bd_bd, bd_rt, ap_rt, ite_some, nz_1, nz_2, nz_3, nz_4, nz_5, nz_6, nz_7, nz_8, nz_9, nz_10, nz_11, nz_12, nz_m1, z_eq, if_true, if_false, e_some, ite_self, ho, pk_mul, e4, e5]
  split <;> rfl
section RB
variable {ν : mM}
set_option maxHeartbeats 200000 in
theorem r_clearMore (hR : RefP ν) : m_lp (fn_M_laysBites_l60 (some (40, 0, 0))) m_F 0 ν = some ((), m_rJ ν (57, 0, 0) (fun k => if k < 800 then 0 else m_J ν (57, 0, 0) k)) := by
  have hk := lp_nat (body := fn_M_laysBites_l60 (some (40, 0, 0))) (fun j => nI j) (fun j => m_rJ ν (57, 0, 0) (fun k => if k < j then 0 else m_J ν (57, 0, 0) k)) 800 (x := ()) (μe := m_rJ ν (57, 0, 0) (fun k => if k < 800 then 0 else m_J ν (57, 0, 0) k)) (fun j hj => ?_) ?_ (F := m_F) (by have := F_gt; omega)
  · rw [fill_0 (by intro k; omega), rJ_self, nI_0] at hk
    exact hk
  · have hge : ¬ (800 : Int32) ≤ nI j := nI_ge hj (by decide)
    unfold fn_M_laysBites_l60
    simp (disch := first | exact hC | exact hP | exact hR | ((repeat first | apply ClsP_sI | apply ClsP_sJ | apply ClsP_rI | apply ClsP_rJ | apply ClsP_rY); exact hC) | ((repeat first | apply FamP_sI | apply FamP_sJ | apply FamP_rI | apply FamP_rJ | apply FamP_rY); exact hP) | ((repeat first | apply RefP_sI | apply RefP_sJ | apply RefP_rI | apply RefP_rJ | apply RefP_rY); exact hR) | ((repeat first | apply PlanP_sI | apply PlanP_sJ | apply PlanP_rI | apply PlanP_rJ | apply PlanP_rY); exact hL) | omega) only [↓r_thb, ↓r_th, ↓r_gI, ↓r_gJ, ↓r_pI, ↓r_pJ, ↓r_g41, ↓r_g42, ↓r_g43, ↓r_g44, ↓r_g45, ↓r_g46, ↓r_g47, ↓r_g48, ↓r_g49, ↓r_g50, ↓r_g51, ↓r_g52, ↓r_g53, ↓r_g54, ↓r_g55, ↓r_g56, ↓r_g57, ↓r_g58, ↓r_a41, ↓r_a42, ↓r_a43, ↓r_a44, ↓r_a45, ↓r_a46, ↓r_a47, ↓r_a48, ↓r_a49, ↓r_a50, ↓r_a51, ↓r_a52, ↓r_a53, ↓r_a54, ↓r_a55, ↓r_a56, ↓r_a57, ↓r_a58, ↓r_t41, ↓r_t42, ↓r_t43, ↓r_t44, ↓r_t45, ↓r_t46, ↓r_t47, ↓r_t48, ↓r_t49, ↓r_t50, ↓r_t51, ↓r_t52, ↓r_t53, ↓r_t54, ↓r_t55, ↓r_t56, ↓r_t57, ↓r_t58, ↓r_l43_0, ↓r_l45_0, ↓r_l45_1, ↓r_l45_2, ↓r_l45_3, ↓r_l45_4, ↓r_l45_5, ↓r_l45_6, ↓r_l45_105, ↓r_l45_106, ↓r_l45_1508, ↓r_l45_1509, ↓r_tl45_0, ↓r_tl45_1, ↓r_tl45_2, ↓r_tl45_3, ↓r_tl45_4, ↓r_tl45_5, ↓r_tl45_6, ↓r_tl45_105, ↓r_tl45_106, ↓r_tl45_1508, ↓r_tl45_1509, ↓r_l48_0, ↓r_l56_0, ↓r_l57_0, ↓r_tl58_0, ↓r_tl58_1, ↓r_tl58_2, ↓r_tl58_3, ↓r_tl58_4, ↓bd_bd, ↓bd_rt, r_thb, r_th, r_gI, r_gJ, r_pI, r_pJ, r_g41, r_g42, r_g43, r_g44, r_g45, r_g46, r_g47, r_g48, r_g49, r_g50, r_g51, r_g52, r_g53, r_g54, r_g55, r_g56, r_g57, r_g58, r_a41, r_a42, r_a43, r_a44, r_a45, r_a46, r_a47, r_a48, r_a49, r_a50, r_a51, r_a52, r_a53, r_a54, r_a55, r_a56, r_a57, r_a58, r_t41, r_t42, r_t43, r_t44, r_t45, r_t46, r_t47, r_t48, r_t49, r_t50, r_t51, r_t52, r_t53, r_t54, r_t55, r_t56, r_t57, r_t58, r_l43_0, r_l45_0, r_l45_1, r_l45_2, r_l45_3, r_l45_4, r_l45_5, r_l45_6, r_l45_105, r_l45_106, r_l45_1508, r_l45_1509, r_tl45_0, r_tl45_1, r_tl45_2, r_tl45_3, r_tl45_4, r_tl45_5, r_tl45_6, r_tl45_105, r_tl45_106, r_tl45_1508, r_tl45_1509, r_l48_0, r_l56_0, r_l57_0, r_tl58_0, r_tl58_1, r_tl58_2, r_tl58_3, r_tl58_4, la_1, lm_1, la_2, lm_2, la_3, lm_3, la_6, lm_6, la_7, lm_7, la_8, lm_8, la_13, lm_13, la_19, lm_19, la_25, lm_25, la_33, lm_33, la_41, lm_41, la_49, lm_49, la_57, lm_57, la_60, lm_60, la_105, lm_105, la_107, lm_107, la_1508, lm_1508, la_96, lm_96, la_377, lm_377, la_1509, lm_1509, ↓reduceIte, ↓ap_ite, ↓bd_ite, bd_bd, bd_rt, ap_rt, ite_some, nI_add, nI_1, nz_1, nz_2, nz_3, nz_4, nz_5, nz_6, nz_7, nz_8, nz_9, nz_10, nz_11, nz_12, nz_m1, z_eq, if_true, if_false, e_some, ite_self, hge, sJ_rJ, rJ_rJ, J_rat]
    rw [ud_fill (h := fun _ => 0) (q := fun k => k < j + 1) (by intro k; omega) rfl]
  · unfold fn_M_laysBites_l60
    simp only [↓bd_bd, ↓bd_rt, ↓reduceIte, ↓ap_ite, ↓bd_ite, bd_bd, bd_rt, ap_rt, ite_some, nz_1, nz_2, nz_3, nz_4, nz_5, nz_6, nz_7, nz_8, nz_9, nz_10, nz_11, nz_12, nz_m1, z_eq, if_true, if_false, e_some, ite_self, (show (800 : Int32) ≤ nI 800 by decide)]
set_option maxHeartbeats 200000 in
theorem r_backBites (hR : RefP ν) : m_lp (fn_M_laysBites_l167 (some (40, 0, 0))) m_F 0 ν = some ((), m_rJ ν (56, 0, 0) (fun k => if k < 800 then m_J ν (57, 0, 0) k else m_J ν (56, 0, 0) k)) := by
  have hk := lp_nat (body := fn_M_laysBites_l167 (some (40, 0, 0))) (fun j => nI j) (fun j => m_rJ ν (56, 0, 0) (fun k => if k < j then m_J ν (57, 0, 0) k else m_J ν (56, 0, 0) k)) 800 (x := ()) (μe := m_rJ ν (56, 0, 0) (fun k => if k < 800 then m_J ν (57, 0, 0) k else m_J ν (56, 0, 0) k)) (fun j hj => ?_) ?_ (F := m_F) (by have := F_gt; omega)
  · rw [fill_0 (by intro k; omega), rJ_self, nI_0] at hk
    exact hk
  · have hge : ¬ (800 : Int32) ≤ nI j := nI_ge hj (by decide)
    unfold fn_M_laysBites_l167
    simp (disch := first | exact hC | exact hP | exact hR | ((repeat first | apply ClsP_sI | apply ClsP_sJ | apply ClsP_rI | apply ClsP_rJ | apply ClsP_rY); exact hC) | ((repeat first | apply FamP_sI | apply FamP_sJ | apply FamP_rI | apply FamP_rJ | apply FamP_rY); exact hP) | ((repeat first | apply RefP_sI | apply RefP_sJ | apply RefP_rI | apply RefP_rJ | apply RefP_rY); exact hR) | ((repeat first | apply PlanP_sI | apply PlanP_sJ | apply PlanP_rI | apply PlanP_rJ | apply PlanP_rY); exact hL) | omega) only [↓r_thb, ↓r_th, ↓r_gI, ↓r_gJ, ↓r_pI, ↓r_pJ, ↓r_g41, ↓r_g42, ↓r_g43, ↓r_g44, ↓r_g45, ↓r_g46, ↓r_g47, ↓r_g48, ↓r_g49, ↓r_g50, ↓r_g51, ↓r_g52, ↓r_g53, ↓r_g54, ↓r_g55, ↓r_g56, ↓r_g57, ↓r_g58, ↓r_a41, ↓r_a42, ↓r_a43, ↓r_a44, ↓r_a45, ↓r_a46, ↓r_a47, ↓r_a48, ↓r_a49, ↓r_a50, ↓r_a51, ↓r_a52, ↓r_a53, ↓r_a54, ↓r_a55, ↓r_a56, ↓r_a57, ↓r_a58, ↓r_t41, ↓r_t42, ↓r_t43, ↓r_t44, ↓r_t45, ↓r_t46, ↓r_t47, ↓r_t48, ↓r_t49, ↓r_t50, ↓r_t51, ↓r_t52, ↓r_t53, ↓r_t54, ↓r_t55, ↓r_t56, ↓r_t57, ↓r_t58, ↓r_l43_0, ↓r_l45_0, ↓r_l45_1, ↓r_l45_2, ↓r_l45_3, ↓r_l45_4, ↓r_l45_5, ↓r_l45_6, ↓r_l45_105, ↓r_l45_106, ↓r_l45_1508, ↓r_l45_1509, ↓r_tl45_0, ↓r_tl45_1, ↓r_tl45_2, ↓r_tl45_3, ↓r_tl45_4, ↓r_tl45_5, ↓r_tl45_6, ↓r_tl45_105, ↓r_tl45_106, ↓r_tl45_1508, ↓r_tl45_1509, ↓r_l48_0, ↓r_l56_0, ↓r_l57_0, ↓r_tl58_0, ↓r_tl58_1, ↓r_tl58_2, ↓r_tl58_3, ↓r_tl58_4, ↓bd_bd, ↓bd_rt, r_thb, r_th, r_gI, r_gJ, r_pI, r_pJ, r_g41, r_g42, r_g43, r_g44, r_g45, r_g46, r_g47, r_g48, r_g49, r_g50, r_g51, r_g52, r_g53, r_g54, r_g55, r_g56, r_g57, r_g58, r_a41, r_a42, r_a43, r_a44, r_a45, r_a46, r_a47, r_a48, r_a49, r_a50, r_a51, r_a52, r_a53, r_a54, r_a55, r_a56, r_a57, r_a58, r_t41, r_t42, r_t43, r_t44, r_t45, r_t46, r_t47, r_t48, r_t49, r_t50, r_t51, r_t52, r_t53, r_t54, r_t55, r_t56, r_t57, r_t58, r_l43_0, r_l45_0, r_l45_1, r_l45_2, r_l45_3, r_l45_4, r_l45_5, r_l45_6, r_l45_105, r_l45_106, r_l45_1508, r_l45_1509, r_tl45_0, r_tl45_1, r_tl45_2, r_tl45_3, r_tl45_4, r_tl45_5, r_tl45_6, r_tl45_105, r_tl45_106, r_tl45_1508, r_tl45_1509, r_l48_0, r_l56_0, r_l57_0, r_tl58_0, r_tl58_1, r_tl58_2, r_tl58_3, r_tl58_4, la_1, lm_1, la_2, lm_2, la_3, lm_3, la_6, lm_6, la_7, lm_7, la_8, lm_8, la_13, lm_13, la_19, lm_19, la_25, lm_25, la_33, lm_33, la_41, lm_41, la_49, lm_49, la_57, lm_57, la_60, lm_60, la_105, lm_105, la_107, lm_107, la_1508, lm_1508, la_96, lm_96, la_377, lm_377, la_1509, lm_1509, ↓reduceIte, ↓ap_ite, ↓bd_ite, bd_bd, bd_rt, ap_rt, ite_some, nI_add, nI_1, nz_1, nz_2, nz_3, nz_4, nz_5, nz_6, nz_7, nz_8, nz_9, nz_10, nz_11, nz_12, nz_m1, z_eq, if_true, if_false, e_some, ite_self, hge, sJ_rJ, rJ_rJ, J_rat, J_rne _ (show Nat.beq 57 56 = false from rfl)]
    rw [ud_fill (h := m_J ν (57, 0, 0)) (q := fun k => k < j + 1) (by intro k; omega) rfl]
  · unfold fn_M_laysBites_l167
    simp only [↓bd_bd, ↓bd_rt, ↓reduceIte, ↓ap_ite, ↓bd_ite, bd_bd, bd_rt, ap_rt, ite_some, nz_1, nz_2, nz_3, nz_4, nz_5, nz_6, nz_7, nz_8, nz_9, nz_10, nz_11, nz_12, nz_m1, z_eq, if_true, if_false, e_some, ite_self, (show (800 : Int32) ≤ nI 800 by decide)]
set_option maxHeartbeats 200000 in
/-- one damp's bites -/
theorem r_addBites (hR : RefP ν) {b : Nat} (hb : b ≤ 121) : m_lp (fn_M_laysBites_l121 (some (40, 0, 0)) (nI b)) m_F 0 ν = some ((), m_rJ ν (57, 0, 0) (fun k => if b ≤ k ∧ k < 800 then m_J ν (57, 0, 0) k + m_J ν (56, 0, 0) (k - b) else m_J ν (57, 0, 0) k)) := by
  have hk := lp_nat (body := fn_M_laysBites_l121 (some (40, 0, 0)) (nI b)) (fun j => nI j) (fun j => m_rJ ν (57, 0, 0) (fun k => if b ≤ k ∧ k < b + j then m_J ν (57, 0, 0) k + m_J ν (56, 0, 0) (k - b) else m_J ν (57, 0, 0) k)) (800 - b) (x := ()) (μe := m_rJ ν (57, 0, 0) (fun k => if b ≤ k ∧ k < b + (800 - b) then m_J ν (57, 0, 0) k + m_J ν (56, 0, 0) (k - b) else m_J ν (57, 0, 0) k)) (fun j hj => ?_) ?_ (F := m_F) (by have := F_gt; omega)
  · rw [fill_0 (by intro k; omega), rJ_self, nI_0, show b + (800 - b) = 800 by omega] at hk
    exact hk
  · have hge : ¬ (800 : Int32) ≤ nI (j + b) := nI_ge (show j + b < 800 by omega) (by decide)
    unfold fn_M_laysBites_l121
    simp (disch := first | exact hC | exact hP | exact hR | ((repeat first | apply ClsP_sI | apply ClsP_sJ | apply ClsP_rI | apply ClsP_rJ | apply ClsP_rY); exact hC) | ((repeat first | apply FamP_sI | apply FamP_sJ | apply FamP_rI | apply FamP_rJ | apply FamP_rY); exact hP) | ((repeat first | apply RefP_sI | apply RefP_sJ | apply RefP_rI | apply RefP_rJ | apply RefP_rY); exact hR) | ((repeat first | apply PlanP_sI | apply PlanP_sJ | apply PlanP_rI | apply PlanP_rJ | apply PlanP_rY); exact hL) | omega) only [↓r_thb, ↓r_th, ↓r_gI, ↓r_gJ, ↓r_pI, ↓r_pJ, ↓r_g41, ↓r_g42, ↓r_g43, ↓r_g44, ↓r_g45, ↓r_g46, ↓r_g47, ↓r_g48, ↓r_g49, ↓r_g50, ↓r_g51, ↓r_g52, ↓r_g53, ↓r_g54, ↓r_g55, ↓r_g56, ↓r_g57, ↓r_g58, ↓r_a41, ↓r_a42, ↓r_a43, ↓r_a44, ↓r_a45, ↓r_a46, ↓r_a47, ↓r_a48, ↓r_a49, ↓r_a50, ↓r_a51, ↓r_a52, ↓r_a53, ↓r_a54, ↓r_a55, ↓r_a56, ↓r_a57, ↓r_a58, ↓r_t41, ↓r_t42, ↓r_t43, ↓r_t44, ↓r_t45, ↓r_t46, ↓r_t47, ↓r_t48, ↓r_t49, ↓r_t50, ↓r_t51, ↓r_t52, ↓r_t53, ↓r_t54, ↓r_t55, ↓r_t56, ↓r_t57, ↓r_t58, ↓r_l43_0, ↓r_l45_0, ↓r_l45_1, ↓r_l45_2, ↓r_l45_3, ↓r_l45_4, ↓r_l45_5, ↓r_l45_6, ↓r_l45_105, ↓r_l45_106, ↓r_l45_1508, ↓r_l45_1509, ↓r_tl45_0, ↓r_tl45_1, ↓r_tl45_2, ↓r_tl45_3, ↓r_tl45_4, ↓r_tl45_5, ↓r_tl45_6, ↓r_tl45_105, ↓r_tl45_106, ↓r_tl45_1508, ↓r_tl45_1509, ↓r_l48_0, ↓r_l56_0, ↓r_l57_0, ↓r_tl58_0, ↓r_tl58_1, ↓r_tl58_2, ↓r_tl58_3, ↓r_tl58_4, ↓bd_bd, ↓bd_rt, r_thb, r_th, r_gI, r_gJ, r_pI, r_pJ, r_g41, r_g42, r_g43, r_g44, r_g45, r_g46, r_g47, r_g48, r_g49, r_g50, r_g51, r_g52, r_g53, r_g54, r_g55, r_g56, r_g57, r_g58, r_a41, r_a42, r_a43, r_a44, r_a45, r_a46, r_a47, r_a48, r_a49, r_a50, r_a51, r_a52, r_a53, r_a54, r_a55, r_a56, r_a57, r_a58, r_t41, r_t42, r_t43, r_t44, r_t45, r_t46, r_t47, r_t48, r_t49, r_t50, r_t51, r_t52, r_t53, r_t54, r_t55, r_t56, r_t57, r_t58, r_l43_0, r_l45_0, r_l45_1, r_l45_2, r_l45_3, r_l45_4, r_l45_5, r_l45_6, r_l45_105, r_l45_106, r_l45_1508, r_l45_1509, r_tl45_0, r_tl45_1, r_tl45_2, r_tl45_3, r_tl45_4, r_tl45_5, r_tl45_6, r_tl45_105, r_tl45_106, r_tl45_1508, r_tl45_1509, r_l48_0, r_l56_0, r_l57_0, r_tl58_0, r_tl58_1, r_tl58_2, r_tl58_3, r_tl58_4, la_1, lm_1, la_2, lm_2, la_3, lm_3, la_6, lm_6, la_7, lm_7, la_8, lm_8, la_13, lm_13, la_19, lm_19, la_25, lm_25, la_33, lm_33, la_41, lm_41, la_49, lm_49, la_57, lm_57, la_60, lm_60, la_105, lm_105, la_107, lm_107, la_1508, lm_1508, la_96, lm_96, la_377, lm_377, la_1509, lm_1509, ↓reduceIte, ↓ap_ite, ↓bd_ite, bd_bd, bd_rt, ap_rt, ite_some, nI_add, nI_1, nz_1, nz_2, nz_3, nz_4, nz_5, nz_6, nz_7, nz_8, nz_9, nz_10, nz_11, nz_12, nz_m1, z_eq, if_true, if_false, e_some, ite_self, hge, sJ_rJ, rJ_rJ, J_rat, J_rne _ (show Nat.beq 56 57 = false from rfl)]
    rw [ud_fill (h := fun k => m_J ν (57, 0, 0) k + m_J ν (56, 0, 0) (k - b)) (q := fun k => b ≤ k ∧ k < b + (j + 1)) (by intro k; omega)]
    rw [if_neg (by omega), show j + b - b = j by omega]
  · unfold fn_M_laysBites_l121
    have hle : (800 : Int32) ≤ nI (800 - b + b) := nI_le (show 800 ≤ 800 - b + b by omega) (by omega)
    simp only [↓r_thb, ↓r_th, ↓r_gI, ↓r_gJ, ↓r_pI, ↓r_pJ, ↓r_g41, ↓r_g42, ↓r_g43, ↓r_g44, ↓r_g45, ↓r_g46, ↓r_g47, ↓r_g48, ↓r_g49, ↓r_g50, ↓r_g51, ↓r_g52, ↓r_g53, ↓r_g54, ↓r_g55, ↓r_g56, ↓r_g57, ↓r_g58, ↓r_a41, ↓r_a42, ↓r_a43, ↓r_a44, ↓r_a45, ↓r_a46, ↓r_a47, ↓r_a48, ↓r_a49, ↓r_a50, ↓r_a51, ↓r_a52, ↓r_a53, ↓r_a54, ↓r_a55, ↓r_a56, ↓r_a57, ↓r_a58, ↓r_t41, ↓r_t42, ↓r_t43, ↓r_t44, ↓r_t45, ↓r_t46, ↓r_t47, ↓r_t48, ↓r_t49, ↓r_t50, ↓r_t51, ↓r_t52, ↓r_t53, ↓r_t54, ↓r_t55, ↓r_t56, ↓r_t57, ↓r_t58, ↓r_l43_0, ↓r_l45_0, ↓r_l45_1, ↓r_l45_2, ↓r_l45_3, ↓r_l45_4, ↓r_l45_5, ↓r_l45_6, ↓r_l45_105, ↓r_l45_106, ↓r_l45_1508, ↓r_l45_1509, ↓r_tl45_0, ↓r_tl45_1, ↓r_tl45_2, ↓r_tl45_3, ↓r_tl45_4, ↓r_tl45_5, ↓r_tl45_6, ↓r_tl45_105, ↓r_tl45_106, ↓r_tl45_1508, ↓r_tl45_1509, ↓r_l48_0, ↓r_l56_0, ↓r_l57_0, ↓r_tl58_0, ↓r_tl58_1, ↓r_tl58_2, ↓r_tl58_3, ↓r_tl58_4, ↓bd_bd, ↓bd_rt, r_thb, r_th, r_gI, r_gJ, r_pI, r_pJ, r_g41, r_g42, r_g43, r_g44, r_g45, r_g46, r_g47, r_g48, r_g49, r_g50, r_g51, r_g52, r_g53, r_g54, r_g55, r_g56, r_g57, r_g58, r_a41, r_a42, r_a43, r_a44, r_a45, r_a46, r_a47, r_a48, r_a49, r_a50, r_a51, r_a52, r_a53, r_a54, r_a55, r_a56, r_a57, r_a58, r_t41, r_t42, r_t43, r_t44, r_t45, r_t46, r_t47, r_t48, r_t49, r_t50, r_t51, r_t52, r_t53, r_t54, r_t55, r_t56, r_t57, r_t58, r_l43_0, r_l45_0, r_l45_1, r_l45_2, r_l45_3, r_l45_4, r_l45_5, r_l45_6, r_l45_105, r_l45_106, r_l45_1508, r_l45_1509, r_tl45_0, r_tl45_1, r_tl45_2, r_tl45_3, r_tl45_4, r_tl45_5, r_tl45_6, r_tl45_105, r_tl45_106, r_tl45_1508, r_tl45_1509, r_l48_0, r_l56_0, r_l57_0, r_tl58_0, r_tl58_1, r_tl58_2, r_tl58_3, r_tl58_4, la_1, lm_1, la_2, lm_2, la_3, lm_3, la_6, lm_6, la_7, lm_7, la_8, lm_8, la_13, lm_13, la_19, lm_19, la_25, lm_25, la_33, lm_33, la_41, lm_41, la_49, lm_49, la_57, lm_57, la_60, lm_60, la_105, lm_105, la_107, lm_107, la_1508, lm_1508, la_96, lm_96, la_377, lm_377, la_1509, lm_1509, ↓reduceIte, ↓ap_ite, ↓bd_ite, bd_bd, bd_rt, ap_rt, ite_some, nI_add, nI_1, nz_1, nz_2, nz_3, nz_4, nz_5, nz_6, nz_7, nz_8, nz_9, nz_10, nz_11, nz_12, nz_m1, z_eq, if_true, if_false, e_some, ite_self, hle]
set_option maxHeartbeats 200000 in
theorem r_damps (hR : RefP ν) {t l oi : Nat} {D : Nat → Nat} (ht : t < 8) (hl : l ≤ 54) (ho : m_I ν (45, 0, 0) (49 + t) = nI oi) (ho3 : oi ≤ 3) (hb : ∀ k, k < 800 → m_J ν (56, 0, 0) k = lN (D k)) (hm : ∀ k, k < 800 → m_J ν (57, 0, 0) k = 0) : m_e (m_lp (fn_M_laysBites_l85 (some (40, 0, 0)) (nI t) (nI l)) m_F 0 ν) (fun _ μ' => ∃ g, μ' = m_rJ ν (57, 0, 0) g ∧ ∀ k, k < 800 → g k = lN (nsum (fun d => if bbt l oi d ≤ k then D (k - bbt l oi d) else 0) 10)) := by
  refine e_inv (fun d s μ' => s = nI d ∧ ∃ g, μ' = m_rJ ν (57, 0, 0) g ∧ ∀ k, k < 800 → g k = lN (nsum (fun d => if bbt l oi d ≤ k then D (k - bbt l oi d) else 0) d)) 10 ?_ ?_ ⟨rfl, m_J ν (57, 0, 0), (rJ_self _ _).symm, fun k hk => hm k hk⟩ (by omega)
  · rintro d s μ' hd ⟨rfl, g, rfl, hg⟩
    have hlt : ¬ (9 : Int32) < nI d := nI_nlt (show d ≤ 9 by omega) (by decide)
    have hbl := bbt_le (oi := oi) hl (show d ≤ 9 by omega)
    have had := r_addBites (ν := m_rJ ν (57, 0, 0) g) hR (b := bbt l oi d) (by omega)
    rw [J_rat, J_rne _ (show Nat.beq 56 57 = false from rfl), rJ_rJ] at had
    have hfin : ∃ g', m_rJ ν (57, 0, 0) (fun k => if bbt l oi d ≤ k ∧ k < 800 then g k + m_J ν (56, 0, 0) (k - bbt l oi d) else g k) = m_rJ ν (57, 0, 0) g' ∧ ∀ k, k < 800 → g' k = lN (nsum (fun d => if bbt l oi d ≤ k then D (k - bbt l oi d) else 0) (d + 1)) := by
      refine ⟨_, rfl, fun k hk => ?_⟩
      rw [nsum]
      by_cases q : bbt l oi d ≤ k
      · rw [if_pos ⟨q, hk⟩, if_pos q, hg k hk, hb _ (by omega), lN_add]
      · rw [if_neg (fun z => q z.1), if_neg q, hg k hk, Nat.add_zero]
    unfold fn_M_laysBites_l85
    by_cases hz : oi = 0
    · subst hz
      have hbd := bitten_n (μ := m_rJ ν (57, 0, 0) g) hl (show d ≤ 9 by omega) (o := 0) (oi := 0) (propext ⟨fun _ => rfl, fun _ => rfl⟩)
      simp (disch := first | exact hC | exact hP | exact hR | ((repeat first | apply ClsP_sI | apply ClsP_sJ | apply ClsP_rI | apply ClsP_rJ | apply ClsP_rY); exact hC) | ((repeat first | apply FamP_sI | apply FamP_sJ | apply FamP_rI | apply FamP_rJ | apply FamP_rY); exact hP) | ((repeat first | apply RefP_sI | apply RefP_sJ | apply RefP_rI | apply RefP_rJ | apply RefP_rY); exact hR) | ((repeat first | apply PlanP_sI | apply PlanP_sJ | apply PlanP_rI | apply PlanP_rJ | apply PlanP_rY); exact hL) | omega) only [↓r_thb, ↓r_th, ↓r_gI, ↓r_gJ, ↓r_pI, ↓r_pJ, ↓r_g41, ↓r_g42, ↓r_g43, ↓r_g44, ↓r_g45, ↓r_g46, ↓r_g47, ↓r_g48, ↓r_g49, ↓r_g50, ↓r_g51, ↓r_g52, ↓r_g53, ↓r_g54, ↓r_g55, ↓r_g56, ↓r_g57, ↓r_g58, ↓r_a41, ↓r_a42, ↓r_a43, ↓r_a44, ↓r_a45, ↓r_a46, ↓r_a47, ↓r_a48, ↓r_a49, ↓r_a50, ↓r_a51, ↓r_a52, ↓r_a53, ↓r_a54, ↓r_a55, ↓r_a56, ↓r_a57, ↓r_a58, ↓r_t41, ↓r_t42, ↓r_t43, ↓r_t44, ↓r_t45, ↓r_t46, ↓r_t47, ↓r_t48, ↓r_t49, ↓r_t50, ↓r_t51, ↓r_t52, ↓r_t53, ↓r_t54, ↓r_t55, ↓r_t56, ↓r_t57, ↓r_t58, ↓r_l43_0, ↓r_l45_0, ↓r_l45_1, ↓r_l45_2, ↓r_l45_3, ↓r_l45_4, ↓r_l45_5, ↓r_l45_6, ↓r_l45_105, ↓r_l45_106, ↓r_l45_1508, ↓r_l45_1509, ↓r_tl45_0, ↓r_tl45_1, ↓r_tl45_2, ↓r_tl45_3, ↓r_tl45_4, ↓r_tl45_5, ↓r_tl45_6, ↓r_tl45_105, ↓r_tl45_106, ↓r_tl45_1508, ↓r_tl45_1509, ↓r_l48_0, ↓r_l56_0, ↓r_l57_0, ↓r_tl58_0, ↓r_tl58_1, ↓r_tl58_2, ↓r_tl58_3, ↓r_tl58_4, ↓bd_bd, ↓bd_rt, r_thb, r_th, r_gI, r_gJ, r_pI, r_pJ, r_g41, r_g42, r_g43, r_g44, r_g45, r_g46, r_g47, r_g48, r_g49, r_g50, r_g51, r_g52, r_g53, r_g54, r_g55, r_g56, r_g57, r_g58, r_a41, r_a42, r_a43, r_a44, r_a45, r_a46, r_a47, r_a48, r_a49, r_a50, r_a51, r_a52, r_a53, r_a54, r_a55, r_a56, r_a57, r_a58, r_t41, r_t42, r_t43, r_t44, r_t45, r_t46, r_t47, r_t48, r_t49, r_t50, r_t51, r_t52, r_t53, r_t54, r_t55, r_t56, r_t57, r_t58, r_l43_0, r_l45_0, r_l45_1, r_l45_2, r_l45_3, r_l45_4, r_l45_5, r_l45_6, r_l45_105, r_l45_106, r_l45_1508, r_l45_1509, r_tl45_0, r_tl45_1, r_tl45_2, r_tl45_3, r_tl45_4, r_tl45_5, r_tl45_6, r_tl45_105, r_tl45_106, r_tl45_1508, r_tl45_1509, r_l48_0, r_l56_0, r_l57_0, r_tl58_0, r_tl58_1, r_tl58_2, r_tl58_3, r_tl58_4, la_1, lm_1, la_2, lm_2, la_3, lm_3, la_6, lm_6, la_7, lm_7, la_8, lm_8, la_13, lm_13, la_19, lm_19, la_25, lm_25, la_33, lm_33, la_41, lm_41, la_49, lm_49, la_57, lm_57, la_60, lm_60, la_105, lm_105, la_107, lm_107, la_1508, lm_1508, la_96, lm_96, la_377, lm_377, la_1509, lm_1509, ↓reduceIte, ↓ap_ite, ↓bd_ite, bd_bd, bd_rt, ap_rt, ite_some, nI_add, nI_1, nz_1, nz_2, nz_3, nz_4, nz_5, nz_6, nz_7, nz_8, nz_9, nz_10, nz_11, nz_12, nz_m1, z_eq, if_true, if_false, e_some, ite_self, hlt, I_rJ, ho, (show nI 0 ≤ 0 by decide), ↓bd_of hbd, ↓bd_of had]
      exact ⟨_, rfl, rfl, hfin⟩
    · have hbd := bitten_n (μ := m_rJ ν (57, 0, 0) g) hl (show d ≤ 9 by omega) (o := 1) (oi := oi) (propext ⟨fun q => absurd q (by decide), fun q => absurd q hz⟩)
      have h0 : ¬ nI oi ≤ 0 := nI_nle (by omega) (by omega)
      simp (disch := first | exact hC | exact hP | exact hR | ((repeat first | apply ClsP_sI | apply ClsP_sJ | apply ClsP_rI | apply ClsP_rJ | apply ClsP_rY); exact hC) | ((repeat first | apply FamP_sI | apply FamP_sJ | apply FamP_rI | apply FamP_rJ | apply FamP_rY); exact hP) | ((repeat first | apply RefP_sI | apply RefP_sJ | apply RefP_rI | apply RefP_rJ | apply RefP_rY); exact hR) | ((repeat first | apply PlanP_sI | apply PlanP_sJ | apply PlanP_rI | apply PlanP_rJ | apply PlanP_rY); exact hL) | omega) only [↓r_thb, ↓r_th, ↓r_gI, ↓r_gJ, ↓r_pI, ↓r_pJ, ↓r_g41, ↓r_g42, ↓r_g43, ↓r_g44, ↓r_g45, ↓r_g46, ↓r_g47, ↓r_g48, ↓r_g49, ↓r_g50, ↓r_g51, ↓r_g52, ↓r_g53, ↓r_g54, ↓r_g55, ↓r_g56, ↓r_g57, ↓r_g58, ↓r_a41, ↓r_a42, ↓r_a43, ↓r_a44, ↓r_a45, ↓r_a46, ↓r_a47, ↓r_a48, ↓r_a49, ↓r_a50, ↓r_a51, ↓r_a52, ↓r_a53, ↓r_a54, ↓r_a55, ↓r_a56, ↓r_a57, ↓r_a58, ↓r_t41, ↓r_t42, ↓r_t43, ↓r_t44, ↓r_t45, ↓r_t46, ↓r_t47, ↓r_t48, ↓r_t49, ↓r_t50, ↓r_t51, ↓r_t52, ↓r_t53, ↓r_t54, ↓r_t55, ↓r_t56, ↓r_t57, ↓r_t58, ↓r_l43_0, ↓r_l45_0, ↓r_l45_1, ↓r_l45_2, ↓r_l45_3, ↓r_l45_4, ↓r_l45_5, ↓r_l45_6, ↓r_l45_105, ↓r_l45_106, ↓r_l45_1508, ↓r_l45_1509, ↓r_tl45_0, ↓r_tl45_1, ↓r_tl45_2, ↓r_tl45_3, ↓r_tl45_4, ↓r_tl45_5, ↓r_tl45_6, ↓r_tl45_105, ↓r_tl45_106, ↓r_tl45_1508, ↓r_tl45_1509, ↓r_l48_0, ↓r_l56_0, ↓r_l57_0, ↓r_tl58_0, ↓r_tl58_1, ↓r_tl58_2, ↓r_tl58_3, ↓r_tl58_4, ↓bd_bd, ↓bd_rt, r_thb, r_th, r_gI, r_gJ, r_pI, r_pJ, r_g41, r_g42, r_g43, r_g44, r_g45, r_g46, r_g47, r_g48, r_g49, r_g50, r_g51, r_g52, r_g53, r_g54, r_g55, r_g56, r_g57, r_g58, r_a41, r_a42, r_a43, r_a44, r_a45, r_a46, r_a47, r_a48, r_a49, r_a50, r_a51, r_a52, r_a53, r_a54, r_a55, r_a56, r_a57, r_a58, r_t41, r_t42, r_t43, r_t44, r_t45, r_t46, r_t47, r_t48, r_t49, r_t50, r_t51, r_t52, r_t53, r_t54, r_t55, r_t56, r_t57, r_t58, r_l43_0, r_l45_0, r_l45_1, r_l45_2, r_l45_3, r_l45_4, r_l45_5, r_l45_6, r_l45_105, r_l45_106, r_l45_1508, r_l45_1509, r_tl45_0, r_tl45_1, r_tl45_2, r_tl45_3, r_tl45_4, r_tl45_5, r_tl45_6, r_tl45_105, r_tl45_106, r_tl45_1508, r_tl45_1509, r_l48_0, r_l56_0, r_l57_0, r_tl58_0, r_tl58_1, r_tl58_2, r_tl58_3, r_tl58_4, la_1, lm_1, la_2, lm_2, la_3, lm_3, la_6, lm_6, la_7, lm_7, la_8, lm_8, la_13, lm_13, la_19, lm_19, la_25, lm_25, la_33, lm_33, la_41, lm_41, la_49, lm_49, la_57, lm_57, la_60, lm_60, la_105, lm_105, la_107, lm_107, la_1508, lm_1508, la_96, lm_96, la_377, lm_377, la_1509, lm_1509, ↓reduceIte, ↓ap_ite, ↓bd_ite, bd_bd, bd_rt, ap_rt, ite_some, nI_add, nI_1, nz_1, nz_2, nz_3, nz_4, nz_5, nz_6, nz_7, nz_8, nz_9, nz_10, nz_11, nz_12, nz_m1, z_eq, if_true, if_false, e_some, ite_self, hlt, I_rJ, ho, h0, ↓bd_of hbd, ↓bd_of had]
      exact ⟨_, rfl, rfl, hfin⟩
  · rintro s μ' ⟨rfl, g, rfl, hg⟩
    unfold fn_M_laysBites_l85
    simp only [↓bd_bd, ↓bd_rt, ↓reduceIte, ↓ap_ite, ↓bd_ite, bd_bd, bd_rt, ap_rt, ite_some, nz_1, nz_2, nz_3, nz_4, nz_5, nz_6, nz_7, nz_8, nz_9, nz_10, nz_11, nz_12, nz_m1, z_eq, if_true, if_false, e_some, ite_self, (show (9 : Int32) < nI 10 by decide)]
    exact ⟨(), trivial, g, by first | rfl | trivial, hg⟩
set_option maxHeartbeats 200000 in
theorem r_firstBites (hR : RefP ν) : m_e (m_lp (fn_M_laysBites_l2 (some (40, 0, 0))) m_F 0 ν) (fun _ μ' => ∃ g, μ' = m_rJ ν (56, 0, 0) g ∧ ∀ k, k < 800 → g k = lN (if k = 0 then 1 else 0)) := by
  refine e_inv (fun j s μ' => s = nI j ∧ ∃ g, μ' = m_rJ ν (56, 0, 0) g ∧ ∀ k, k < j → g k = lN (if k = 0 then 1 else 0)) 800 ?_ ?_ ⟨rfl, m_J ν (56, 0, 0), (rJ_self _ _).symm, fun k hk => by omega⟩ (by omega)
  · rintro j s μ' hj ⟨rfl, g, rfl, hg⟩
    have hge : ¬ (800 : Int32) ≤ nI j := nI_ge hj (by decide)
    have hst : ∀ v : Int64, v = lN (if j = 0 then 1 else 0) → ∃ g', m_sJ (m_rJ ν (56, 0, 0) g) (56, 0, 0) j v = m_rJ ν (56, 0, 0) g' ∧ ∀ k, k < j + 1 → g' k = lN (if k = 0 then 1 else 0) := fun v hv => by
      refine ⟨ud g j v, by rw [sJ_rJ, rJ_rJ, J_rat], fun k hk => ?_⟩
      unfold ud
      by_cases q : k = j
      · subst q
        rw [if_pos rfl, hv]
      · rw [if_neg q, hg k (by omega)]
    unfold fn_M_laysBites_l2
    by_cases hz : j = 0
    · have hz' : (nI j = 0) = True := eq_true (by rw [hz]; rfl)
      simp (disch := first | exact hC | exact hP | exact hR | ((repeat first | apply ClsP_sI | apply ClsP_sJ | apply ClsP_rI | apply ClsP_rJ | apply ClsP_rY); exact hC) | ((repeat first | apply FamP_sI | apply FamP_sJ | apply FamP_rI | apply FamP_rJ | apply FamP_rY); exact hP) | ((repeat first | apply RefP_sI | apply RefP_sJ | apply RefP_rI | apply RefP_rJ | apply RefP_rY); exact hR) | ((repeat first | apply PlanP_sI | apply PlanP_sJ | apply PlanP_rI | apply PlanP_rJ | apply PlanP_rY); exact hL) | omega) only [↓r_thb, ↓r_th, ↓r_gI, ↓r_gJ, ↓r_pI, ↓r_pJ, ↓r_g41, ↓r_g42, ↓r_g43, ↓r_g44, ↓r_g45, ↓r_g46, ↓r_g47, ↓r_g48, ↓r_g49, ↓r_g50, ↓r_g51, ↓r_g52, ↓r_g53, ↓r_g54, ↓r_g55, ↓r_g56, ↓r_g57, ↓r_g58, ↓r_a41, ↓r_a42, ↓r_a43, ↓r_a44, ↓r_a45, ↓r_a46, ↓r_a47, ↓r_a48, ↓r_a49, ↓r_a50, ↓r_a51, ↓r_a52, ↓r_a53, ↓r_a54, ↓r_a55, ↓r_a56, ↓r_a57, ↓r_a58, ↓r_t41, ↓r_t42, ↓r_t43, ↓r_t44, ↓r_t45, ↓r_t46, ↓r_t47, ↓r_t48, ↓r_t49, ↓r_t50, ↓r_t51, ↓r_t52, ↓r_t53, ↓r_t54, ↓r_t55, ↓r_t56, ↓r_t57, ↓r_t58, ↓r_l43_0, ↓r_l45_0, ↓r_l45_1, ↓r_l45_2, ↓r_l45_3, ↓r_l45_4, ↓r_l45_5, ↓r_l45_6, ↓r_l45_105, ↓r_l45_106, ↓r_l45_1508, ↓r_l45_1509, ↓r_tl45_0, ↓r_tl45_1, ↓r_tl45_2, ↓r_tl45_3, ↓r_tl45_4, ↓r_tl45_5, ↓r_tl45_6, ↓r_tl45_105, ↓r_tl45_106, ↓r_tl45_1508, ↓r_tl45_1509, ↓r_l48_0, ↓r_l56_0, ↓r_l57_0, ↓r_tl58_0, ↓r_tl58_1, ↓r_tl58_2, ↓r_tl58_3, ↓r_tl58_4, ↓bd_bd, ↓bd_rt, r_thb, r_th, r_gI, r_gJ, r_pI, r_pJ, r_g41, r_g42, r_g43, r_g44, r_g45, r_g46, r_g47, r_g48, r_g49, r_g50, r_g51, r_g52, r_g53, r_g54, r_g55, r_g56, r_g57, r_g58, r_a41, r_a42, r_a43, r_a44, r_a45, r_a46, r_a47, r_a48, r_a49, r_a50, r_a51, r_a52, r_a53, r_a54, r_a55, r_a56, r_a57, r_a58, r_t41, r_t42, r_t43, r_t44, r_t45, r_t46, r_t47, r_t48, r_t49, r_t50, r_t51, r_t52, r_t53, r_t54, r_t55, r_t56, r_t57, r_t58, r_l43_0, r_l45_0, r_l45_1, r_l45_2, r_l45_3, r_l45_4, r_l45_5, r_l45_6, r_l45_105, r_l45_106, r_l45_1508, r_l45_1509, r_tl45_0, r_tl45_1, r_tl45_2, r_tl45_3, r_tl45_4, r_tl45_5, r_tl45_6, r_tl45_105, r_tl45_106, r_tl45_1508, r_tl45_1509, r_l48_0, r_l56_0, r_l57_0, r_tl58_0, r_tl58_1, r_tl58_2, r_tl58_3, r_tl58_4, la_1, lm_1, la_2, lm_2, la_3, lm_3, la_6, lm_6, la_7, lm_7, la_8, lm_8, la_13, lm_13, la_19, lm_19, la_25, lm_25, la_33, lm_33, la_41, lm_41, la_49, lm_49, la_57, lm_57, la_60, lm_60, la_105, lm_105, la_107, lm_107, la_1508, lm_1508, la_96, lm_96, la_377, lm_377, la_1509, lm_1509, ↓reduceIte, ↓ap_ite, ↓bd_ite, bd_bd, bd_rt, ap_rt, ite_some, nI_add, nI_1, nz_1, nz_2, nz_3, nz_4, nz_5, nz_6, nz_7, nz_8, nz_9, nz_10, nz_11, nz_12, nz_m1, z_eq, if_true, if_false, e_some, ite_self, hge, hz']
      exact ⟨_, rfl, rfl, hst 1 (by rw [if_pos hz]; rfl)⟩
    · have hz' : ¬ nI j = 0 := nI_ne0 (by omega) (by omega)
      simp (disch := first | exact hC | exact hP | exact hR | ((repeat first | apply ClsP_sI | apply ClsP_sJ | apply ClsP_rI | apply ClsP_rJ | apply ClsP_rY); exact hC) | ((repeat first | apply FamP_sI | apply FamP_sJ | apply FamP_rI | apply FamP_rJ | apply FamP_rY); exact hP) | ((repeat first | apply RefP_sI | apply RefP_sJ | apply RefP_rI | apply RefP_rJ | apply RefP_rY); exact hR) | ((repeat first | apply PlanP_sI | apply PlanP_sJ | apply PlanP_rI | apply PlanP_rJ | apply PlanP_rY); exact hL) | omega) only [↓r_thb, ↓r_th, ↓r_gI, ↓r_gJ, ↓r_pI, ↓r_pJ, ↓r_g41, ↓r_g42, ↓r_g43, ↓r_g44, ↓r_g45, ↓r_g46, ↓r_g47, ↓r_g48, ↓r_g49, ↓r_g50, ↓r_g51, ↓r_g52, ↓r_g53, ↓r_g54, ↓r_g55, ↓r_g56, ↓r_g57, ↓r_g58, ↓r_a41, ↓r_a42, ↓r_a43, ↓r_a44, ↓r_a45, ↓r_a46, ↓r_a47, ↓r_a48, ↓r_a49, ↓r_a50, ↓r_a51, ↓r_a52, ↓r_a53, ↓r_a54, ↓r_a55, ↓r_a56, ↓r_a57, ↓r_a58, ↓r_t41, ↓r_t42, ↓r_t43, ↓r_t44, ↓r_t45, ↓r_t46, ↓r_t47, ↓r_t48, ↓r_t49, ↓r_t50, ↓r_t51, ↓r_t52, ↓r_t53, ↓r_t54, ↓r_t55, ↓r_t56, ↓r_t57, ↓r_t58, ↓r_l43_0, ↓r_l45_0, ↓r_l45_1, ↓r_l45_2, ↓r_l45_3, ↓r_l45_4, ↓r_l45_5, ↓r_l45_6, ↓r_l45_105, ↓r_l45_106, ↓r_l45_1508, ↓r_l45_1509, ↓r_tl45_0, ↓r_tl45_1, ↓r_tl45_2, ↓r_tl45_3, ↓r_tl45_4, ↓r_tl45_5, ↓r_tl45_6, ↓r_tl45_105, ↓r_tl45_106, ↓r_tl45_1508, ↓r_tl45_1509, ↓r_l48_0, ↓r_l56_0, ↓r_l57_0, ↓r_tl58_0, ↓r_tl58_1, ↓r_tl58_2, ↓r_tl58_3, ↓r_tl58_4, ↓bd_bd, ↓bd_rt, r_thb, r_th, r_gI, r_gJ, r_pI, r_pJ, r_g41, r_g42, r_g43, r_g44, r_g45, r_g46, r_g47, r_g48, r_g49, r_g50, r_g51, r_g52, r_g53, r_g54, r_g55, r_g56, r_g57, r_g58, r_a41, r_a42, r_a43, r_a44, r_a45, r_a46, r_a47, r_a48, r_a49, r_a50, r_a51, r_a52, r_a53, r_a54, r_a55, r_a56, r_a57, r_a58, r_t41, r_t42, r_t43, r_t44, r_t45, r_t46, r_t47, r_t48, r_t49, r_t50, r_t51, r_t52, r_t53, r_t54, r_t55, r_t56, r_t57, r_t58, r_l43_0, r_l45_0, r_l45_1, r_l45_2, r_l45_3, r_l45_4, r_l45_5, r_l45_6, r_l45_105, r_l45_106, r_l45_1508, r_l45_1509, r_tl45_0, r_tl45_1, r_tl45_2, r_tl45_3, r_tl45_4, r_tl45_5, r_tl45_6, r_tl45_105, r_tl45_106, r_tl45_1508, r_tl45_1509, r_l48_0, r_l56_0, r_l57_0, r_tl58_0, r_tl58_1, r_tl58_2, r_tl58_3, r_tl58_4, la_1, lm_1, la_2, lm_2, la_3, lm_3, la_6, lm_6, la_7, lm_7, la_8, lm_8, la_13, lm_13, la_19, lm_19, la_25, lm_25, la_33, lm_33, la_41, lm_41, la_49, lm_49, la_57, lm_57, la_60, lm_60, la_105, lm_105, la_107, lm_107, la_1508, lm_1508, la_96, lm_96, la_377, lm_377, la_1509, lm_1509, ↓reduceIte, ↓ap_ite, ↓bd_ite, bd_bd, bd_rt, ap_rt, ite_some, nI_add, nI_1, nz_1, nz_2, nz_3, nz_4, nz_5, nz_6, nz_7, nz_8, nz_9, nz_10, nz_11, nz_12, nz_m1, z_eq, if_true, if_false, e_some, ite_self, hge, hz']
      exact ⟨_, rfl, rfl, hst 0 (by rw [if_neg hz]; rfl)⟩
  · rintro s μ' ⟨rfl, g, rfl, hg⟩
    unfold fn_M_laysBites_l2
    simp only [↓bd_bd, ↓bd_rt, ↓reduceIte, ↓ap_ite, ↓bd_ite, bd_bd, bd_rt, ap_rt, ite_some, nz_1, nz_2, nz_3, nz_4, nz_5, nz_6, nz_7, nz_8, nz_9, nz_10, nz_11, nz_12, nz_m1, z_eq, if_true, if_false, e_some, ite_self, (show (800 : Int32) ≤ nI 800 by decide)]
    exact ⟨(), trivial, g, by first | rfl | trivial, hg⟩
set_option maxHeartbeats 200000 in
theorem r_laysBites (hR : RefP ν) {P T t n oi : Nat} {l : Nat → Nat} (hD : Dim (cR ν) P T) (hO : Okc (cR ν) P T) (ht : t < T) (hn : n ≤ 6) (hoi : cR ν (49 + t) = nI oi) (ho3 : oi ≤ 3) (hl : ∀ i, 1 ≤ i → i ≤ n → lvN (cR ν) P t i = nI (l i) ∧ l i ≤ 54) : m_e (fn_M_laysBites (some (40, 0, 0)) (nI t) (nI n) ν) (fun _ μ' => sm KR ν μ' ∧ m_I μ' (45, 0, 0) = cR ν ∧ (∀ k, k ≠ 27 → m_I μ' (40, 0, 0) k = m_I ν (40, 0, 0) k) ∧ m_J μ' (40, 0, 0) 41 = lN (10 ^ n) ∧ ∀ k, k < 800 → m_J μ' (56, 0, 0) k = lN (Dd (fun i d => bbt (l (i + 1)) (oi - i) d) n k)) := by
  obtain ⟨hP0, hT0, hP6, hT8⟩ := id hD
  have ht8 : t < 8 := by omega
  generalize hbb : (fun i d => bbt (l (i + 1)) (oi - i) d) = bb
  have hbb' : ∀ i d, bb i d = bbt (l (i + 1)) (oi - i) d := fun i d => by rw [← hbb]
  unfold fn_M_laysBites
  rw [r_th hR]
  refine e_bd (r_firstBites hR) ?_
  rintro - _ ⟨g0, rfl, hg0⟩
  generalize hβ : m_rJ ν (56, 0, 0) g0 = β
  have hsβ : sm KR ν β := by
    rw [← hβ]
    exact sm_rJ sm_rf _ (fun k hk => absurd (by unfold KR; omega) hk)
  have hβI : m_I β = m_I ν := by rw [← hβ]; rfl
  have hβ56 : m_J β (56, 0, 0) = g0 := by rw [← hβ, J_rat]
  have hβ45 : m_J β (45, 0, 0) = m_J ν (45, 0, 0) := by rw [← hβ, J_rne _ rfl]
  have hR := sm_R hsβ hR
  simp (disch := first | exact hC | exact hP | exact hR | ((repeat first | apply ClsP_sI | apply ClsP_sJ | apply ClsP_rI | apply ClsP_rJ | apply ClsP_rY); exact hC) | ((repeat first | apply FamP_sI | apply FamP_sJ | apply FamP_rI | apply FamP_rJ | apply FamP_rY); exact hP) | ((repeat first | apply RefP_sI | apply RefP_sJ | apply RefP_rI | apply RefP_rJ | apply RefP_rY); exact hR) | ((repeat first | apply PlanP_sI | apply PlanP_sJ | apply PlanP_rI | apply PlanP_rJ | apply PlanP_rY); exact hL) | omega) only [↓r_thb, ↓r_th, ↓r_gI, ↓r_gJ, ↓r_pI, ↓r_pJ, ↓r_g41, ↓r_g42, ↓r_g43, ↓r_g44, ↓r_g45, ↓r_g46, ↓r_g47, ↓r_g48, ↓r_g49, ↓r_g50, ↓r_g51, ↓r_g52, ↓r_g53, ↓r_g54, ↓r_g55, ↓r_g56, ↓r_g57, ↓r_g58, ↓r_a41, ↓r_a42, ↓r_a43, ↓r_a44, ↓r_a45, ↓r_a46, ↓r_a47, ↓r_a48, ↓r_a49, ↓r_a50, ↓r_a51, ↓r_a52, ↓r_a53, ↓r_a54, ↓r_a55, ↓r_a56, ↓r_a57, ↓r_a58, ↓r_t41, ↓r_t42, ↓r_t43, ↓r_t44, ↓r_t45, ↓r_t46, ↓r_t47, ↓r_t48, ↓r_t49, ↓r_t50, ↓r_t51, ↓r_t52, ↓r_t53, ↓r_t54, ↓r_t55, ↓r_t56, ↓r_t57, ↓r_t58, ↓r_l43_0, ↓r_l45_0, ↓r_l45_1, ↓r_l45_2, ↓r_l45_3, ↓r_l45_4, ↓r_l45_5, ↓r_l45_6, ↓r_l45_105, ↓r_l45_106, ↓r_l45_1508, ↓r_l45_1509, ↓r_tl45_0, ↓r_tl45_1, ↓r_tl45_2, ↓r_tl45_3, ↓r_tl45_4, ↓r_tl45_5, ↓r_tl45_6, ↓r_tl45_105, ↓r_tl45_106, ↓r_tl45_1508, ↓r_tl45_1509, ↓r_l48_0, ↓r_l56_0, ↓r_l57_0, ↓r_tl58_0, ↓r_tl58_1, ↓r_tl58_2, ↓r_tl58_3, ↓r_tl58_4, ↓bd_bd, ↓bd_rt, r_thb, r_th, r_gI, r_gJ, r_pI, r_pJ, r_g41, r_g42, r_g43, r_g44, r_g45, r_g46, r_g47, r_g48, r_g49, r_g50, r_g51, r_g52, r_g53, r_g54, r_g55, r_g56, r_g57, r_g58, r_a41, r_a42, r_a43, r_a44, r_a45, r_a46, r_a47, r_a48, r_a49, r_a50, r_a51, r_a52, r_a53, r_a54, r_a55, r_a56, r_a57, r_a58, r_t41, r_t42, r_t43, r_t44, r_t45, r_t46, r_t47, r_t48, r_t49, r_t50, r_t51, r_t52, r_t53, r_t54, r_t55, r_t56, r_t57, r_t58, r_l43_0, r_l45_0, r_l45_1, r_l45_2, r_l45_3, r_l45_4, r_l45_5, r_l45_6, r_l45_105, r_l45_106, r_l45_1508, r_l45_1509, r_tl45_0, r_tl45_1, r_tl45_2, r_tl45_3, r_tl45_4, r_tl45_5, r_tl45_6, r_tl45_105, r_tl45_106, r_tl45_1508, r_tl45_1509, r_l48_0, r_l56_0, r_l57_0, r_tl58_0, r_tl58_1, r_tl58_2, r_tl58_3, r_tl58_4, la_1, lm_1, la_2, lm_2, la_3, lm_3, la_6, lm_6, la_7, lm_7, la_8, lm_8, la_13, lm_13, la_19, lm_19, la_25, lm_25, la_33, lm_33, la_41, lm_41, la_49, lm_49, la_57, lm_57, la_60, lm_60, la_105, lm_105, la_107, lm_107, la_1508, lm_1508, la_96, lm_96, la_377, lm_377, la_1509, lm_1509, ↓reduceIte, ↓ap_ite, ↓bd_ite, bd_bd, bd_rt, ap_rt, ite_some, nI_add, nI_1, nz_1, nz_2, nz_3, nz_4, nz_5, nz_6, nz_7, nz_8, nz_9, nz_10, nz_11, nz_12, nz_m1, z_eq, if_true, if_false, e_some, ite_self, ↓bd_of (r_puts (μ := m_sJ β (40, 0, 0) 41 1) hR)]
  have hcβ : m_I (m_sJ β (40, 0, 0) 41 1) (45, 0, 0) = cR ν := by rw [I_sJ, hβI]
  have hlp : m_e (m_lp (fn_M_laysBites_l41 (some (40, 0, 0)) (nI t) (nI n)) m_F 0 (pm (m_sJ β (40, 0, 0) 41 1))) (fun _ μ' => sm (fun x y z k => KR x y z k ∨ (x = 45 ∧ y = 0 ∧ z = 0 ∧ k < 105)) (pm (m_sJ β (40, 0, 0) 41 1)) μ' ∧ m_I μ' (45, 0, 0) = c_ag (cR ν) P t oi n ∧ (∀ k, k < 105 → m_I μ' (46, 0, 0) k = cR ν k) ∧ m_J μ' (45, 0, 0) = m_J ν (45, 0, 0) ∧ (∀ k, k ≠ 27 → m_I μ' (40, 0, 0) k = m_I ν (40, 0, 0) k) ∧ m_J μ' (40, 0, 0) 41 = lN (10 ^ n) ∧ ∀ k, k < 800 → m_J μ' (56, 0, 0) k = lN (Dd bb n k)) := by
    refine e_inv (fun i s μ' => s = nI i ∧ sm (fun x y z k => KR x y z k ∨ (x = 45 ∧ y = 0 ∧ z = 0 ∧ k < 105)) (pm (m_sJ β (40, 0, 0) 41 1)) μ' ∧ m_I μ' (45, 0, 0) = c_ag (cR ν) P t oi i ∧ (∀ k, k < 105 → m_I μ' (46, 0, 0) k = cR ν k) ∧ m_J μ' (45, 0, 0) = m_J ν (45, 0, 0) ∧ (∀ k, k ≠ 27 → m_I μ' (40, 0, 0) k = m_I ν (40, 0, 0) k) ∧ m_J μ' (40, 0, 0) 41 = lN (10 ^ i) ∧ ∀ k, k < 800 → m_J μ' (56, 0, 0) k = lN (Dd bb i k)) n ?_ ?_ ⟨rfl, sm_rf, ?_, fun k hk => ?_, ?_, fun k hk => ?_, ?_, fun k hk => ?_⟩ (by omega)
    · rintro i s μ' hi ⟨rfl, b1, b2, b3, b4, b5, b6, b7⟩
      have hR := sm_R b1 hR
      have hge := nI_ge hi (show n < 2 ^ 31 by omega)
      obtain ⟨el, hl54⟩ := hl (i + 1) (by omega) (by omega)
      have hcg : cR μ' = c_ag (cR ν) P t oi i := b2
      have hDg : Dim (c_ag (cR ν) P t oi i) P T := ⟨by unfold c_ag; rw [if_neg (by omega), y_ag_at hP6 (by omega)]; exact hP0, by unfold c_ag; rw [if_neg (by omega), y_ag_at hP6 (by omega)]; exact hT0, hP6, hT8⟩
      have hag := r_ages (μ := μ') (P := P) (T := T) hR (by rw [hcg]; exact hDg)
      rw [hcg] at hag
      generalize hd : m_I μ' (40, 0, 0) 27 + i_sum (y_dead (c_ag (cR ν) P t oi i)) P = d at hag
      -- the block behind the ages
      have hca : ∀ k, y_ages (c_ag (cR ν) P t oi i) P k = if k = 49 + t then nI (oi - i) else y_ag (cR ν) P (i + 1) k := fun k => by
        by_cases q : k = 49 + t
        · subst q
          rw [y_ages_at (by omega) (by omega), if_pos rfl]
          unfold c_ag
          rw [if_pos rfl]
        · rw [if_neg q]
          show _ = y_ages (y_ag (cR ν) P i) P k
          by_cases q25 : k < 25
          · refine ages_c hP6 (fun j hj => ?_) q25
            unfold c_ag
            rw [if_neg (by omega)]
          · rw [y_ages_at (by omega) (by omega), y_ages_at (by omega) (by omega)]
            unfold c_ag
            rw [if_neg q]
      generalize hγ : rY μ' (y_ages (c_ag (cR ν) P t oi i) P) d = γ at hag
      have hγ45 : m_I γ (45, 0, 0) = y_ages (c_ag (cR ν) P t oi i) P := by rw [← hγ, rY_c]
      have hγs : sm (fun x y z k => KR x y z k ∨ (x = 45 ∧ y = 0 ∧ z = 0 ∧ k < 105)) (pm (m_sJ β (40, 0, 0) 41 1)) γ := by
        rw [← hγ]
        refine sm_rY b1 _ _ (fun k hk => ?_) (.inl (by unfold KR; omega))
        have hk105 : 105 ≤ k := by
          by_cases q : k < 105
          · exact absurd (.inr ⟨rfl, rfl, rfl, q⟩) hk
          · omega
        rw [y_ages_at (by omega) (by omega), b2]
      have hγJ : m_J γ = m_J μ' := by rw [← hγ]; rfl
      have hγ46 : m_I γ (46, 0, 0) = m_I μ' (46, 0, 0) := by rw [← hγ, rY_o rfl rfl]
      have hγ40 : ∀ k, k ≠ 27 → m_I γ (40, 0, 0) k = m_I μ' (40, 0, 0) k := fun k hk => by rw [← hγ, rY_f hk]
      have hRγ := sm_R hγs ‹RefP (m_sJ β (40, 0, 0) 41 1)›
      have hDγ : Dim (cR γ) P T := by
        rw [cR, hγ45]
        exact ⟨by rw [y_ages_at (by omega) (by omega)]; exact hDg.1, by rw [y_ages_at (by omega) (by omega)]; exact hDg.2.1, hP6, hT8⟩
      have hlo := r_lovedOf' hRγ hDγ ht8
      rw [cR, hγ45, lvN_ag (c := cR ν) (P := P) (T := T) (oi := oi) (j := 0) (i := i + 1) hO ht8 hP6 hT8 (by omega) (fun k hk => by rw [hca, if_neg hk]), el] at hlo
      have hcm := r_clearMore (ν := γ) hRγ
      have hdm := r_damps (ν := m_rJ γ (57, 0, 0) (fun k => if k < 800 then 0 else m_J γ (57, 0, 0) k)) (t := t) (l := l (i + 1)) (oi := oi - i) (D := Dd bb i) hRγ ht8 hl54 (by rw [I_rJ, hγ45, hca, if_pos rfl]) (by omega) (fun k hk => by rw [J_rne _ rfl, hγJ, b7 k hk]) (fun k hk => by rw [J_rat, if_pos hk])
      unfold fn_M_laysBites_l41
      have hR := hRγ
      simp (disch := first | exact hC | exact hP | exact hR | ((repeat first | apply ClsP_sI | apply ClsP_sJ | apply ClsP_rI | apply ClsP_rJ | apply ClsP_rY); exact hC) | ((repeat first | apply FamP_sI | apply FamP_sJ | apply FamP_rI | apply FamP_rJ | apply FamP_rY); exact hP) | ((repeat first | apply RefP_sI | apply RefP_sJ | apply RefP_rI | apply RefP_rJ | apply RefP_rY); exact hR) | ((repeat first | apply PlanP_sI | apply PlanP_sJ | apply PlanP_rI | apply PlanP_rJ | apply PlanP_rY); exact hL) | omega) only [↓r_thb, ↓r_th, ↓r_gI, ↓r_gJ, ↓r_pI, ↓r_pJ, ↓r_g41, ↓r_g42, ↓r_g43, ↓r_g44, ↓r_g45, ↓r_g46, ↓r_g47, ↓r_g48, ↓r_g49, ↓r_g50, ↓r_g51, ↓r_g52, ↓r_g53, ↓r_g54, ↓r_g55, ↓r_g56, ↓r_g57, ↓r_g58, ↓r_a41, ↓r_a42, ↓r_a43, ↓r_a44, ↓r_a45, ↓r_a46, ↓r_a47, ↓r_a48, ↓r_a49, ↓r_a50, ↓r_a51, ↓r_a52, ↓r_a53, ↓r_a54, ↓r_a55, ↓r_a56, ↓r_a57, ↓r_a58, ↓r_t41, ↓r_t42, ↓r_t43, ↓r_t44, ↓r_t45, ↓r_t46, ↓r_t47, ↓r_t48, ↓r_t49, ↓r_t50, ↓r_t51, ↓r_t52, ↓r_t53, ↓r_t54, ↓r_t55, ↓r_t56, ↓r_t57, ↓r_t58, ↓r_l43_0, ↓r_l45_0, ↓r_l45_1, ↓r_l45_2, ↓r_l45_3, ↓r_l45_4, ↓r_l45_5, ↓r_l45_6, ↓r_l45_105, ↓r_l45_106, ↓r_l45_1508, ↓r_l45_1509, ↓r_tl45_0, ↓r_tl45_1, ↓r_tl45_2, ↓r_tl45_3, ↓r_tl45_4, ↓r_tl45_5, ↓r_tl45_6, ↓r_tl45_105, ↓r_tl45_106, ↓r_tl45_1508, ↓r_tl45_1509, ↓r_l48_0, ↓r_l56_0, ↓r_l57_0, ↓r_tl58_0, ↓r_tl58_1, ↓r_tl58_2, ↓r_tl58_3, ↓r_tl58_4, ↓bd_bd, ↓bd_rt, r_thb, r_th, r_gI, r_gJ, r_pI, r_pJ, r_g41, r_g42, r_g43, r_g44, r_g45, r_g46, r_g47, r_g48, r_g49, r_g50, r_g51, r_g52, r_g53, r_g54, r_g55, r_g56, r_g57, r_g58, r_a41, r_a42, r_a43, r_a44, r_a45, r_a46, r_a47, r_a48, r_a49, r_a50, r_a51, r_a52, r_a53, r_a54, r_a55, r_a56, r_a57, r_a58, r_t41, r_t42, r_t43, r_t44, r_t45, r_t46, r_t47, r_t48, r_t49, r_t50, r_t51, r_t52, r_t53, r_t54, r_t55, r_t56, r_t57, r_t58, r_l43_0, r_l45_0, r_l45_1, r_l45_2, r_l45_3, r_l45_4, r_l45_5, r_l45_6, r_l45_105, r_l45_106, r_l45_1508, r_l45_1509, r_tl45_0, r_tl45_1, r_tl45_2, r_tl45_3, r_tl45_4, r_tl45_5, r_tl45_6, r_tl45_105, r_tl45_106, r_tl45_1508, r_tl45_1509, r_l48_0, r_l56_0, r_l57_0, r_tl58_0, r_tl58_1, r_tl58_2, r_tl58_3, r_tl58_4, la_1, lm_1, la_2, lm_2, la_3, lm_3, la_6, lm_6, la_7, lm_7, la_8, lm_8, la_13, lm_13, la_19, lm_19, la_25, lm_25, la_33, lm_33, la_41, lm_41, la_49, lm_49, la_57, lm_57, la_60, lm_60, la_105, lm_105, la_107, lm_107, la_1508, lm_1508, la_96, lm_96, la_377, lm_377, la_1509, lm_1509, ↓reduceIte, ↓ap_ite, ↓bd_ite, bd_bd, bd_rt, ap_rt, ite_some, nI_add, nI_1, nz_1, nz_2, nz_3, nz_4, nz_5, nz_6, nz_7, nz_8, nz_9, nz_10, nz_11, nz_12, nz_m1, z_eq, if_true, if_false, e_some, ite_self, hge, ↓bd_of hag, ↓bd_of hlo, ↓bd_of hcm]
      refine e_bd hdm ?_
      rintro - _ ⟨gm', rfl, hgm⟩
      rw [rJ_rJ]
      have hbk := r_backBites (ν := m_rJ γ (57, 0, 0) gm') hRγ
      rw [J_rat, J_rne _ (show Nat.beq 56 57 = false from rfl)] at hbk
      have e49 : m_I (m_rJ (m_rJ γ (57, 0, 0) gm') (56, 0, 0) (fun k => if k < 800 then gm' k else m_J γ (56, 0, 0) k)) (45, 0, 0) (49 + t) = nI (oi - i) := by rw [I_rJ, I_rJ, hγ45, hca, if_pos rfl]
      have e41 : m_J (m_rJ (m_rJ γ (57, 0, 0) gm') (56, 0, 0) (fun k => if k < 800 then gm' k else m_J γ (56, 0, 0) k)) (40, 0, 0) 41 = lN (10 ^ i) := by rw [J_rne _ rfl, J_rne _ rfl, hγJ, b6]
      have e10 : lN (10 ^ i) * 10 = lN (10 ^ (i + 1)) := by rw [show (10 : Int64) = lN 10 from rfl, lN_mul, Nat.pow_succ]
      have eo : iMax 0 (nI (oi - i) - 1) = nI (oi - (i + 1)) := by rw [oil1_n (by omega)]; rfl
      simp (disch := first | exact hC | exact hP | exact hR | ((repeat first | apply ClsP_sI | apply ClsP_sJ | apply ClsP_rI | apply ClsP_rJ | apply ClsP_rY); exact hC) | ((repeat first | apply FamP_sI | apply FamP_sJ | apply FamP_rI | apply FamP_rJ | apply FamP_rY); exact hP) | ((repeat first | apply RefP_sI | apply RefP_sJ | apply RefP_rI | apply RefP_rJ | apply RefP_rY); exact hR) | ((repeat first | apply PlanP_sI | apply PlanP_sJ | apply PlanP_rI | apply PlanP_rJ | apply PlanP_rY); exact hL) | omega) only [↓r_thb, ↓r_th, ↓r_gI, ↓r_gJ, ↓r_pI, ↓r_pJ, ↓r_g41, ↓r_g42, ↓r_g43, ↓r_g44, ↓r_g45, ↓r_g46, ↓r_g47, ↓r_g48, ↓r_g49, ↓r_g50, ↓r_g51, ↓r_g52, ↓r_g53, ↓r_g54, ↓r_g55, ↓r_g56, ↓r_g57, ↓r_g58, ↓r_a41, ↓r_a42, ↓r_a43, ↓r_a44, ↓r_a45, ↓r_a46, ↓r_a47, ↓r_a48, ↓r_a49, ↓r_a50, ↓r_a51, ↓r_a52, ↓r_a53, ↓r_a54, ↓r_a55, ↓r_a56, ↓r_a57, ↓r_a58, ↓r_t41, ↓r_t42, ↓r_t43, ↓r_t44, ↓r_t45, ↓r_t46, ↓r_t47, ↓r_t48, ↓r_t49, ↓r_t50, ↓r_t51, ↓r_t52, ↓r_t53, ↓r_t54, ↓r_t55, ↓r_t56, ↓r_t57, ↓r_t58, ↓r_l43_0, ↓r_l45_0, ↓r_l45_1, ↓r_l45_2, ↓r_l45_3, ↓r_l45_4, ↓r_l45_5, ↓r_l45_6, ↓r_l45_105, ↓r_l45_106, ↓r_l45_1508, ↓r_l45_1509, ↓r_tl45_0, ↓r_tl45_1, ↓r_tl45_2, ↓r_tl45_3, ↓r_tl45_4, ↓r_tl45_5, ↓r_tl45_6, ↓r_tl45_105, ↓r_tl45_106, ↓r_tl45_1508, ↓r_tl45_1509, ↓r_l48_0, ↓r_l56_0, ↓r_l57_0, ↓r_tl58_0, ↓r_tl58_1, ↓r_tl58_2, ↓r_tl58_3, ↓r_tl58_4, ↓bd_bd, ↓bd_rt, r_thb, r_th, r_gI, r_gJ, r_pI, r_pJ, r_g41, r_g42, r_g43, r_g44, r_g45, r_g46, r_g47, r_g48, r_g49, r_g50, r_g51, r_g52, r_g53, r_g54, r_g55, r_g56, r_g57, r_g58, r_a41, r_a42, r_a43, r_a44, r_a45, r_a46, r_a47, r_a48, r_a49, r_a50, r_a51, r_a52, r_a53, r_a54, r_a55, r_a56, r_a57, r_a58, r_t41, r_t42, r_t43, r_t44, r_t45, r_t46, r_t47, r_t48, r_t49, r_t50, r_t51, r_t52, r_t53, r_t54, r_t55, r_t56, r_t57, r_t58, r_l43_0, r_l45_0, r_l45_1, r_l45_2, r_l45_3, r_l45_4, r_l45_5, r_l45_6, r_l45_105, r_l45_106, r_l45_1508, r_l45_1509, r_tl45_0, r_tl45_1, r_tl45_2, r_tl45_3, r_tl45_4, r_tl45_5, r_tl45_6, r_tl45_105, r_tl45_106, r_tl45_1508, r_tl45_1509, r_l48_0, r_l56_0, r_l57_0, r_tl58_0, r_tl58_1, r_tl58_2, r_tl58_3, r_tl58_4, la_1, lm_1, la_2, lm_2, la_3, lm_3, la_6, lm_6, la_7, lm_7, la_8, lm_8, la_13, lm_13, la_19, lm_19, la_25, lm_25, la_33, lm_33, la_41, lm_41, la_49, lm_49, la_57, lm_57, la_60, lm_60, la_105, lm_105, la_107, lm_107, la_1508, lm_1508, la_96, lm_96, la_377, lm_377, la_1509, lm_1509, ↓reduceIte, ↓ap_ite, ↓bd_ite, bd_bd, bd_rt, ap_rt, ite_some, nI_add, nI_1, nz_1, nz_2, nz_3, nz_4, nz_5, nz_6, nz_7, nz_8, nz_9, nz_10, nz_11, nz_12, nz_m1, z_eq, if_true, if_false, e_some, ite_self, ↓bd_of hbk, e49, eo, J_sI, e41, e10]
      refine ⟨_, rfl, rfl, sm_sJ (sm_sI (sm_rJ (sm_rJ hγs _ (fun k hk => absurd (.inl (by unfold KR; omega)) hk)) _ (fun k hk => absurd (.inl (by unfold KR; omega)) hk)) _ (.inr ⟨rfl, rfl, rfl, by omega⟩)) _ (.inl (by unfold KR; omega)), ?_, fun k hk => ?_, ?_, fun k hk => ?_, ?_, fun k hk => ?_⟩
      · rw [I_sJ, I_row, I_rJ, I_rJ, hγ45]
        funext k
        unfold ud c_ag
        by_cases q : k = 49 + t
        · rw [if_pos q, if_pos q]
        · rw [if_neg q, if_neg q]
          have := hca k
          rw [if_neg q] at this
          exact this
      · rw [I_sJ, I_ne _ rfl, I_rJ, I_rJ, hγ46, b3 k hk]
      · rw [J_ne _ rfl, J_sI, J_rne _ rfl, J_rne _ rfl, hγJ, b4]
      · rw [I_sJ, I_ne _ rfl, I_rJ, I_rJ, hγ40 k hk, b5 k hk]
      · rw [J_row, ud_at]
      · rw [J_ne _ rfl, J_sI, J_rat, if_pos hk, hgm k hk]
        show _ = lN (nsum (fun d => if bb i d ≤ k then Dd bb i (k - bb i d) else 0) 10)
        refine congrArg lN (nsum_c 10 fun d hd => ?_)
        rw [hbb']
    · rintro s μ' ⟨rfl, b⟩
      unfold fn_M_laysBites_l41
      simp only [↓bd_bd, ↓bd_rt, ↓reduceIte, ↓ap_ite, ↓bd_ite, bd_bd, bd_rt, ap_rt, ite_some, nz_1, nz_2, nz_3, nz_4, nz_5, nz_6, nz_7, nz_8, nz_9, nz_10, nz_11, nz_12, nz_m1, z_eq, if_true, if_false, e_some, ite_self, Int32.le_refl (nI n)]
      exact ⟨(), trivial, b⟩
    · rw [pm_45, hcβ]
      funext k
      unfold c_ag y_ag
      split
      · next q => rw [q]; exact hoi
      · rfl
    · rw [I_rat, if_pos hk]
      exact congrFun hcβ k
    · rw [J_rI, J_ne _ rfl, hβ45]
    · rw [I_rne _ rfl, I_sJ, hβI]
    · rw [J_rI, J_row, ud_at]
      rfl
    · rw [J_rI, J_ne _ rfl, hβ56, hg0 k hk]
      rfl
  refine e_bd hlp ?_
  rintro - μ1 ⟨a1, a2, a3, a4, a5, a6, a7⟩
  have hsβ2 : sm KR ν (m_sJ β (40, 0, 0) 41 1) := sm_sJ hsβ _ (by unfold KR; omega)
  have hcβ' : m_I (m_sJ β (40, 0, 0) 41 1) (45, 0, 0) = cR ν := hcβ
  obtain ⟨g1, g2⟩ := gm_fix (ν := m_sJ β (40, 0, 0) 41 1) a1 (fun k hk => by rw [a3 k hk, hcβ']) (by rw [a4, J_ne _ rfl, hβ45])
  have hR := sm_R a1 hR
  simp (disch := first | exact hC | exact hP | exact hR | ((repeat first | apply ClsP_sI | apply ClsP_sJ | apply ClsP_rI | apply ClsP_rJ | apply ClsP_rY); exact hC) | ((repeat first | apply FamP_sI | apply FamP_sJ | apply FamP_rI | apply FamP_rJ | apply FamP_rY); exact hP) | ((repeat first | apply RefP_sI | apply RefP_sJ | apply RefP_rI | apply RefP_rJ | apply RefP_rY); exact hR) | ((repeat first | apply PlanP_sI | apply PlanP_sJ | apply PlanP_rI | apply PlanP_rJ | apply PlanP_rY); exact hL) | omega) only [↓r_thb, ↓r_th, ↓r_gI, ↓r_gJ, ↓r_pI, ↓r_pJ, ↓r_g41, ↓r_g42, ↓r_g43, ↓r_g44, ↓r_g45, ↓r_g46, ↓r_g47, ↓r_g48, ↓r_g49, ↓r_g50, ↓r_g51, ↓r_g52, ↓r_g53, ↓r_g54, ↓r_g55, ↓r_g56, ↓r_g57, ↓r_g58, ↓r_a41, ↓r_a42, ↓r_a43, ↓r_a44, ↓r_a45, ↓r_a46, ↓r_a47, ↓r_a48, ↓r_a49, ↓r_a50, ↓r_a51, ↓r_a52, ↓r_a53, ↓r_a54, ↓r_a55, ↓r_a56, ↓r_a57, ↓r_a58, ↓r_t41, ↓r_t42, ↓r_t43, ↓r_t44, ↓r_t45, ↓r_t46, ↓r_t47, ↓r_t48, ↓r_t49, ↓r_t50, ↓r_t51, ↓r_t52, ↓r_t53, ↓r_t54, ↓r_t55, ↓r_t56, ↓r_t57, ↓r_t58, ↓r_l43_0, ↓r_l45_0, ↓r_l45_1, ↓r_l45_2, ↓r_l45_3, ↓r_l45_4, ↓r_l45_5, ↓r_l45_6, ↓r_l45_105, ↓r_l45_106, ↓r_l45_1508, ↓r_l45_1509, ↓r_tl45_0, ↓r_tl45_1, ↓r_tl45_2, ↓r_tl45_3, ↓r_tl45_4, ↓r_tl45_5, ↓r_tl45_6, ↓r_tl45_105, ↓r_tl45_106, ↓r_tl45_1508, ↓r_tl45_1509, ↓r_l48_0, ↓r_l56_0, ↓r_l57_0, ↓r_tl58_0, ↓r_tl58_1, ↓r_tl58_2, ↓r_tl58_3, ↓r_tl58_4, ↓bd_bd, ↓bd_rt, r_thb, r_th, r_gI, r_gJ, r_pI, r_pJ, r_g41, r_g42, r_g43, r_g44, r_g45, r_g46, r_g47, r_g48, r_g49, r_g50, r_g51, r_g52, r_g53, r_g54, r_g55, r_g56, r_g57, r_g58, r_a41, r_a42, r_a43, r_a44, r_a45, r_a46, r_a47, r_a48, r_a49, r_a50, r_a51, r_a52, r_a53, r_a54, r_a55, r_a56, r_a57, r_a58, r_t41, r_t42, r_t43, r_t44, r_t45, r_t46, r_t47, r_t48, r_t49, r_t50, r_t51, r_t52, r_t53, r_t54, r_t55, r_t56, r_t57, r_t58, r_l43_0, r_l45_0, r_l45_1, r_l45_2, r_l45_3, r_l45_4, r_l45_5, r_l45_6, r_l45_105, r_l45_106, r_l45_1508, r_l45_1509, r_tl45_0, r_tl45_1, r_tl45_2, r_tl45_3, r_tl45_4, r_tl45_5, r_tl45_6, r_tl45_105, r_tl45_106, r_tl45_1508, r_tl45_1509, r_l48_0, r_l56_0, r_l57_0, r_tl58_0, r_tl58_1, r_tl58_2, r_tl58_3, r_tl58_4, la_1, lm_1, la_2, lm_2, la_3, lm_3, la_6, lm_6, la_7, lm_7, la_8, lm_8, la_13, lm_13, la_19, lm_19, la_25, lm_25, la_33, lm_33, la_41, lm_41, la_49, lm_49, la_57, lm_57, la_60, lm_60, la_105, lm_105, la_107, lm_107, la_1508, lm_1508, la_96, lm_96, la_377, lm_377, la_1509, lm_1509, ↓reduceIte, ↓ap_ite, ↓bd_ite, bd_bd, bd_rt, ap_rt, ite_some, nI_add, nI_1, nz_1, nz_2, nz_3, nz_4, nz_5, nz_6, nz_7, nz_8, nz_9, nz_10, nz_11, nz_12, nz_m1, z_eq, if_true, if_false, e_some, ite_self, ↓bd_of (r_gives hR)]
  refine ⟨sm_tr hsβ2 g1, ?_, fun k hk => by rw [I_rne _ rfl, a5 k hk], by rw [J_rI, a6], fun k hk => by rw [J_rI, a7 k hk]⟩
  rw [g2, a2, hcβ']
  funext k
  by_cases q : k < 105
  · rw [if_pos q]
  · rw [if_neg q]
    unfold c_ag
    rw [if_neg (by omega), y_ag_at hP6 (by omega)]
end RB
