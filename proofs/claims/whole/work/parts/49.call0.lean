/-! Part 49: how a call is held against its twin; the class's small questions -/
set_option maxHeartbeats 200000 in
theorem bd_thb {α β : Type} {μ : mM} {ci : Nat} {a : mA} (h : oO μ ci a) (T : mP α) (K : α → mP β) : m_bd (m_th ci (some a) T) K μ = m_bd T K μ := by
  unfold m_bd
  rw [bd_th h]
set_option maxHeartbeats 200000 in
theorem r_thb {α β : Type} {μ : mM} (h : RefP μ) (T : mP α) (K : α → mP β) : m_bd (m_th 11 (some (40, 0, 0)) T) K μ = m_bd T K μ := bd_thb (r_oO h) T K
set_option maxHeartbeats 200000 in
theorem c_main_thb {α β : Type} {μ : mM} (h : ClsP μ) (T : mP α) (K : α → mP β) : m_bd (m_th 0 (some (1, 0, 0)) T) K μ = m_bd T K μ := bd_thb (o_main h) T K
set_option maxHeartbeats 200000 in
theorem c_tray_thb {α β : Type} {μ : mM} {i : Nat} (h : ClsP μ) (hi : i < 4) (T : mP α) (K : α → mP β) : m_bd (m_th 1 (some (3, 0, i)) T) K μ = m_bd T K μ := bd_thb (o_tray h hi) T K
set_option maxHeartbeats 200000 in
theorem c_text_thb {α β : Type} {μ : mM} (h : ClsP μ) (T : mP α) (K : α → mP β) : m_bd (m_th 2 (some (5, 0, 0)) T) K μ = m_bd T K μ := bd_thb (o_text h) T K
set_option maxHeartbeats 200000 in
theorem c_fam_thb {α β : Type} {μ : mM} {f : Nat} (h : FamP μ f) (T : mP α) (K : α → mP β) : m_bd (m_th 3 (some (7, f, 0)) T) K μ = m_bd T K μ := bd_thb (o_fam h) T K
set_option maxHeartbeats 200000 in
theorem c_per_thb {α β : Type} {μ : mM} {f : Nat} {i : Nat} (h : FamP μ f) (hi : i < 6) (T : mP α) (K : α → mP β) : m_bd (m_th 4 (some (9, f, i)) T) K μ = m_bd T K μ := bd_thb (o_per h hi) T K
set_option maxHeartbeats 200000 in
theorem c_thi_thb {α β : Type} {μ : mM} {f : Nat} {i : Nat} (h : FamP μ f) (hi : i < 8) (T : mP α) (K : α → mP β) : m_bd (m_th 5 (some (12, f, i)) T) K μ = m_bd T K μ := bd_thb (o_thi h hi) T K
set_option maxHeartbeats 200000 in
theorem c_plan_thb {α β : Type} {μ : mM} {f : Nat} (h : PlanP μ f) (T : mP α) (K : α → mP β) : m_bd (m_th 6 (some (13, f, 0)) T) K μ = m_bd T K μ := bd_thb (o_plan h) T K
set_option maxHeartbeats 200000 in
theorem c_ahd_thb {α β : Type} {μ : mM} (h : ClsP μ) (T : mP α) (K : α → mP β) : m_bd (m_th 7 (some (17, 0, 0)) T) K μ = m_bd T K μ := bd_thb (o_ahd h) T K
set_option maxHeartbeats 200000 in
theorem c_then_thb {α β : Type} {μ : mM} (h : ClsP μ) (T : mP α) (K : α → mP β) : m_bd (m_th 5 (some (12, 5, 0)) T) K μ = m_bd T K μ := bd_thb (o_then h) T K
set_option maxHeartbeats 200000 in
theorem c_sig_thb {α β : Type} {μ : mM} (h : ClsP μ) (T : mP α) (K : α → mP β) : m_bd (m_th 8 (some (20, 0, 0)) T) K μ = m_bd T K μ := bd_thb (o_sig h) T K
set_option maxHeartbeats 200000 in
theorem c_kee_thb {α β : Type} {μ : mM} (h : ClsP μ) (T : mP α) (K : α → mP β) : m_bd (m_th 9 (some (23, 0, 0)) T) K μ = m_bd T K μ := bd_thb (o_kee h) T K
set_option maxHeartbeats 200000 in
theorem c_gam_thb {α β : Type} {μ : mM} (h : ClsP μ) (T : mP α) (K : α → mP β) : m_bd (m_th 10 (some (29, 0, 0)) T) K μ = m_bd T K μ := bd_thb (o_gam h) T K
set_option maxHeartbeats 200000 in
theorem c_brd_thb {α β : Type} {μ : mM} {i : Nat} (h : ClsP μ) (hi : i < 10) (T : mP α) (K : α → mP β) : m_bd (m_th 5 (some (12, 6, i)) T) K μ = m_bd T K μ := bd_thb (o_brd h hi) T K
def OK (μ : mM) : Prop := ∃ made n fa pa P T, Inv μ made n fa pa P T
/-- both answer alike, and the invariant holds again -/
def Jn {α : Type} (x y : mP α) (μ : mM) : Prop := m_e (x μ) fun b μ1 => m_e (y μ1) fun b' μ2 => b = b' ∧ OK μ2
set_option maxHeartbeats 200000 in
theorem nz_1 : ((1 : Int32) = 0) = False := by decide
set_option maxHeartbeats 200000 in
theorem nz_2 : ((2 : Int32) = 0) = False := by decide
set_option maxHeartbeats 200000 in
theorem nz_3 : ((3 : Int32) = 0) = False := by decide
set_option maxHeartbeats 200000 in
theorem nz_4 : ((4 : Int32) = 0) = False := by decide
set_option maxHeartbeats 200000 in
theorem nz_5 : ((5 : Int32) = 0) = False := by decide
set_option maxHeartbeats 200000 in
theorem nz_6 : ((6 : Int32) = 0) = False := by decide
set_option maxHeartbeats 200000 in
theorem nz_7 : ((7 : Int32) = 0) = False := by decide
set_option maxHeartbeats 200000 in
theorem nz_8 : ((8 : Int32) = 0) = False := by decide
set_option maxHeartbeats 200000 in
theorem nz_9 : ((9 : Int32) = 0) = False := by decide
set_option maxHeartbeats 200000 in
theorem nz_10 : ((10 : Int32) = 0) = False := by decide
set_option maxHeartbeats 200000 in
theorem nz_11 : ((11 : Int32) = 0) = False := by decide
set_option maxHeartbeats 200000 in
theorem nz_12 : ((12 : Int32) = 0) = False := by decide
set_option maxHeartbeats 200000 in
theorem nz_m1 : ((-1 : Int32) = 0) = False := by decide
set_option maxHeartbeats 200000 in
theorem z_eq : ((0 : Int32) = 0) = True := eq_self 0
def KC (fa pa : Nat → Nat) (x y _z k : Nat) : Prop := (x = 1 ∧ k = 0) ∨ (x < 40 ∧ Scr fa pa x y k)
def KR (x _y _z k : Nat) : Prop := (x = 40 ∧ k ≠ 2 ∧ k ≠ 3 ∧ k ≠ 8 ∧ k ≠ 10 ∧ k ≠ 11 ∧ k ≠ 24 ∧ k ≠ 43) ∨ (x = 45 ∧ 1508 ≤ k) ∨ x = 46 ∨ x = 47 ∨ (x = 48 ∧ 56 ≤ k) ∨ (49 ≤ x ∧ x ≤ 57)
set_option maxHeartbeats 200000 in
theorem KR_Scr {fa pa : Nat → Nat} {x y z k : Nat} (h : KR x y z k) : Scr fa pa x y k ∨ (x = 1 ∧ k = 0) ∨ (x = 40 ∧ k = 0) := by
  rcases h with h | h | h | h | h | h
  · by_cases hk : k = 0
    · exact .inr (.inr ⟨h.1, hk⟩)
    · exact .inl (.inr (.inr (.inr (.inr (.inr (.inl ⟨h.1, hk, h.2⟩))))))
  · exact .inl (.inr (.inr (.inr (.inr (.inr (.inr (.inl h)))))))
  · exact .inl (.inr (.inr (.inr (.inr (.inr (.inr (.inr (.inl h))))))))
  · exact .inl (.inr (.inr (.inr (.inr (.inr (.inr (.inr (.inr (.inl h)))))))))
  · exact .inl (.inr (.inr (.inr (.inr (.inr (.inr (.inr (.inr (.inr (.inl h))))))))))
  · exact .inl (.inr (.inr (.inr (.inr (.inr (.inr (.inr (.inr (.inr (.inr (.inl h)))))))))))
set_option maxHeartbeats 200000 in
theorem KC_Scr {fa pa : Nat → Nat} {x y z k : Nat} (h : KC fa pa x y z k) : Scr fa pa x y k ∨ (x = 1 ∧ k = 0) ∨ (x = 40 ∧ k = 0) := by
  rcases h with h | h
  · exact .inr (.inl h)
  · exact .inl h.2
set_option maxHeartbeats 200000 in
theorem KZ_Scr {fa pa : Nat → Nat} {x y k : Nat} (h : x = 40 ∧ k < 2) : Scr fa pa x y k ∨ (x = 1 ∧ k = 0) ∨ (x = 40 ∧ k = 0) := by
  by_cases hk : k = 0
  · exact .inr (.inr ⟨h.1, hk⟩)
  · exact .inl (.inr (.inr (.inr (.inr (.inr (.inl ⟨h.1, hk, by omega, by omega, by omega, by omega, by omega, by omega, by omega⟩))))))
/-- the reference's first words in a call -/
abbrev zz (μ : mM) : mM := m_sI (m_sI μ (40, 0, 0) 1 0) (40, 0, 0) 0 0
set_option maxHeartbeats 200000 in
theorem r_pre {α : Type} {μ : mM} (hR : RefP μ) (B : mP α) : m_th 11 (some (40, 0, 0)) (m_bd (m_pI 11 1 (some (40, 0, 0)) 0) fun _ => m_bd (m_pI 11 0 (some (40, 0, 0)) 0) fun _ => B) μ = B (zz μ) := by
  rw [r_th hR, r_pI hR, r_pI (show RefP (m_sI μ (40, 0, 0) 1 0) from hR)]
set_option maxHeartbeats 200000 in
theorem zz_I {μ : mM} {x y z : Nat} (h : Nat.beq x 40 = false) : m_I (zz μ) (x, y, z) = m_I μ (x, y, z) := by
  unfold zz
  rw [I_ne _ h, I_ne _ h]
set_option maxHeartbeats 200000 in
theorem zz_J {μ : mM} : m_J (zz μ) = m_J μ := rfl
set_option maxHeartbeats 200000 in
theorem zz_0 {μ : mM} : m_I (zz μ) (40, 0, 0) 0 = 0 := by
  unfold zz
  rw [I_row, ud_at]
set_option maxHeartbeats 200000 in
theorem zz_f {μ : mM} {k : Nat} (h : ¬ k = 0) (h' : ¬ k = 1) : m_I (zz μ) (40, 0, 0) k = m_I μ (40, 0, 0) k := by
  unfold zz
  rw [I_row, ud_ne h, I_row, ud_ne h']
/-- the current family, as the class sees it -/
def Cur (μ : mM) (f : Nat) (c : Nat → Int32) (w : Nat → Int64) (P T : Nat) : Prop := ClsP μ ∧ m_R μ (1, 0, 0) 5 = some (7, f, 0) ∧ FamP μ f ∧ FamI μ f c w P T ∧ Dim c P T
set_option maxHeartbeats 200000 in
theorem Cur_sm {K : Nat → Nat → Nat → Nat → Prop} {μ μ' : mM} {f P T : Nat} {c : Nat → Int32} {w : Nat → Int64} (h : Cur μ f c w P T) (hs : sm K μ μ') (hk : ∀ x z k, x = 7 ∨ x = 9 ∨ x = 10 ∨ x = 12 → ¬ K x f z k) : Cur μ' f c w P T := ⟨sm_C hs h.1, by rw [hs.2.1]; exact h.2.1, sm_F hs h.2.2.1, FamI_sm h.2.2.2.1 hs hk, h.2.2.2.2⟩
set_option maxHeartbeats 200000 in
theorem Cur_st {μ : mM} {f P T k : Nat} {c : Nat → Int32} {w : Nat → Int64} (h : Cur μ f c w P T) (v : Int32) : Cur (m_sI μ (1, 0, 0) k v) f c w P T :=
  Cur_sm h (K := fun x _ _ _ => x = 1) (sm_sI sm_rf v rfl) (by omega)
set_option maxHeartbeats 200000 in
theorem Inv_cur {μ : mM} {made n P T : Nat} {fa pa : Nat → Nat} (h : Inv μ made n fa pa P T) : Cur μ (fa 0) (cR μ) (wR μ) P T := by
  obtain ⟨⟨⟨h1, h2, h3, h4, h5, h6, h7, h8, h9⟩, -⟩, -, -, -, -, -, -, hV, -⟩ := h
  exact ⟨h1, h8, (h5 0 (by omega)).2.1, hV.1, hV.2.1⟩
set_option maxHeartbeats 200000 in
theorem Inv_ref {μ : mM} {made n P T : Nat} {fa pa : Nat → Nat} (h : Inv μ made n fa pa P T) : RefP μ := h.1.1.2.1
set_option maxHeartbeats 200000 in
theorem Inv_ok {μ : mM} {made n P T : Nat} {fa pa : Nat → Nat} (h : Inv μ made n fa pa P T) : Okc (cR μ) P T := h.2.2.2.2.2.2.2.1.2.2
def QC (fa pa : Nat → Nat) (μ : mM) (st : Int32) {α : Type} (a : α) : α → mM → Prop := fun b μ1 => b = a ∧ m_I μ1 (1, 0, 0) 0 = st ∧ sm (KC fa pa) μ μ1
def QR (ν : mM) (st : Int32) {α : Type} (a : α) : α → mM → Prop := fun b μ2 => a = b ∧ m_I μ2 (40, 0, 0) 0 = st ∧ sm KR ν μ2
set_option maxHeartbeats 200000 in
theorem QC_st {fa pa : Nat → Nat} {μ : mM} {α : Type} (st : Int32) (a : α) : QC fa pa μ st a a (m_sI μ (1, 0, 0) 0 st) := ⟨rfl, by rw [I_row, ud_at], sm_sI sm_rf _ (.inl ⟨rfl, rfl⟩)⟩
set_option maxHeartbeats 200000 in
theorem QC_st2 {fa pa : Nat → Nat} {μ : mM} {α : Type} (st st' : Int32) (a : α) : QC fa pa μ st a a (m_sI (m_sI μ (1, 0, 0) 0 st') (1, 0, 0) 0 st) := ⟨rfl, by rw [I_row, ud_at], sm_sI (sm_sI sm_rf _ (.inl ⟨rfl, rfl⟩)) _ (.inl ⟨rfl, rfl⟩)⟩
set_option maxHeartbeats 200000 in
theorem QR_st {ν : mM} {α : Type} (st : Int32) (a : α) : QR ν st a a (m_sI ν (40, 0, 0) 0 st) := ⟨rfl, by rw [I_row, ud_at], sm_sI sm_rf _ (by unfold KR; omega)⟩
set_option maxHeartbeats 200000 in
theorem QR_rf {ν : mM} {α : Type} {st : Int32} (h : m_I ν (40, 0, 0) 0 = st) (a : α) : QR ν st a a ν := ⟨rfl, h, sm_rf⟩
set_option maxHeartbeats 200000 in
/-- a call that asks only: the class's side, the reference's side behind its first words -/
theorem call_q {α : Type} {x y : mP α} {B : mP α} {μ : mM} {made n P T : Nat} {fa pa : Nat → Nat} (h : Inv μ made n fa pa P T) (hB : ∀ μ, RefP μ → y μ = B (zz μ)) (st : Int32) (a : α) (C : m_e (x μ) (QC fa pa μ st a)) (R : ∀ ν, RefP ν → (∀ x, 41 ≤ x → m_I ν (x, 0, 0) = m_I μ (x, 0, 0) ∧ m_J ν (x, 0, 0) = m_J μ (x, 0, 0)) → (m_I ν (40, 0, 0) 0 = 0 ∧ ∀ k, 2 ≤ k → m_I ν (40, 0, 0) k = m_I μ (40, 0, 0) k) → m_e (B ν) (QR ν st a)) : Jn x y μ := by
  obtain ⟨f1, f2, f3, f4, f5, f6⟩ := ptr_facts h.1.1
  refine e_mono C ?_
  rintro b μ1 ⟨rfl, h1, h2⟩
  have hR1 : RefP μ1 := sm_R h2 (Inv_ref h)
  rw [hB μ1 hR1]
  have hz : sm (fun x _ _ k => x = 40 ∧ k < 2) μ1 (zz μ1) := sm_sI (sm_sI sm_rf _ (by omega)) _ (by omega)
  refine e_mono (R (zz μ1) hR1 (fun x hx => ?_) ⟨zz_0, fun k hk => ?_⟩) ?_
  · rw [sm_Ir hz (by omega), sm_Jr hz (by omega), sm_Ir h2 (by unfold KC; omega), sm_Jr h2 (by unfold KC; omega)]
    exact ⟨rfl, rfl⟩
  · rw [sm_I hz (by omega), sm_I h2 (by unfold KC; omega)]
  · rintro b' μ2 ⟨rfl, h3, h4⟩
    refine ⟨rfl, _, _, _, _, _, _, Inv_q h (sm_tr (sm_tr (sm_mono h2 ?_) (sm_mono hz ?_)) (sm_mono h4 ?_)) ?_⟩
    · exact fun _ _ _ _ q => KC_Scr q
    · exact fun _ _ _ _ q => KZ_Scr q
    · exact fun _ _ _ _ q => KR_Scr q
    · show m_I μ2 (1, 0, 0) 0 = m_I μ2 (40, 0, 0) 0
      rw [h3, sm_I h4 (by unfold KR; omega), zz_I rfl, h1]
section KQ
variable {μ : mM} {f P T : Nat} {c : Nat → Int32} {w : Nat → Int64}
set_option maxHeartbeats 200000 in
theorem k_isPerson (h : Cur μ f c w P T) (x : Int32) : fn_C_isPerson (some (1, 0, 0)) x μ = some (w_at x P, μ) := by
  obtain ⟨hC, hM, hP, hI, hD⟩ := h
  unfold fn_C_isPerson w_at
  simp (disch := first | exact hC | exact hP | exact hR | ((repeat first | apply ClsP_sI | apply ClsP_sJ | apply ClsP_rI | apply ClsP_rJ | apply ClsP_rY); exact hC) | ((repeat first | apply FamP_sI | apply FamP_sJ | apply FamP_rI | apply FamP_rJ | apply FamP_rY); exact hP) | ((repeat first | apply RefP_sI | apply RefP_sJ | apply RefP_rI | apply RefP_rJ | apply RefP_rY); exact hR) | ((repeat first | apply PlanP_sI | apply PlanP_sJ | apply PlanP_rI | apply PlanP_rJ | apply PlanP_rY); exact hL) | omega) only [c_main_r3, c_main_r4, c_main_r8, c_main_r10, c_main_r11, c_main_r12, c_main_r13, c_main_r14, c_text_r0, c_ahd_r1, c_ahd_r2, c_ahd_r3, c_sig_r0, c_sig_r1, c_kee_r0, c_kee_r1, c_kee_r2, c_kee_r3, c_kee_r5, c_gam_r1, c_gam_r2, c_trays_r, c_tray_r2, c_brds_r, c_brds_r0, c_brds_r1, c_fam_r7, c_fam_r8, c_pers_r, c_per_r4, c_itm_r, c_plan_r2, c_plan_r3, c_plan_r4, c_plan_r5, c_plan_r6, c_plan_r11, c_plan_r12, c_main_R5, c_main_R6, c_main_R7, c_fam_R9, c_main_th, c_main_gI, c_main_gJ, c_main_pI, c_main_pJ, c_main_pR, c_main_pZ, c_tray_th, c_tray_gI, c_tray_pI, c_tray_pR, c_text_th, c_text_gI, c_text_gJ, c_text_pI, c_text_pJ, c_text_pR, c_fam_th, c_fam_gI, c_fam_pI, c_fam_pR, c_per_th, c_per_gI, c_per_gJ, c_per_pI, c_per_pJ, c_per_pR, c_per_pZ, c_thi_th, c_thi_gI, c_thi_gJ, c_thi_pI, c_thi_pJ, c_plan_th, c_plan_gI, c_plan_pI, c_plan_pR, c_plan_pZ, c_ahd_th, c_ahd_gI, c_ahd_pI, c_ahd_pR, c_then_th, c_then_gI, c_then_gJ, c_then_pI, c_then_pJ, c_sig_th, c_sig_gI, c_sig_pI, c_sig_pR, c_kee_th, c_kee_gI, c_kee_pI, c_kee_pR, c_gam_th, c_gam_gI, c_gam_pI, c_gam_pR, c_brd_th, c_brd_gI, c_brd_gJ, c_brd_pI, c_brd_pJ, c_nums_a, c_nums_t, c_bytes_a, c_bytes_t, c_lov_a, c_lov_t, c_parr_a, c_parr_t, c_plps_a, c_plps_t, c_mkd_a, c_sav_a, c_sav_t, c_wut_a, c_wut_t, c_wut_a0, c_wut_t0, c_fits_a, c_fits_t, c_wsum_a, c_wsum_t, c_wsum_a0, c_wsum_t0, c_ckp_a, c_ckp_t, c_ckr_a, c_ckr_t, c_cas_a, c_cas_t, c_cmb_a, c_cmb_t, c_clb_a, c_clb_t, c_clb_a0, c_clb_t0, c_glv_a, c_glv_t, c_clv_a, c_clv_t, c_clv_a0, c_clv_t0, c_clv_a1, c_clv_t1, c_clv_a2, c_clv_t2, c_clv_a3, c_clv_t3, c_clv_a4, c_clv_t4, bd_bd, bd_rt, bd_ite, ap_ite, ap_rt, ite_some, nI_add, nI_1, R_sI, R_sJ, hM, fi_P hI hD]
set_option maxHeartbeats 200000 in
theorem k_isThing (h : Cur μ f c w P T) (x : Int32) : fn_C_isThing (some (1, 0, 0)) x μ = some (w_at x T, μ) := by
  obtain ⟨hC, hM, hP, hI, hD⟩ := h
  unfold fn_C_isThing w_at
  simp (disch := first | exact hC | exact hP | exact hR | ((repeat first | apply ClsP_sI | apply ClsP_sJ | apply ClsP_rI | apply ClsP_rJ | apply ClsP_rY); exact hC) | ((repeat first | apply FamP_sI | apply FamP_sJ | apply FamP_rI | apply FamP_rJ | apply FamP_rY); exact hP) | ((repeat first | apply RefP_sI | apply RefP_sJ | apply RefP_rI | apply RefP_rJ | apply RefP_rY); exact hR) | ((repeat first | apply PlanP_sI | apply PlanP_sJ | apply PlanP_rI | apply PlanP_rJ | apply PlanP_rY); exact hL) | omega) only [c_main_r3, c_main_r4, c_main_r8, c_main_r10, c_main_r11, c_main_r12, c_main_r13, c_main_r14, c_text_r0, c_ahd_r1, c_ahd_r2, c_ahd_r3, c_sig_r0, c_sig_r1, c_kee_r0, c_kee_r1, c_kee_r2, c_kee_r3, c_kee_r5, c_gam_r1, c_gam_r2, c_trays_r, c_tray_r2, c_brds_r, c_brds_r0, c_brds_r1, c_fam_r7, c_fam_r8, c_pers_r, c_per_r4, c_itm_r, c_plan_r2, c_plan_r3, c_plan_r4, c_plan_r5, c_plan_r6, c_plan_r11, c_plan_r12, c_main_R5, c_main_R6, c_main_R7, c_fam_R9, c_main_th, c_main_gI, c_main_gJ, c_main_pI, c_main_pJ, c_main_pR, c_main_pZ, c_tray_th, c_tray_gI, c_tray_pI, c_tray_pR, c_text_th, c_text_gI, c_text_gJ, c_text_pI, c_text_pJ, c_text_pR, c_fam_th, c_fam_gI, c_fam_pI, c_fam_pR, c_per_th, c_per_gI, c_per_gJ, c_per_pI, c_per_pJ, c_per_pR, c_per_pZ, c_thi_th, c_thi_gI, c_thi_gJ, c_thi_pI, c_thi_pJ, c_plan_th, c_plan_gI, c_plan_pI, c_plan_pR, c_plan_pZ, c_ahd_th, c_ahd_gI, c_ahd_pI, c_ahd_pR, c_then_th, c_then_gI, c_then_gJ, c_then_pI, c_then_pJ, c_sig_th, c_sig_gI, c_sig_pI, c_sig_pR, c_kee_th, c_kee_gI, c_kee_pI, c_kee_pR, c_gam_th, c_gam_gI, c_gam_pI, c_gam_pR, c_brd_th, c_brd_gI, c_brd_gJ, c_brd_pI, c_brd_pJ, c_nums_a, c_nums_t, c_bytes_a, c_bytes_t, c_lov_a, c_lov_t, c_parr_a, c_parr_t, c_plps_a, c_plps_t, c_mkd_a, c_sav_a, c_sav_t, c_wut_a, c_wut_t, c_wut_a0, c_wut_t0, c_fits_a, c_fits_t, c_wsum_a, c_wsum_t, c_wsum_a0, c_wsum_t0, c_ckp_a, c_ckp_t, c_ckr_a, c_ckr_t, c_cas_a, c_cas_t, c_cmb_a, c_cmb_t, c_clb_a, c_clb_t, c_clb_a0, c_clb_t0, c_glv_a, c_glv_t, c_clv_a, c_clv_t, c_clv_a0, c_clv_t0, c_clv_a1, c_clv_t1, c_clv_a2, c_clv_t2, c_clv_a3, c_clv_t3, c_clv_a4, c_clv_t4, bd_bd, bd_rt, bd_ite, ap_ite, ap_rt, ite_some, nI_add, nI_1, R_sI, R_sJ, hM, fi_T hI hD]
set_option maxHeartbeats 200000 in
theorem k_pairStatus (h : Cur μ f c w P T) (x y : Int32) : fn_C_pairStatus (some (1, 0, 0)) x y μ = some (if w_at x P = 0 then 2 else if w_at y T = 0 then 2 else 0, μ) := by
  have hC := h.1
  unfold fn_C_pairStatus
  simp (disch := first | exact hC | omega) only [c_main_thb, c_tray_thb, c_text_thb, c_fam_thb, c_per_thb, c_thi_thb, c_plan_thb, c_ahd_thb, c_then_thb, c_sig_thb, c_kee_thb, c_gam_thb, c_brd_thb, c_main_r3, c_main_r4, c_main_r8, c_main_r10, c_main_r11, c_main_r12, c_main_r13, c_main_r14, c_text_r0, c_ahd_r1, c_ahd_r2, c_ahd_r3, c_sig_r0, c_sig_r1, c_kee_r0, c_kee_r1, c_kee_r2, c_kee_r3, c_kee_r5, c_gam_r1, c_gam_r2, c_trays_r, c_tray_r2, c_brds_r, c_brds_r0, c_brds_r1, c_fam_r7, c_fam_r8, c_pers_r, c_per_r4, c_itm_r, c_plan_r2, c_plan_r3, c_plan_r4, c_plan_r5, c_plan_r6, c_plan_r11, c_plan_r12, c_main_R5, c_main_R6, c_main_R7, c_fam_R9, c_main_th, c_main_gI, c_main_gJ, c_main_pI, c_main_pJ, c_main_pR, c_main_pZ, c_tray_th, c_tray_gI, c_tray_pI, c_tray_pR, c_text_th, c_text_gI, c_text_gJ, c_text_pI, c_text_pJ, c_text_pR, c_fam_th, c_fam_gI, c_fam_pI, c_fam_pR, c_per_th, c_per_gI, c_per_gJ, c_per_pI, c_per_pJ, c_per_pR, c_per_pZ, c_thi_th, c_thi_gI, c_thi_gJ, c_thi_pI, c_thi_pJ, c_plan_th, c_plan_gI, c_plan_pI, c_plan_pR, c_plan_pZ, c_ahd_th, c_ahd_gI, c_ahd_pI, c_ahd_pR, c_then_th, c_then_gI, c_then_gJ, c_then_pI, c_then_pJ, c_sig_th, c_sig_gI, c_sig_pI, c_sig_pR, c_kee_th, c_kee_gI, c_kee_pI, c_kee_pR, c_gam_th, c_gam_gI, c_gam_pI, c_gam_pR, c_brd_th, c_brd_gI, c_brd_gJ, c_brd_pI, c_brd_pJ, c_nums_a, c_nums_t, c_bytes_a, c_bytes_t, c_lov_a, c_lov_t, c_parr_a, c_parr_t, c_plps_a, c_plps_t, c_mkd_a, c_sav_a, c_sav_t, c_wut_a, c_wut_t, c_wut_a0, c_wut_t0, c_fits_a, c_fits_t, c_wsum_a, c_wsum_t, c_wsum_a0, c_wsum_t0, c_ckp_a, c_ckp_t, c_ckr_a, c_ckr_t, c_cas_a, c_cas_t, c_cmb_a, c_cmb_t, c_clb_a, c_clb_t, c_clb_a0, c_clb_t0, c_glv_a, c_glv_t, c_clv_a, c_clv_t, c_clv_a0, c_clv_t0, c_clv_a1, c_clv_t1, c_clv_a2, c_clv_t2, c_clv_a3, c_clv_t3, c_clv_a4, c_clv_t4, ↓reduceIte, ↓ap_ite, ↓bd_ite, bd_bd, bd_rt, ap_rt, ite_some, nI_add, nI_1, R_sI, R_sJ, nz_1, nz_2, nz_3, nz_4, nz_5, nz_6, nz_7, nz_8, nz_9, nz_10, nz_11, nz_12, nz_m1, z_eq, if_true, if_false, e_some, ite_self, bd_of (k_isPerson h x), bd_of (k_isThing h y)]
set_option maxHeartbeats 200000 in
theorem k_wholeStatus (h : Cur μ f c w P T) (x : Int32) : fn_C_wholeStatus (some (1, 0, 0)) x μ = some (if w_at x T = 0 then 2 else if i_thr c x.toNatClampNeg = 0 then 0 else 9, μ) := by
  obtain ⟨hC, hM, hP, hI, hD⟩ := id h
  unfold fn_C_wholeStatus
  rcases w_at_cases x (show T < 2 ^ 31 by have := hD.2.2.2; omega) with h0 | ⟨t, ht, rfl, h0⟩
  · simp (disch := first | exact hC | exact hP | exact hR | ((repeat first | apply ClsP_sI | apply ClsP_sJ | apply ClsP_rI | apply ClsP_rJ | apply ClsP_rY); exact hC) | ((repeat first | apply FamP_sI | apply FamP_sJ | apply FamP_rI | apply FamP_rJ | apply FamP_rY); exact hP) | ((repeat first | apply RefP_sI | apply RefP_sJ | apply RefP_rI | apply RefP_rJ | apply RefP_rY); exact hR) | ((repeat first | apply PlanP_sI | apply PlanP_sJ | apply PlanP_rI | apply PlanP_rJ | apply PlanP_rY); exact hL) | omega) only [c_main_thb, c_tray_thb, c_text_thb, c_fam_thb, c_per_thb, c_thi_thb, c_plan_thb, c_ahd_thb, c_then_thb, c_sig_thb, c_kee_thb, c_gam_thb, c_brd_thb, c_main_r3, c_main_r4, c_main_r8, c_main_r10, c_main_r11, c_main_r12, c_main_r13, c_main_r14, c_text_r0, c_ahd_r1, c_ahd_r2, c_ahd_r3, c_sig_r0, c_sig_r1, c_kee_r0, c_kee_r1, c_kee_r2, c_kee_r3, c_kee_r5, c_gam_r1, c_gam_r2, c_trays_r, c_tray_r2, c_brds_r, c_brds_r0, c_brds_r1, c_fam_r7, c_fam_r8, c_pers_r, c_per_r4, c_itm_r, c_plan_r2, c_plan_r3, c_plan_r4, c_plan_r5, c_plan_r6, c_plan_r11, c_plan_r12, c_main_R5, c_main_R6, c_main_R7, c_fam_R9, c_main_th, c_main_gI, c_main_gJ, c_main_pI, c_main_pJ, c_main_pR, c_main_pZ, c_tray_th, c_tray_gI, c_tray_pI, c_tray_pR, c_text_th, c_text_gI, c_text_gJ, c_text_pI, c_text_pJ, c_text_pR, c_fam_th, c_fam_gI, c_fam_pI, c_fam_pR, c_per_th, c_per_gI, c_per_gJ, c_per_pI, c_per_pJ, c_per_pR, c_per_pZ, c_thi_th, c_thi_gI, c_thi_gJ, c_thi_pI, c_thi_pJ, c_plan_th, c_plan_gI, c_plan_pI, c_plan_pR, c_plan_pZ, c_ahd_th, c_ahd_gI, c_ahd_pI, c_ahd_pR, c_then_th, c_then_gI, c_then_gJ, c_then_pI, c_then_pJ, c_sig_th, c_sig_gI, c_sig_pI, c_sig_pR, c_kee_th, c_kee_gI, c_kee_pI, c_kee_pR, c_gam_th, c_gam_gI, c_gam_pI, c_gam_pR, c_brd_th, c_brd_gI, c_brd_gJ, c_brd_pI, c_brd_pJ, c_nums_a, c_nums_t, c_bytes_a, c_bytes_t, c_lov_a, c_lov_t, c_parr_a, c_parr_t, c_plps_a, c_plps_t, c_mkd_a, c_sav_a, c_sav_t, c_wut_a, c_wut_t, c_wut_a0, c_wut_t0, c_fits_a, c_fits_t, c_wsum_a, c_wsum_t, c_wsum_a0, c_wsum_t0, c_ckp_a, c_ckp_t, c_ckr_a, c_ckr_t, c_cas_a, c_cas_t, c_cmb_a, c_cmb_t, c_clb_a, c_clb_t, c_clb_a0, c_clb_t0, c_glv_a, c_glv_t, c_clv_a, c_clv_t, c_clv_a0, c_clv_t0, c_clv_a1, c_clv_t1, c_clv_a2, c_clv_t2, c_clv_a3, c_clv_t3, c_clv_a4, c_clv_t4, ↓reduceIte, ↓ap_ite, ↓bd_ite, bd_bd, bd_rt, ap_rt, ite_some, nI_add, nI_1, R_sI, R_sJ, nz_1, nz_2, nz_3, nz_4, nz_5, nz_6, nz_7, nz_8, nz_9, nz_10, nz_11, nz_12, nz_m1, z_eq, if_true, if_false, e_some, ite_self, bd_of (k_isThing h x), h0]
  · have ht8 : t < 8 := by have := hD.2.2.2; omega
    simp (disch := first | exact hC | exact hP | exact hR | ((repeat first | apply ClsP_sI | apply ClsP_sJ | apply ClsP_rI | apply ClsP_rJ | apply ClsP_rY); exact hC) | ((repeat first | apply FamP_sI | apply FamP_sJ | apply FamP_rI | apply FamP_rJ | apply FamP_rY); exact hP) | ((repeat first | apply RefP_sI | apply RefP_sJ | apply RefP_rI | apply RefP_rJ | apply RefP_rY); exact hR) | ((repeat first | apply PlanP_sI | apply PlanP_sJ | apply PlanP_rI | apply PlanP_rJ | apply PlanP_rY); exact hL) | omega) only [c_main_thb, c_tray_thb, c_text_thb, c_fam_thb, c_per_thb, c_thi_thb, c_plan_thb, c_ahd_thb, c_then_thb, c_sig_thb, c_kee_thb, c_gam_thb, c_brd_thb, c_main_r3, c_main_r4, c_main_r8, c_main_r10, c_main_r11, c_main_r12, c_main_r13, c_main_r14, c_text_r0, c_ahd_r1, c_ahd_r2, c_ahd_r3, c_sig_r0, c_sig_r1, c_kee_r0, c_kee_r1, c_kee_r2, c_kee_r3, c_kee_r5, c_gam_r1, c_gam_r2, c_trays_r, c_tray_r2, c_brds_r, c_brds_r0, c_brds_r1, c_fam_r7, c_fam_r8, c_pers_r, c_per_r4, c_itm_r, c_plan_r2, c_plan_r3, c_plan_r4, c_plan_r5, c_plan_r6, c_plan_r11, c_plan_r12, c_main_R5, c_main_R6, c_main_R7, c_fam_R9, c_main_th, c_main_gI, c_main_gJ, c_main_pI, c_main_pJ, c_main_pR, c_main_pZ, c_tray_th, c_tray_gI, c_tray_pI, c_tray_pR, c_text_th, c_text_gI, c_text_gJ, c_text_pI, c_text_pJ, c_text_pR, c_fam_th, c_fam_gI, c_fam_pI, c_fam_pR, c_per_th, c_per_gI, c_per_gJ, c_per_pI, c_per_pJ, c_per_pR, c_per_pZ, c_thi_th, c_thi_gI, c_thi_gJ, c_thi_pI, c_thi_pJ, c_plan_th, c_plan_gI, c_plan_pI, c_plan_pR, c_plan_pZ, c_ahd_th, c_ahd_gI, c_ahd_pI, c_ahd_pR, c_then_th, c_then_gI, c_then_gJ, c_then_pI, c_then_pJ, c_sig_th, c_sig_gI, c_sig_pI, c_sig_pR, c_kee_th, c_kee_gI, c_kee_pI, c_kee_pR, c_gam_th, c_gam_gI, c_gam_pI, c_gam_pR, c_brd_th, c_brd_gI, c_brd_gJ, c_brd_pI, c_brd_pJ, c_nums_a, c_nums_t, c_bytes_a, c_bytes_t, c_lov_a, c_lov_t, c_parr_a, c_parr_t, c_plps_a, c_plps_t, c_mkd_a, c_sav_a, c_sav_t, c_wut_a, c_wut_t, c_wut_a0, c_wut_t0, c_fits_a, c_fits_t, c_wsum_a, c_wsum_t, c_wsum_a0, c_wsum_t0, c_ckp_a, c_ckp_t, c_ckr_a, c_ckr_t, c_cas_a, c_cas_t, c_cmb_a, c_cmb_t, c_clb_a, c_clb_t, c_clb_a0, c_clb_t0, c_glv_a, c_glv_t, c_clv_a, c_clv_t, c_clv_a0, c_clv_t0, c_clv_a1, c_clv_t1, c_clv_a2, c_clv_t2, c_clv_a3, c_clv_t3, c_clv_a4, c_clv_t4, ↓reduceIte, ↓ap_ite, ↓bd_ite, bd_bd, bd_rt, ap_rt, ite_some, nI_add, nI_1, R_sI, R_sJ, nz_1, nz_2, nz_3, nz_4, nz_5, nz_6, nz_7, nz_8, nz_9, nz_10, nz_11, nz_12, nz_m1, z_eq, if_true, if_false, e_some, ite_self, bd_of (k_isThing h (nI t)), h0, hM, bd_of (k_thrT hP hI hD ht), nI_clamp]
end KQ
/-- the same for a call that changes the family: c', w' behind it -/
def QCm (fa pa : Nat → Nat) (μ : mM) (c' : Nat → Int32) (w' : Nat → Int64) (P' T' : Nat) (st : Int32) {α : Type} (a : α) : α → mM → Prop := fun b μ1 => b = a ∧ m_I μ1 (1, 0, 0) 0 = st ∧ FamI μ1 (fa 0) c' w' P' T' ∧ sm (fun x y z k => KC fa pa x y z k ∨ ((x = 7 ∨ x = 9 ∨ x = 10 ∨ x = 12) ∧ y = fa 0)) μ μ1
def QRm (ν : mM) (c' : Nat → Int32) (w' : Nat → Int64) (st : Int32) {α : Type} (a : α) : α → mM → Prop := fun b μ2 => a = b ∧ m_I μ2 (40, 0, 0) 0 = st ∧ (∀ k, k < 105 → m_I μ2 (45, 0, 0) k = c' k) ∧ (∀ k, k < 14 → m_J μ2 (48, 0, 0) k = w' k) ∧ sm (fun x y z k => KR x y z k ∨ (x = 45 ∧ k < 105) ∨ (x = 48 ∧ k < 14)) ν μ2
set_option maxHeartbeats 200000 in
theorem call_m {α : Type} {x y : mP α} {B : mP α} {μ : mM} {made n P T : Nat} {fa pa : Nat → Nat} (h : Inv μ made n fa pa P T) (hB : ∀ μ, RefP μ → y μ = B (zz μ)) (st : Int32) (a : α) (c' : Nat → Int32) (w' : Nat → Int64) {P' T' : Nat} (hP' : P ≤ P') (hT' : T ≤ T') (hD' : Dim c' P' T') (hO' : Okc c' P' T') (C : m_e (x μ) (QCm fa pa μ c' w' P' T' st a)) (R : ∀ ν, RefP ν → (∀ x, 41 ≤ x → m_I ν (x, 0, 0) = m_I μ (x, 0, 0) ∧ m_J ν (x, 0, 0) = m_J μ (x, 0, 0)) → (m_I ν (40, 0, 0) 0 = 0 ∧ ∀ k, 2 ≤ k → m_I ν (40, 0, 0) k = m_I μ (40, 0, 0) k) → m_e (B ν) (QRm ν c' w' st a)) : Jn x y μ := by
  obtain ⟨f1, f2, f3, f4, f5, f6⟩ := ptr_facts h.1.1
  refine e_mono C ?_
  rintro b μ1 ⟨rfl, h1, hF, h2⟩
  have hR1 : RefP μ1 := sm_R h2 (Inv_ref h)
  rw [hB μ1 hR1]
  have hz : sm (fun x _ _ k => x = 40 ∧ k < 2) μ1 (zz μ1) := sm_sI (sm_sI sm_rf _ (by omega)) _ (by omega)
  refine e_mono (R (zz μ1) hR1 (fun x hx => ?_) ⟨zz_0, fun k hk => ?_⟩) ?_
  · rw [sm_Ir hz (by omega), sm_Jr hz (by omega), sm_Ir h2 (by unfold KC; omega), sm_Jr h2 (by unfold KC; omega)]
    exact ⟨rfl, rfl⟩
  · rw [sm_I hz (by omega), sm_I h2 (by unfold KC; omega)]
  · rintro b' μ2 ⟨rfl, h3, hc, hw, h4⟩
    refine ⟨rfl, _, _, _, _, _, _, Inv_m h hP' hT' (sm_tr (sm_tr (sm_mono h2 ?_) (sm_mono hz ?_)) (sm_mono h4 ?_)) ?_ ⟨?_, Dim_c hc hD', Okc_c hD'.2.2.1 hD'.2.2.2 hc hO'⟩⟩
    · intro x y z k q
      rcases q with q | q
      · rcases KC_Scr q with q | q | q
        · exact .inl q
        · exact .inr (.inl q)
        · exact .inr (.inr (.inl q))
      · exact .inr (.inr (.inr (.inl q)))
    · intro x y z k q
      rcases KZ_Scr q with q | q | q
      · exact .inl q
      · exact .inr (.inl q)
      · exact .inr (.inr (.inl q))
    · intro x y z k q
      rcases q with q | q | q
      · rcases KR_Scr q with q | q | q
        · exact .inl q
        · exact .inr (.inl q)
        · exact .inr (.inr (.inl q))
      · exact .inr (.inr (.inr (.inr (.inl q))))
      · exact .inr (.inr (.inr (.inr (.inr q))))
    · show m_I μ2 (1, 0, 0) 0 = m_I μ2 (40, 0, 0) 0
      rw [h3, sm_I h4 (by unfold KR; omega), zz_I rfl, h1]
    · exact FamI_c (FamI_sm (FamI_sm hF hz (by omega)) h4 (by unfold KR; omega)) hD'.2.2.1 hD'.2.2.2 hc hw
set_option maxHeartbeats 200000 in
theorem Okc_coa {c : Nat → Int32} {P T : Nat} {v : Int32} (h : Okc c P T) (hP : P ≤ 6) (hT : T ≤ 8) {t : Nat} (ht : t < T) (hv : bn v 999) : Okc (ud c (33 + t) v) P T := by
  obtain ⟨h1, h2, h3⟩ := h
  refine ⟨?_, fun p hp => ⟨?_, fun t' ht' => ?_⟩, fun t' ht' => ?_⟩
  · simp (disch := omega) only [ud_ne]
    exact h1
  · simp (disch := omega) only [ud_ne]
    exact (h2 p hp).1
  · simp (disch := omega) only [ud_ne]
    exact (h2 p hp).2 t' ht'
  · have := h3 t' ht'
    by_cases hq : t' = t
    · subst hq
      simp (disch := omega) only [ud_ne, ud_at]
      exact ⟨this.1, hv, this.2.2.1, this.2.2.2⟩
    · simp (disch := omega) only [ud_ne]
      exact this
set_option maxHeartbeats 200000 in
theorem Okc_rus {c : Nat → Int32} {P T : Nat} {v : Int32} (h : Okc c P T) (hP : P ≤ 6) (hT : T ≤ 8) {t : Nat} (ht : t < T) (hv : bn v 999) : Okc (ud c (41 + t) v) P T := by
  obtain ⟨h1, h2, h3⟩ := h
  refine ⟨?_, fun p hp => ⟨?_, fun t' ht' => ?_⟩, fun t' ht' => ?_⟩
  · simp (disch := omega) only [ud_ne]
    exact h1
  · simp (disch := omega) only [ud_ne]
    exact (h2 p hp).1
  · simp (disch := omega) only [ud_ne]
    exact (h2 p hp).2 t' ht'
  · have := h3 t' ht'
    by_cases hq : t' = t
    · subst hq
      simp (disch := omega) only [ud_ne, ud_at]
      exact ⟨this.1, this.2.1, hv, this.2.2.2⟩
    · simp (disch := omega) only [ud_ne]
      exact this
set_option maxHeartbeats 200000 in
theorem Okc_oil {c : Nat → Int32} {P T : Nat} {v : Int32} (h : Okc c P T) (hP : P ≤ 6) (hT : T ≤ 8) {t : Nat} (ht : t < T) (hv : bn v 3) : Okc (ud c (49 + t) v) P T := by
  obtain ⟨h1, h2, h3⟩ := h
  refine ⟨?_, fun p hp => ⟨?_, fun t' ht' => ?_⟩, fun t' ht' => ?_⟩
  · simp (disch := omega) only [ud_ne]
    exact h1
  · simp (disch := omega) only [ud_ne]
    exact (h2 p hp).1
  · simp (disch := omega) only [ud_ne]
    exact (h2 p hp).2 t' ht'
  · have := h3 t' ht'
    by_cases hq : t' = t
    · subst hq
      simp (disch := omega) only [ud_ne, ud_at]
      exact ⟨this.1, this.2.1, this.2.2.1, hv⟩
    · simp (disch := omega) only [ud_ne]
      exact this
set_option maxHeartbeats 200000 in
theorem Okc_lov {c : Nat → Int32} {P T : Nat} {v : Int32} (h : Okc c P T) (hP : P ≤ 6) (hT : T ≤ 8) {p t : Nat} (hp : p < P) (ht : t < T) (hv : bn v 9) : Okc (ud c (57 + 8 * p + t) v) P T := by
  obtain ⟨h1, h2, h3⟩ := h
  refine ⟨?_, fun p' hp' => ⟨?_, fun t' ht' => ?_⟩, fun t' ht' => ?_⟩
  · simp (disch := omega) only [ud_ne]
    exact h1
  · simp (disch := omega) only [ud_ne]
    exact (h2 p' hp').1
  · by_cases hq : p' = p ∧ t' = t
    · obtain ⟨rfl, rfl⟩ := hq
      rw [ud_at]
      exact ⟨hv, fun _ => by omega⟩
    · rw [ud_ne (by omega)]
      exact (h2 p' hp').2 t' ht'
  · simp (disch := omega) only [ud_ne]
    exact h3 t' ht'
set_option maxHeartbeats 200000 in
theorem Okc_f2 {c : Nat → Int32} {P T : Nat} {v : Int32} (h : Okc c P T) (hP : P ≤ 6) (hT : T ≤ 8) (hv : bn v 99) : Okc (ud c 2 v) P T := by
  obtain ⟨⟨a0, a1, a2, a3, a4⟩, h2, h3⟩ := h
  refine ⟨?_, fun p hp => ⟨?_, fun t' ht' => ?_⟩, fun t' ht' => ?_⟩
  · simp (disch := omega) only [ud_ne, ud_at]
    exact ⟨hv, a1, a2, a3, a4⟩
  · simp (disch := omega) only [ud_ne]
    exact (h2 p hp).1
  · simp (disch := omega) only [ud_ne]
    exact (h2 p hp).2 t' ht'
  · simp (disch := omega) only [ud_ne]
    exact h3 t' ht'
set_option maxHeartbeats 200000 in
theorem Okc_f3 {c : Nat → Int32} {P T : Nat} {v : Int32} (h : Okc c P T) (hP : P ≤ 6) (hT : T ≤ 8) (hv : ∃ n, 1 ≤ n ∧ n ≤ 120 ∧ v = nI n) : Okc (ud c 3 v) P T := by
  obtain ⟨⟨a0, a1, a2, a3, a4⟩, h2, h3⟩ := h
  refine ⟨?_, fun p hp => ⟨?_, fun t' ht' => ?_⟩, fun t' ht' => ?_⟩
  · simp (disch := omega) only [ud_ne, ud_at]
    exact ⟨a0, hv, a2, a3, a4⟩
  · simp (disch := omega) only [ud_ne]
    exact (h2 p hp).1
  · simp (disch := omega) only [ud_ne]
    exact (h2 p hp).2 t' ht'
  · simp (disch := omega) only [ud_ne]
    exact h3 t' ht'
set_option maxHeartbeats 200000 in
theorem Okc_f4 {c : Nat → Int32} {P T : Nat} {v : Int32} (h : Okc c P T) (hP : P ≤ 6) (hT : T ≤ 8) (hv : bn v 9) : Okc (ud c 4 v) P T := by
  obtain ⟨⟨a0, a1, a2, a3, a4⟩, h2, h3⟩ := h
  refine ⟨?_, fun p hp => ⟨?_, fun t' ht' => ?_⟩, fun t' ht' => ?_⟩
  · simp (disch := omega) only [ud_ne, ud_at]
    exact ⟨a0, a1, hv, a3, a4⟩
  · simp (disch := omega) only [ud_ne]
    exact (h2 p hp).1
  · simp (disch := omega) only [ud_ne]
    exact (h2 p hp).2 t' ht'
  · simp (disch := omega) only [ud_ne]
    exact h3 t' ht'
set_option maxHeartbeats 200000 in
theorem Okc_f5 {c : Nat → Int32} {P T : Nat} {v : Int32} (h : Okc c P T) (hP : P ≤ 6) (hT : T ≤ 8) (hv : bn v 99) : Okc (ud c 5 v) P T := by
  obtain ⟨⟨a0, a1, a2, a3, a4⟩, h2, h3⟩ := h
  refine ⟨?_, fun p hp => ⟨?_, fun t' ht' => ?_⟩, fun t' ht' => ?_⟩
  · simp (disch := omega) only [ud_ne, ud_at]
    exact ⟨a0, a1, a2, hv, a4⟩
  · simp (disch := omega) only [ud_ne]
    exact (h2 p hp).1
  · simp (disch := omega) only [ud_ne]
    exact (h2 p hp).2 t' ht'
  · simp (disch := omega) only [ud_ne]
    exact h3 t' ht'
set_option maxHeartbeats 200000 in
theorem Okc_f6 {c : Nat → Int32} {P T : Nat} {v : Int32} (h : Okc c P T) (hP : P ≤ 6) (hT : T ≤ 8) (hv : bn v 9999) : Okc (ud c 6 v) P T := by
  obtain ⟨⟨a0, a1, a2, a3, a4⟩, h2, h3⟩ := h
  refine ⟨?_, fun p hp => ⟨?_, fun t' ht' => ?_⟩, fun t' ht' => ?_⟩
  · simp (disch := omega) only [ud_ne, ud_at]
    exact ⟨a0, a1, a2, a3, hv⟩
  · simp (disch := omega) only [ud_ne]
    exact (h2 p hp).1
  · simp (disch := omega) only [ud_ne]
    exact (h2 p hp).2 t' ht'
  · simp (disch := omega) only [ud_ne]
    exact h3 t' ht'
set_option maxHeartbeats 200000 in
theorem bn_half {x : Int32} (h : bn x 999) : bn (x / 2) 999 := by
  obtain ⟨n, hn, rfl⟩ := h
  rw [li 2, pk_div (by omega) (by omega) (by omega)]
  exact ⟨n / 2, by omega, rfl⟩
set_option maxHeartbeats 200000 in
theorem Dim_ud {c : Nat → Int32} {P T k : Nat} {v : Int32} (h : Dim c P T) (hk : 2 ≤ k) : Dim (ud c k v) P T := ⟨by rw [ud_ne (by omega), h.1], by rw [ud_ne (by omega), h.2.1], h.2.2⟩
set_option maxHeartbeats 200000 in
theorem bn_min {x : Int32} {a b : Nat} (ha : bn x a) (hab : a + b ≤ 2000) {y : Int32} (hb : bn y b) : bn (iMin 999 (x + y)) 999 := by
  obtain ⟨n, hn, rfl⟩ := ha
  obtain ⟨m, hm, rfl⟩ := hb
  rw [nI_add, li 999]
  unfold iMin
  split
  · rename_i hq
    rw [nI_ltI (by omega) (by omega)] at hq
    exact ⟨n + m, by omega, rfl⟩
  · exact ⟨999, by omega, rfl⟩

set_option maxHeartbeats 200000 in
theorem r_in_0_99 {α : Type} {μ : mM} (x : Int32) (K : Int32 → mP α) : m_bd (fn_M_isIn x.toInt64 0 99) K μ = K (w_in x 0 99) μ := bd_isIn x 0 99 K
set_option maxHeartbeats 200000 in
theorem r_in_1_120 {α : Type} {μ : mM} (x : Int32) (K : Int32 → mP α) : m_bd (fn_M_isIn x.toInt64 1 120) K μ = K (w_in x 1 120) μ := bd_isIn x 1 120 K
set_option maxHeartbeats 200000 in
theorem r_in_0_9 {α : Type} {μ : mM} (x : Int32) (K : Int32 → mP α) : m_bd (fn_M_isIn x.toInt64 0 9) K μ = K (w_in x 0 9) μ := bd_isIn x 0 9 K
section QM
variable {fa pa : Nat → Nat} {μ ν : mM} {c : Nat → Int32} {w : Nat → Int64} {P T x z k n : Nat} {v : Int32} {α : Type}
set_option maxHeartbeats 200000 in
theorem QCm_1 (hI : FamI μ (fa 0) c w P T) (hP : P ≤ 6) (hT : T ≤ 8) (hv : vis P T x z k n) (a : α) : QCm fa pa μ (ud c n v) w P T 0 a a (m_sI (m_sI μ (1, 0, 0) 0 0) (x, fa 0, z) k v) := by
  have hx : ¬ 1 = x := by unfold vis at hv; omega
  refine ⟨rfl, ?_, FamI_upd (FamI_sm hI (K := fun x _ _ _ => x = 1) (sm_sI sm_rf _ rfl) (by omega)) hP hT hv, sm_sI (sm_sI sm_rf _ (.inl (.inl ⟨rfl, rfl⟩))) _ (.inr ⟨by unfold vis at hv; omega, rfl⟩)⟩
  rw [I_sI, if_neg, I_row, ud_at]
  rintro ⟨q, -⟩
  exact hx (congrArg Prod.fst q)
set_option maxHeartbeats 200000 in
theorem QRm_1 (e : m_I ν (45, 0, 0) = c) (e' : m_J ν (48, 0, 0) = w) (ez : m_I ν (40, 0, 0) 0 = 0) (hn : n < 105) (a : α) : QRm ν (ud c n v) w 0 a a (m_sI ν (45, 0, 0) n v) := by
  refine ⟨rfl, by rw [I_ne _ rfl, ez], fun j _ => by rw [I_row, e], fun j _ => ?_, sm_sI sm_rf _ (.inr (.inl ⟨rfl, hn⟩))⟩
  rw [← e']
  rfl
end QM
