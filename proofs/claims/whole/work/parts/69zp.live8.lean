/-! Part 69zp: live -/
section LC
variable {μ : mM} {made n P T : Nat} {fa pa : Nat → Nat}
def KLC (fa pa : Nat → Nat) (x y z k : Nat) : Prop := KC fa pa x y z k ∨ (x = 1 ∧ k = 15) ∨ x = 32 ∨ ((x = 7 ∨ x = 9 ∨ x = 10 ∨ x = 12) ∧ y = fa 0)
def KLR (x y z k : Nat) : Prop := KR x y z k ∨ x = 45 ∨ x = 58 ∨ (x = 40 ∧ k = 43)
set_option maxHeartbeats 200000 in
/-- the class lives its years and tells -/
theorem k_live (h : Inv μ made n fa pa P T) (hp0 : ¬ m_I μ (13, pa 1, 0) 0 = 0) {seed : Nat} (hs : seed ≤ 9999) (hw : w_in (nI seed) 0 9999 = 1) {S : Nat} {e : Nat → Nat} (hp : ProgC μ (pa 1) S e (fun s j => cR μ (107 + 9 * s + j)) P T) : m_e (fn_C_live (some (1, 0, 0)) (nI seed) μ) (fun v μ1 => ∃ W r left, runL P T S e (fun s j => cR μ (107 + 9 * s + j)) 300 0 [] (cR μ, nI seed, 0) = (W, r, left) ∧ v = nI (300 - r) ∧ FamI μ1 (fa 0) W.1 (wR μ) P T ∧ m_I μ1 (1, 0, 0) 0 = 0 ∧ m_I μ1 (1, 0, 0) 15 = 1 ∧ m_I μ1 (32, 0, 0) 0 = W.2.2 ∧ m_I μ1 (32, 0, 0) 1 = W.1 6 - cR μ 6 ∧ m_I μ1 (32, 0, 0) 2 = nI (nTh W.1 T - nTh (cR μ) T) ∧ m_I μ1 (32, 0, 0) 3 = nI (nLi (cR μ) P - nLi W.1 P) ∧ m_I μ1 (32, 0, 0) 4 = (if left = true then 1 else 0) ∧ sm (KLC fa pa) μ μ1) := by
  obtain ⟨hC, hM, hP, hI, hD⟩ := Inv_cur h
  have hO := Inv_ok h
  obtain ⟨-, -, hm3, -, hfs, -⟩ := h.1.1
  obtain ⟨-, -, e9, hL⟩ := hfs 0 (by omega)
  obtain ⟨hP0, hT0, hP6, hT8⟩ := id hD
  generalize cR μ = c at *
  generalize wR μ = w at *
  generalize hf : fa 0 = f at *
  generalize hg : pa (0 + 1) = g at *
  unfold fn_C_live
  rw [c_main_th hC, bd_within, hw, bd_ite, if_neg (by decide), bd_bd, bd_gR' (o_main hC) hM, bd_bd, bd_gR' (o_fam hP) e9, bd_bd, c_plan_gI hL, bd_ite, if_neg hp0, bd_rt, c_main_pI hC]
  have s1 : sm (fun x _ _ k => x = 1 ∧ k = 0) μ (m_sI μ (1, 0, 0) 0 0) := sm_sI sm_rf _ ⟨rfl, rfl⟩
  have e0 : m_I (m_sI μ (1, 0, 0) 0 0) (1, 0, 0) 0 = 0 := by rw [I_row, ud_at]
  have s1' : sm (fun x y _ k => (x = 1 ∧ (k = 0 ∨ k = 15)) ∨ x = 32 ∨ (((x = 7 ∧ k < 7) ∨ x = 9 ∨ x = 10 ∨ x = 12) ∧ y = f) ∨ (y = g ∧ ((x = 13 ∧ 7 ≤ k) ∨ x = 15))) μ (m_sI μ (1, 0, 0) 0 0) := sm_mono s1 (by omega)
  have hp1 := ProgC_sm hp s1 (by omega) (by omega)
  have hI1 := FamI_sm hI s1 (by omega)
  generalize m_sI μ (1, 0, 0) 0 0 = μ1 at *
  have hC1 := sm_C s1 hC
  have hP1 := sm_F s1 hP
  have hL1 := sm_P s1 hL
  have hM1 : m_R μ1 (1, 0, 0) 5 = some (7, f, 0) := by rw [s1.2.1]; exact hM
  have e91 : m_R μ1 (7, f, 0) 9 = some (13, g, 0) := by rw [s1.2.1]; exact e9
  rw [c_main_gI hC1, e0, ap_ite, if_pos rfl, bd_gR' (o_main hC1) hM1, bd_of (k_throughSet hP1 hI1 hD), bd_gR' (o_main hC1) hM1, bd_of (k_livingSet hP1 hI1 hD), bd_gR' (o_main hC1) hM1, c_fam_gI hP1, fi_6 hI1, bd_gR' (o_main hC1) hM1, bd_gR' (o_fam hP1) e91, bd_gR' (o_main hC1) hM1]
  refine e_bd (k_run hL1 hP1 hp1 hI1 hO hD (show seed ≤ 65535 by omega)) ?_
  rintro - μ2 ⟨W, r, left, a, g1, g2, g3, g4, g5, g6, g7, g8, g9, g10, g11, g12⟩
  have hC2 := sm_C g12 hC1
  have hP2 := sm_F g12 hP1
  have hL2 := sm_P g12 hL1
  have hM2 : m_R μ2 (1, 0, 0) 5 = some (7, f, 0) := by rw [g12.2.1]; exact hM1
  have e92 : m_R μ2 (7, f, 0) 9 = some (13, g, 0) := by rw [g12.2.1]; exact e91
  have e02 : m_I μ2 (1, 0, 0) 0 = 0 := by rw [sm_I g12 (by omega)]; exact e0
  have eS2 : m_I μ2 (13, g, 0) 1 = nI S := by rw [sm_I g12 (by omega)]; exact hp1.1
  have s2 : sm (fun x y _ k => (x = 1 ∧ (k = 0 ∨ k = 15)) ∨ x = 32 ∨ (((x = 7 ∧ k < 7) ∨ x = 9 ∨ x = 10 ∨ x = 12) ∧ y = f) ∨ (y = g ∧ ((x = 13 ∧ 7 ≤ k) ∨ x = 15))) μ μ2 := sm_tr s1' (sm_mono g12 (by omega))
  have hD2 := g3.2.1
  have q1 : sm (fun x y _ k => x = 32) μ2 (m_sI μ2 (32, 0, 0) 0 W.2.2) := sm_sI sm_rf _ rfl
  have q2 := sm_sI (x := 32) (y := 0) (z := 0) (k := 1) q1 (W.1 6 - c 6) rfl
  have q3 := sm_sI (x := 32) (y := 0) (z := 0) (k := 2) q2 (nI (nTh W.1 T - nTh c T)) rfl
  have q4 := sm_sI (x := 32) (y := 0) (z := 0) (k := 3) q3 (nI (nLi c P - nLi W.1 P)) rfl
  have q5 := sm_sI (x := 32) (y := 0) (z := 0) (k := 4) q4 (if left = true then 1 else 0) rfl
  have hW : ∀ μ', sm (fun x y _ k => x = 32) μ2 μ' → ClsP μ' ∧ m_R μ' (1, 0, 0) 5 = some (7, f, 0) ∧ FamP μ' f ∧ FamI μ' f W.1 w P T ∧ m_R μ' (7, f, 0) 9 = some (13, g, 0) ∧ PlanP μ' g ∧ m_I μ' (13, g, 0) 7 = nI (300 - r) ∧ m_I μ' (13, g, 0) 10 = nI a ∧ m_I μ' (13, g, 0) 1 = nI S := fun μ' q => ⟨sm_C q hC2, by rw [q.2.1]; exact hM2, sm_F q hP2, FamI_sm g4 q (by omega), by rw [q.2.1]; exact e92, sm_P q hL2, by rw [sm_I q (by omega), g6], by rw [sm_I q (by omega), g8], by rw [sm_I q (by omega), eS2]⟩
  rw [c_main_r14 hC2, bd_gR' (o_main hC2) hM2, bd_gR' (o_fam hP2) e92, c_plan_gI hL2, g5, c_clv_t0 hC2]
  obtain ⟨a1, a2, a3, a4, a5, a6, a7, a8, a9⟩ := hW _ q1
  rw [c_main_r14 a1, bd_gR' (o_main a1) a2, c_fam_gI a3, fi_6 a4, c_clv_t1 a1]
  obtain ⟨a1, a2, a3, a4, a5, a6, a7, a8, a9⟩ := hW _ q2
  rw [c_main_r14 a1, bd_gR' (o_main a1) a2, bd_of (k_throughSet a3 a4 hD2), bd_of (bc_eq _ _), bc_thr hT8 g10, c_clv_t2 a1]
  obtain ⟨a1, a2, a3, a4, a5, a6, a7, a8, a9⟩ := hW _ q3
  rw [c_main_r14 a1, bd_gR' (o_main a1) a2, bd_of (k_livingSet a3 a4 hD2), bd_of (bc_eq _ _), bc_liv (by omega) g10, c_clv_t3 a1]
  obtain ⟨a1, a2, a3, a4, a5, a6, a7, a8, a9⟩ := hW _ q4
  have hleft : ∀ (K : Int32 → mP Int32) (μ' : mM), m_bd (α := Int32) (if (if left = true then (1 : Int32) else 0) = 0 then m_rt 0 else m_rt 1) K μ' = K (if left = true then 1 else 0) μ' := by
    cases left
    · exact fun K μ' => rfl
    · exact fun K μ' => rfl
  have hisl : fn_Pl_isLeft (some (13, g, 0)) (m_sI (m_sI (m_sI (m_sI μ2 (32, 0, 0) 0 W.2.2) (32, 0, 0) 1 (W.1 6 - c 6)) (32, 0, 0) 2 (nI (nTh W.1 T - nTh c T))) (32, 0, 0) 3 (nI (nLi c P - nLi W.1 P))) = some (if left = true then 1 else 0, m_sI (m_sI (m_sI (m_sI μ2 (32, 0, 0) 0 W.2.2) (32, 0, 0) 1 (W.1 6 - c 6)) (32, 0, 0) 2 (nI (nTh W.1 T - nTh c T))) (32, 0, 0) 3 (nI (nLi c P - nLi W.1 P))) := by
    have hS := hp.2.1
    unfold fn_Pl_isLeft
    rw [c_plan_th a6, c_plan_gI a6, a8, c_plan_gI a6, a9, ap_ite, g9]
    by_cases z : a < S
    · rw [if_neg (nI_ge z (by omega)), if_pos (decide_eq_true z)]
      rfl
    · rw [if_pos (nI_le (by omega) (by omega)), if_neg (show ¬ decide (a < S) = true from fun q => z (of_decide_eq_true q))]
      rfl
  rw [c_main_r14 a1, bd_gR' (o_main a1) a2, bd_gR' (o_fam a3) a5, bd_of hisl, hleft, c_clv_t4 a1]
  obtain ⟨a1, a2, a3, a4, a5, a6, a7, a8, a9⟩ := hW _ q5
  rw [c_main_pZ a1 (.inr rfl)]
  have q6 := sm_sI (x := 1) (y := 0) (z := 0) (k := 15) (sm_mono (K' := fun x y _ k => x = 32 ∨ (x = 1 ∧ k = 15)) q5 (by omega)) 1 (by omega)
  have b1 := sm_C q6 hC2
  have b2 : m_R (m_sI (m_sI (m_sI (m_sI (m_sI (m_sI μ2 (32, 0, 0) 0 W.2.2) (32, 0, 0) 1 (W.1 6 - c 6)) (32, 0, 0) 2 (nI (nTh W.1 T - nTh c T))) (32, 0, 0) 3 (nI (nLi c P - nLi W.1 P))) (32, 0, 0) 4 (if left = true then 1 else 0)) (1, 0, 0) 15 1) (1, 0, 0) 5 = some (7, f, 0) := hM2
  have b3 := sm_F q6 hP2
  have b4 : m_R (m_sI (m_sI (m_sI (m_sI (m_sI (m_sI μ2 (32, 0, 0) 0 W.2.2) (32, 0, 0) 1 (W.1 6 - c 6)) (32, 0, 0) 2 (nI (nTh W.1 T - nTh c T))) (32, 0, 0) 3 (nI (nLi c P - nLi W.1 P))) (32, 0, 0) 4 (if left = true then 1 else 0)) (1, 0, 0) 15 1) (7, f, 0) 9 = some (13, g, 0) := e92
  have b5 := sm_P q6 hL2
  rw [bd_gR' (o_main b1) b2, bd_gR' (o_fam b3) b4, c_plan_gI b5]
  refine ⟨_, _, rfl, W, r, left, g1, ?_, FamI_sm g4 q6 (by omega), ?_, ?_, ?_, ?_, ?_, ?_, ?_, ?_⟩
  · rw [sm_I q6 (by omega), g6]
  · rw [sm_I q6 (by omega), e02]
  · rw [I_row, ud_at]
  · rw [I_ne _ rfl, I_row, ud_ne (by decide), I_row, ud_ne (by decide), I_row, ud_ne (by decide), I_row, ud_ne (by decide), I_row, ud_at]
  · rw [I_ne _ rfl, I_row, ud_ne (by decide), I_row, ud_ne (by decide), I_row, ud_ne (by decide), I_row, ud_at]
  · rw [I_ne _ rfl, I_row, ud_ne (by decide), I_row, ud_ne (by decide), I_row, ud_at]
  · rw [I_ne _ rfl, I_row, ud_ne (by decide), I_row, ud_at]
  · rw [I_ne _ rfl, I_row, ud_at]
  · refine sm_mono (sm_tr s2 (sm_mono q6 (by omega))) ?_
    intro x y z k q
    rcases q with ⟨h1, h2 | h2⟩ | q | ⟨q, hy⟩ | ⟨-, ⟨q, hk⟩ | q⟩
    · exact .inl (.inl ⟨h1, h2⟩)
    · exact .inr (.inl ⟨h1, h2⟩)
    · exact .inr (.inr (.inl q))
    · exact .inr (.inr (.inr ⟨by omega, by rw [hf]; exact hy⟩))
    · exact .inl (.inr ⟨by omega, .inr (.inr (.inr (.inr (.inl ⟨q, by omega⟩))))⟩)
    · exact .inl (.inr ⟨by omega, .inr (.inr (.inl q))⟩)
set_option maxHeartbeats 200000 in
/-- the reference lives its years and tells -/
theorem r_live {ν : mM} (hR : RefP ν) {c : Nat → Int32} (hc : m_I ν (45, 0, 0) = c) (hD : Dim c P T) (hO : Okc c P T) {S : Nat} {e : Nat → Nat} (h105 : c 105 = 1) (h106 : c 106 = nI S) (hS : S ≤ 30) (hst : ∀ s, s < S → ∃ k p t m q, StepI k p t m q (fun j => c (107 + 9 * s + j)) s (e s) P T) (hwf : wf e (fun s => c (107 + 9 * s) = 7 ∨ c (107 + 9 * s) = 8) 31 3 0 S) {seed : Nat} (hs : seed ≤ 9999) (hw : w_in (nI seed) 0 9999 = 1) : m_e (fn_M_live (some (40, 0, 0)) (nI seed) ν) (fun v ν1 => ∃ W r left, runL P T S e (fun s j => c (107 + 9 * s + j)) 300 0 [] (c, nI seed, 0) = (W, r, left) ∧ v = nI (300 - r) ∧ m_I ν1 (45, 0, 0) = W.1 ∧ okW P T W ∧ (∀ j, 105 ≤ j → W.1 j = c j) ∧ m_I ν1 (40, 0, 0) 0 = 0 ∧ m_I ν1 (40, 0, 0) 43 = 1 ∧ m_I ν1 (58, 0, 0) 0 = W.2.2 ∧ m_I ν1 (58, 0, 0) 1 = W.1 6 - c 6 ∧ m_I ν1 (58, 0, 0) 2 = nI (nTh W.1 T - nTh c T) ∧ m_I ν1 (58, 0, 0) 3 = nI (nLi c P - nLi W.1 P) ∧ m_I ν1 (58, 0, 0) 4 = (if left = true then 1 else 0) ∧ sm KLR ν ν1) := by
  unfold fn_M_live
  rw [r_pre hR]
  have hz : sm (fun x _ _ k => x = 40 ∧ k < 2) ν (zz ν) := sm_sI (sm_sI sm_rf _ (by omega)) _ (by omega)
  have hz0 : m_I (zz ν) (40, 0, 0) 0 = 0 := zz_0
  have hcz : m_I (zz ν) (45, 0, 0) = c := by rw [sm_Ir hz (by omega), hc]
  generalize zz ν = ν1 at *
  have hR1 := sm_R hz hR
  rw [bd_in_0_9999, hw, ap_ite, if_neg (by decide), r_g45 hR1, r_l45_105 hR1, hcz, h105, ap_ite, if_neg (by decide)]
  refine e_bd (r_runs hR1 hcz hD hO h106 hS hst hwf (show seed ≤ 65535 by omega)) ?_
  rintro - ν2 ⟨W, r, left, g1, g2, g3, g4, g5, g6, g7, g8, g9, g10, g11⟩
  have hR2 := sm_R g11 hR1
  have q1 : sm (fun x y _ k => x = 58 ∨ (x = 40 ∧ k = 43)) ν2 (m_sI ν2 (58, 0, 0) 0 W.2.2) := sm_sI sm_rf _ (.inl rfl)
  have q2 := sm_sI (x := 58) (y := 0) (z := 0) (k := 1) q1 (W.1 6 - c 6) (.inl rfl)
  have q3 := sm_sI (x := 58) (y := 0) (z := 0) (k := 2) q2 (nI (nTh W.1 T - nTh c T)) (.inl rfl)
  have q4 := sm_sI (x := 58) (y := 0) (z := 0) (k := 3) q3 (nI (nLi c P - nLi W.1 P)) (.inl rfl)
  have q5 := sm_sI (x := 58) (y := 0) (z := 0) (k := 4) q4 (if left = true then 1 else 0) (.inl rfl)
  have q6 := sm_sI (x := 40) (y := 0) (z := 0) (k := 43) q5 1 (.inr ⟨rfl, rfl⟩)
  have t0 : ∀ {ν : mM} (hR : RefP ν) (v : Int32) (f : Unit → mP Int32), m_bd (m_tI 0 (some (58, 0, 0)) 0 v) f ν = f () (m_sI ν (58, 0, 0) 0 v) := fun hR v f => r_t58 (i := 0) hR (by decide) v f
  have t1 : ∀ {ν : mM} (hR : RefP ν) (v : Int32) (f : Unit → mP Int32), m_bd (m_tI 0 (some (58, 0, 0)) 1 v) f ν = f () (m_sI ν (58, 0, 0) 1 v) := fun hR v f => r_t58 (i := 1) hR (by decide) v f
  have t2 : ∀ {ν : mM} (hR : RefP ν) (v : Int32) (f : Unit → mP Int32), m_bd (m_tI 0 (some (58, 0, 0)) 2 v) f ν = f () (m_sI ν (58, 0, 0) 2 v) := fun hR v f => r_t58 (i := 2) hR (by decide) v f
  have t3 : ∀ {ν : mM} (hR : RefP ν) (v : Int32) (f : Unit → mP Int32), m_bd (m_tI 0 (some (58, 0, 0)) 3 v) f ν = f () (m_sI ν (58, 0, 0) 3 v) := fun hR v f => r_t58 (i := 3) hR (by decide) v f
  have t4 : ∀ {ν : mM} (hR : RefP ν) (v : Int32) (f : Unit → mP Int32), m_bd (m_tI 0 (some (58, 0, 0)) 4 v) f ν = f () (m_sI ν (58, 0, 0) 4 v) := fun hR v f => r_t58 (i := 4) hR (by decide) v f
  rw [r_g58 hR2, r_gI hR2, g4, t0 hR2, r_g58 (sm_R q1 hR2), r_gI (sm_R q1 hR2), I_ne _ rfl, g6.1, t1 (sm_R q1 hR2), r_g58 (sm_R q2 hR2), r_gI (sm_R q2 hR2), I_ne _ rfl, I_ne _ rfl, g6.2.1, t2 (sm_R q2 hR2), r_g58 (sm_R q3 hR2), r_gI (sm_R q3 hR2), I_ne _ rfl, I_ne _ rfl, I_ne _ rfl, g6.2.2, t3 (sm_R q3 hR2), r_g58 (sm_R q4 hR2), r_gI (sm_R q4 hR2), I_ne _ rfl, I_ne _ rfl, I_ne _ rfl, I_ne _ rfl, g7, t4 (sm_R q4 hR2), r_pZ (sm_R q5 hR2) (.inr rfl), r_gI (sm_R q6 hR2)]
  refine ⟨_, _, rfl, W, r, left, g1, ?_, ?_, g8, g10, ?_, ?_, ?_, ?_, ?_, ?_, ?_, ?_⟩
  · rw [sm_I q6 (by omega), g5]
  · rw [sm_Ir q6 (by omega), g3]
  · rw [sm_I q6 (by omega), sm_I g11 (by omega), hz0]
  · rw [I_row, ud_at]
  · rw [I_ne _ rfl, I_row, ud_ne (by decide), I_row, ud_ne (by decide), I_row, ud_ne (by decide), I_row, ud_ne (by decide), I_row, ud_at]
  · rw [I_ne _ rfl, I_row, ud_ne (by decide), I_row, ud_ne (by decide), I_row, ud_ne (by decide), I_row, ud_at]
  · rw [I_ne _ rfl, I_row, ud_ne (by decide), I_row, ud_ne (by decide), I_row, ud_at]
  · rw [I_ne _ rfl, I_row, ud_ne (by decide), I_row, ud_at]
  · rw [I_ne _ rfl, I_row, ud_at]
  · refine sm_tr (sm_tr (sm_mono hz ?_) (sm_mono g11 ?_)) (sm_mono q6 ?_)
    · intro x y z k q
      unfold KLR KR
      omega
    · intro x y z k q
      unfold KLR KR
      omega
    · intro x y z k q
      unfold KLR KR
      omega
set_option maxHeartbeats 200000 in
theorem call_live (h : Inv μ made n fa pa P T) (x : Int32) : Jn (fn_C_live (some (1, 0, 0)) x) (fn_M_live (some (40, 0, 0)) x) μ := by
  obtain ⟨hC, hM, hP, hI, hD⟩ := Inv_cur h
  obtain ⟨⟨hpq, hnm⟩, i2, i3, i4, i5, i6, i7, i8, i9, i10⟩ := id h
  obtain ⟨-, -, hm3, -, hfs, -⟩ := id hpq
  obtain ⟨-, -, e9, hL⟩ := hfs 0 (by omega)
  rcases w_in_cases (x := x) (A := 0) (B := 9999) (by omega) (by omega) with h1 | ⟨m, hm1, hm2, rfl, h1⟩
  · have h1' : w_in x 0 9999 = 0 := h1
    refine call_q h (fun μ hR => r_pre hR _) 5 (-1) ?_ (fun ν hR e ez => ?_)
    · unfold fn_C_live
      rw [c_main_th hC, bd_within, h1', bd_ite, if_pos rfl, bd_rt, c_main_pI hC, c_main_gI (show ClsP (m_sI μ (1, 0, 0) 0 5) from hC), I_row, ud_at, ap_ite, if_neg (by decide)]
      exact ⟨_, _, rfl, QC_st _ _⟩
    · rw [bd_in_0_9999, h1', ap_ite, if_pos rfl, bd_of (r_refuse hR 5)]
      exact ⟨_, _, rfl, QR_st _ _⟩
  · have h1' : w_in (nI m) 0 9999 = 1 := h1
    by_cases hp0 : m_I μ (13, pa 1, 0) 0 = 0
    · have h105 : cR μ 105 = 0 := by
        rcases i9 with ⟨-, q, -⟩ | ⟨q, -⟩
        · exact q
        · rw [hp0] at q
          exact absurd q (by decide)
      refine call_q h (fun μ hR => r_pre hR _) 8 (-1) ?_ (fun ν hR e ez => ?_)
      · unfold fn_C_live
        rw [c_main_th hC, bd_within, h1', bd_ite, if_neg (by decide), bd_bd, bd_gR' (o_main hC) hM, bd_bd, bd_gR' (o_fam hP) e9, bd_bd, c_plan_gI hL, show m_I μ (13, pa (0 + 1), 0) 0 = 0 from hp0, bd_ite, if_pos rfl, bd_rt, c_main_pI hC, c_main_gI (show ClsP (m_sI μ (1, 0, 0) 0 8) from hC), I_row, ud_at, ap_ite, if_neg (by decide)]
        exact ⟨_, _, rfl, QC_st _ _⟩
      · rw [bd_in_0_9999, h1', ap_ite, if_neg (by decide), r_g45 hR, r_l45_105 hR, (e 45 (by omega)).1, show m_I μ (45, 0, 0) 105 = 0 from h105, ap_ite, if_pos rfl, bd_of (r_refuse hR 8)]
        exact ⟨_, _, rfl, QR_st _ _⟩
    · obtain ⟨-, t105, S, e, t106, tp, twf⟩ := Plan_told i9 hp0
      refine e_mono (k_live h hp0 hm2 h1' tp) ?_
      rintro v μ1 ⟨W, r, left, g1, rfl, g3, g4, g5, g6, g7, g8, g9, g10, g11⟩
      have hR1 : RefP μ1 := sm_R g11 (Inv_ref h)
      have hc1 : m_I μ1 (45, 0, 0) = cR μ := sm_Ir g11 (by unfold KLC KC; omega)
      refine e_mono (r_live hR1 hc1 hD (Inv_ok h) t105 t106 tp.2.1 (fun s hs => ⟨_, _, _, _, _, tp.2.2.2 s hs⟩) twf hm2 h1') ?_
      rintro v' μ2 ⟨W', r', left', f1, rfl, f3, f4, f5, f6, f7, f8, f9, f10, f11, f12, f13⟩
      obtain ⟨rfl, rfl, rfl⟩ : W = W' ∧ r = r' ∧ left = left' := by
        have := g1.symm.trans f1
        simp only [Prod.mk.injEq] at this
        exact this
      refine ⟨rfl, made, n, fa, pa, P, T, Inv_l h (sm_tr (sm_mono g11 ?_) (sm_mono f13 ?_)) (fun k h1 h2 => ?_) ?_ ?_ ?_⟩
      · intro x y z k q
        rcases q with q | q | q | q
        · rcases KC_Scr q with q | q | q
          · exact .inl q
          · exact .inr (.inl ⟨q.1, .inl q.2⟩)
          · exact .inr (.inr (.inl ⟨q.1, .inl q.2⟩))
        · exact .inr (.inl ⟨q.1, .inr q.2⟩)
        · exact .inr (.inr (.inr (.inr (.inr (.inl q)))))
        · exact .inr (.inr (.inr (.inl q)))
      · intro x y z k q
        rcases q with q | q | q | q
        · rcases KR_Scr q with q | q | q
          · exact .inl q
          · exact .inr (.inl ⟨q.1, .inl q.2⟩)
          · exact .inr (.inr (.inl ⟨q.1, .inl q.2⟩))
        · exact .inr (.inr (.inr (.inr (.inl q))))
        · exact .inr (.inr (.inr (.inr (.inr (.inr q)))))
        · exact .inr (.inr (.inl ⟨q.1, .inr q.2⟩))
      · rw [f3, f5 k h1]
      · show m_I μ2 (1, 0, 0) 0 = m_I μ2 (40, 0, 0) 0
        rw [f6, sm_I f13 (by unfold KLR KR; omega), g4]
      · refine ⟨by rw [f7, sm_I f13 (by unfold KLR KR; omega), g5], .inr ⟨f7, fun k hk => ?_⟩⟩
        rw [sm_I f13 (by unfold KLR KR; omega)]
        obtain rfl | rfl | rfl | rfl | rfl : k = 0 ∨ k = 1 ∨ k = 2 ∨ k = 3 ∨ k = 4 := by omega
        · rw [g6, f8]
        · rw [g7, f9]
        · rw [g8, f10]
        · rw [g9, f11]
        · rw [g10, f12]
      · have hw2 : ∀ k, k < 14 → wR μ2 k = wR μ k := fun k hk => by
          show m_J μ2 (48, 0, 0) k = m_J μ (48, 0, 0) k
          rw [sm_J f13 (by unfold KLR KR; omega), sm_J g11 (by unfold KLC KC; omega)]
        show FamI μ2 (fa 0) (m_I μ2 (45, 0, 0)) (wR μ2) P T ∧ Dim (m_I μ2 (45, 0, 0)) P T ∧ Okc (m_I μ2 (45, 0, 0)) P T
        rw [f3]
        exact ⟨FamI_c (FamI_sm g3 f13 (by unfold KLR KR; omega)) hD.2.2.1 hD.2.2.2 (fun _ _ => rfl) hw2, f4.2.1, f4.1⟩
end LC
