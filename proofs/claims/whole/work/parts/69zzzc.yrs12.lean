/-! Part 69zzzc: years -/
section PS
variable {N made : Nat} {R R' : mA → Nat → Option mA} {fa pa : Nat → Nat}
set_option maxHeartbeats 200000 in
theorem PtrQ_swp (h : PtrQ N R made fa pa) (hr : Rag 9 R R') (h9 : R' (7, fa 0, 0) 9 = some (13, pa 0, 0)) (h9' : ∀ f, f ≠ fa 0 → R' (7, f, 0) 9 = R (7, f, 0) 9) (h5 : R' (1, 0, 0) 5 = R (1, 0, 0) 5) (h6 : R' (1, 0, 0) 6 = R (1, 0, 0) 6) (h7 : R' (1, 0, 0) 7 = some (13, pa 1, 0)) (h16 : ∀ i, R' (16, 0, 0) i = R (16, 0, 0) i) : PtrQ N R' made fa (fun j => pa (sw 0 1 j)) := by
  obtain ⟨c1, c2, c3, c4, c5, c6, c7, c8, c9, c10, c11, c12, c13⟩ := h
  have hl := Nat.le_refl N
  have hgp : ∀ g, planR N R g → planR N R' g := fun g q => Rag_plan hr hl (by have := q.1; omega) q
  have e0 : sw 0 1 0 = 1 := rfl
  have e1 : sw 0 1 1 = 0 := rfl
  have e2 : ∀ j, 2 ≤ j → sw 0 1 j = j := fun j hj => by
    unfold sw
    rw [if_neg (by omega), if_neg (by omega)]
  refine ⟨Rag_cls hr hl c1, Rag_ref hr hl c2, c3, c4, fun j hj => ?_, c6, fun i j hi hj q => ?_, by rw [h5, c8], by rw [h6, c9], ?_, ?_, fun i hi => by rw [h16, c12 i hi], fun i i1 i2 => by rw [h16, c13 i i1 i2]⟩
  · obtain ⟨d1, d2, d3, d4⟩ := c5 j hj
    refine ⟨d1, Rag_fam (f := 9) (g := fa j) hr hl (by have : fa j < 5 := d2.1; omega) d2, ?_, ?_⟩
    · by_cases z : j = 0
      · subst z
        simp only [e1]
        exact h9
      · simp only [e2 (j + 1) (by omega)]
        rw [h9' (fa j) (fun q => z (c6 j 0 hj (by omega) q)), d3]
    · by_cases z : j = 0
      · subst z
        simp only [e1]
        exact hgp _ c11
      · simp only [e2 (j + 1) (by omega)]
        exact hgp _ d4
  · exact sw_inj (c7 _ _ (sw_lt (by omega) (by omega) hi) (sw_lt (by omega) (by omega) hj) q)
  · simp only [e0]
    exact h7
  · simp only [e0]
    exact hgp _ (c5 0 (by omega)).2.2.2
end PS
def y00 : YS := (0, fun _ => (0, 0, 0, 0), fun _ => 0, [])
section CY2
variable {μ : mM} {B : Nat → Int32} {u : Nat → Nat} {L f g made n P T : Nat} {fa pa : Nat → Nat} {w : Nat → Int64}
set_option maxHeartbeats 200000 in
theorem YI_0 : YI y00 P T := ⟨Nat.zero_le _, trivial, Nat.zero_le _, fun i hi => absurd hi (Nat.not_lt_zero i), fun i hi => absurd hi (Nat.not_lt_zero i)⟩
set_option maxHeartbeats 200000 in
theorem YJ_0 : YJ y00 := ⟨fun i hi => absurd hi (Nat.not_lt_zero i), fun i hi => absurd hi List.not_mem_nil⟩
set_option maxHeartbeats 200000 in
theorem k_takePlan (h : EvY μ B u L f g w P T) (hL : L ≤ 300) (hk : TkC μ u L 0) : m_e (fn_Re_takePlan (some (5, 0, 0)) (some (7, f, 0)) (some (13, g, 0)) μ) (fun r μ' => sm (KM g) μ μ' ∧ (∀ q', yIt u L w P T (L + 1) (0, y00) = .inr q' → r = 1 ∧ m_I μ' (5, 0, 0) 10 = m_I μ (5, 0, 0) 10 ∧ m_I μ' (5, 0, 0) 11 = m_I μ (5, 0, 0) 11 ∧ CY μ' g q'.2 ∧ q'.2.2.2.2 = [] ∧ m_I μ' (13, g, 0) 0 = 1) ∧ ∀ fl, yIt u L w P T (L + 1) (0, y00) = .inl fl → r = 0 ∧ FtC μ' fl) := by
  have hG := h.2.2.1
  have s1 : sm (fun x y z k => x = 13 ∧ y = g ∧ k < 2) μ (m_sI (m_sI μ (13, g, 0) 0 0) (13, g, 0) 1 0) := sm_sI (sm_sI sm_rf _ ⟨rfl, rfl, by omega⟩) _ ⟨rfl, rfl, by omega⟩
  have hcl : fn_Pl_clear (some (13, g, 0)) μ = some ((), m_sI (m_sI μ (13, g, 0) 0 0) (13, g, 0) 1 0) := by
    unfold fn_Pl_clear
    rw [c_plan_th hG, c_plan_pZ hG (.inl rfl), c_plan_pI (show PlanP (m_sI μ (13, g, 0) 0 0) g from hG)]
    rfl
  have e1 : m_I (m_sI (m_sI μ (13, g, 0) 0 0) (13, g, 0) 1 0) (13, g, 0) 1 = 0 := by rw [I_row, ud_at]
  unfold fn_Re_takePlan
  rw [bd_of hcl]
  generalize m_sI (m_sI μ (13, g, 0) 0 0) (13, g, 0) 1 0 = μ1 at *
  refine e_mono (k_lines (L + 1) 0 m_F 0 y00 μ1 (by omega) (by have := F_gt; omega) hL (EvY_sm h s1 (by omega) (by omega) (by omega)) ⟨e1, fun i hi => absurd hi (Nat.not_lt_zero i), fun i hi => absurd hi (Nat.not_lt_zero i)⟩ YI_0 (TkC_sm hk s1 (by omega)) (by omega) (by omega)) ?_
  rintro r μ2 ⟨s2, b1, b2⟩
  refine ⟨sm_tr (sm_mono s1 (by unfold KM; omega)) s2, fun q' q => ?_, b2⟩
  obtain ⟨b3, b4, b5, b6⟩ := b1 q' q
  exact ⟨b3, b4.trans (sm_I s1 (by omega)), b5.trans (sm_I s1 (by omega)), b6⟩
def KYr (fa pa : Nat → Nat) (x y _z k : Nat) : Prop := (x = 1 ∧ k = 0) ∨ (x = 5 ∧ 1 ≤ k) ∨ ((x = 13 ∨ x = 14) ∧ y = pa 0)
set_option maxHeartbeats 200000 in
/-- the class's run -/
theorem k_years (hq : PtrQ μ.1 (m_R μ) made fa pa) {N : Nat} (e1 : m_I μ (5, 0, 0) 1 = nI N) (hN : N ≤ 900) (hLN : L ≤ N) (hL3 : L ≤ 300) (h6 : m_I μ (6, 0, 0) = B) (hB : Byt B u L) (hNm : NmC μ (fa 0) w P T) : m_e (fn_C_years (some (1, 0, 0)) (nI L) μ) (fun r μ' => ∃ μd, sm (KYr fa pa) μ μd ∧ m_I μd (5, 0, 0) 1 = 0 ∧ (∀ fl, yIt u L w P T (L + 1) (0, y00) = .inl fl → r = -1 ∧ μ' = μd ∧ m_I μd (1, 0, 0) 0 = 10 ∧ FtC μd fl) ∧ ∀ q', yIt u L w P T (L + 1) (0, y00) = .inr q' → r = nI q'.2.1 ∧ μ' = m_sR (m_sR μd (7, fa 0, 0) 9 (some (13, pa 0, 0))) (1, 0, 0) 7 (some (13, pa 1, 0)) ∧ m_I μd (1, 0, 0) 0 = 0 ∧ m_I μd (5, 0, 0) 10 = 0 ∧ m_I μd (5, 0, 0) 11 = -1 ∧ CY μd (pa 0) q'.2 ∧ q'.2.2.2.2 = [] ∧ m_I μd (13, pa 0, 0) 0 = 1) := by
  obtain ⟨q1, q2, q3, q4, q5, q6, q7, q8, q9, q10, q11, q12, q13⟩ := id hq
  have hC : ClsP μ := q1
  obtain ⟨d1, d2, d3, d4⟩ := q5 0 (by omega)
  have d5 : m_R μ (7, fa 0, 0) 9 = some (13, pa 1, 0) := d3
  have d6 : PlanP μ (pa 0) := q11
  have s0 : sm (fun x _ _ k => x = 1 ∧ k = 0) μ (m_sI μ (1, 0, 0) 0 0) := sm_sI sm_rf _ ⟨rfl, rfl⟩
  have hC0 := sm_C s0 hC
  unfold fn_C_years
  rw [c_main_th hC, bd_ite, if_neg (nI_pos (by omega)), bd_bd, c_main_r4 hC, bd_bd, c_text_gI hC, e1, bd_ite, if_neg (show ¬ nI N < nI L from Int32.not_lt.mpr (nI_le hLN (by omega))), bd_ite, if_pos (show nI L ≤ 300 from nI_le (b := 300) hL3 (by omega)), bd_rt, c_main_pI hC, c_main_gI hC0, I_row, ud_at, ap_ite, if_pos rfl, c_main_r4 hC0]
  refine e_bd (k_open (u := u) hC0 (by rw [sm_Ir s0 (by omega), h6]) hB) ?_
  rintro - μb ⟨tb, kb, b1, b10, b11, sb⟩
  have hCb := sm_C sb hC0
  have sb0 : sm (KYr fa pa) μ μb := sm_tr (sm_mono s0 (by unfold KYr; omega)) (sm_mono sb (by unfold KYr; omega))
  have rb : m_R μb = m_R μ := sb0.2.1
  rw [c_main_r4 hCb, c_main_gR hCb, rb, q8, c_main_gR hCb, rb, q10]
  have hNb : NmC μb (fa 0) w P T := by
    obtain ⟨n1, n2, n3, n4, n5, n6⟩ := hNm
    exact ⟨by rw [sm_I sb0 (by unfold KYr; omega), n1], by rw [sm_I sb0 (by unfold KYr; omega), n2], n3, n4, fun i hi => by rw [sm_J sb0 (by unfold KYr; omega), n5 i hi], fun i hi => by rw [sm_J sb0 (by unfold KYr; omega), n6 i hi]⟩
  refine e_bd (k_takePlan ⟨hCb, sm_F sb0 d2, sm_P sb0 d6, tb, hB, hNb⟩ hL3 kb) ?_
  rintro r μc ⟨sc, c3, c4⟩
  have sc0 : sm (KYr fa pa) μ μc := sm_tr sb0 (sm_mono sc (by unfold KM KYr; omega))
  have hCc := sm_C sc0 hC
  have rc : m_R μc = m_R μ := sc0.2.1
  have ec1 : m_I μc (5, 0, 0) 1 = 0 := by rw [sm_I sc (by unfold KM; omega), b1]
  have ec0 : m_I μc (1, 0, 0) 0 = 0 := by rw [sm_I sc (by unfold KM; omega), sm_I sb (by omega), I_row, ud_at]
  cases hr : yIt u L w P T (L + 1) (0, y00) with
  | inl fl =>
    obtain ⟨rfl, hF⟩ := c4 fl hr
    rw [ap_ite, if_pos rfl, c_main_pI hCc]
    refine ⟨_, _, rfl, m_sI μc (1, 0, 0) 0 10, sm_sI sc0 _ (.inl ⟨rfl, rfl⟩), by rw [I_ne _ rfl, ec1], fun fl' q => ?_, fun q' q => (by cases q)⟩
    cases q
    exact ⟨rfl, rfl, by rw [I_row, ud_at], by rw [I_ne _ rfl, hF.1], by rw [I_ne _ rfl, hF.2]⟩
  | inr q =>
    obtain ⟨rfl, a1, a2, a3, a4, a5⟩ := c3 q hr
    have h5 : m_R μc (1, 0, 0) 5 = some (7, fa 0, 0) := by rw [rc]; exact q8
    have h7 : m_R μc (1, 0, 0) 7 = some (13, pa 0, 0) := by rw [rc]; exact q10
    have h9 : m_R μc (7, fa 0, 0) 9 = some (13, pa 1, 0) := by rw [rc]; exact d5
    have hFc := sm_F sc0 d2
    have o2 : oO (m_sR μc (7, fa 0, 0) 9 (some (13, pa 0, 0))) 0 (1, 0, 0) := (show oO μc 0 (1, 0, 0) from o_main hCc)
    have o3 : oO (m_sR (m_sR μc (7, fa 0, 0) 9 (some (13, pa 0, 0))) (1, 0, 0) 7 (some (13, pa 1, 0))) 0 (1, 0, 0) := (show oO μc 0 (1, 0, 0) from o_main hCc)
    have o4 : oO (m_sR (m_sR μc (7, fa 0, 0) 9 (some (13, pa 0, 0))) (1, 0, 0) 7 (some (13, pa 1, 0))) 3 (7, fa 0, 0) := (show oO μc 3 (7, fa 0, 0) from o_fam hFc)
    have o5 : oO (m_sR (m_sR μc (7, fa 0, 0) 9 (some (13, pa 0, 0))) (1, 0, 0) 7 (some (13, pa 1, 0))) 6 (13, pa 0, 0) := (show oO μc 6 (13, pa 0, 0) from o_plan (sm_P sc0 d6))
    have hu : ∀ a k, m_R (m_sR (m_sR μc (7, fa 0, 0) 9 (some (13, pa 0, 0))) (1, 0, 0) 7 (some (13, pa 1, 0))) a k = if a = (1, 0, 0) ∧ k = 7 then some (13, pa 1, 0) else if a = (7, fa 0, 0) ∧ k = 9 then some (13, pa 0, 0) else m_R μc a k := fun a k => rfl
    have r5 : m_R (m_sR (m_sR μc (7, fa 0, 0) 9 (some (13, pa 0, 0))) (1, 0, 0) 7 (some (13, pa 1, 0))) (1, 0, 0) 5 = some (7, fa 0, 0) := by
      rw [hu, if_neg (fun q => by cases q.2), if_neg (fun q => by cases q.2), h5]
    have r9 : m_R (m_sR (m_sR μc (7, fa 0, 0) 9 (some (13, pa 0, 0))) (1, 0, 0) 7 (some (13, pa 1, 0))) (7, fa 0, 0) 9 = some (13, pa 0, 0) := by
      rw [hu, if_neg (fun q => by cases q.2), if_pos ⟨rfl, rfl⟩]
    have eS : m_I (m_sR (m_sR μc (7, fa 0, 0) 9 (some (13, pa 0, 0))) (1, 0, 0) 7 (some (13, pa 1, 0))) (13, pa 0, 0) 1 = nI q.2.1 := a3.1
    rw [ap_ite, if_neg (by decide), c_main_gR hCc, h5, c_fam_gR hFc, h9, c_main_gR hCc, h5, c_main_gR hCc, h7, c_fam_pR hFc, bd_pR o2, bd_gR o3, r5, bd_gR o4, r9, bd_gI o5, eS]
    refine ⟨_, _, rfl, μc, sc0, ec1, fun fl q => (by cases q), fun q'' q => ?_⟩
    cases q
    exact ⟨rfl, rfl, ec0, a1.trans b10, a2.trans b11, a3, a4, a5⟩
set_option maxHeartbeats 200000 in
/-- the reference's run -/
theorem r_years (hR : RefP μ) {N : Nat} (e8 : m_I μ (40, 0, 0) 8 = nI N) (hN : N ≤ 900) (hLN : L ≤ N) (hL3 : L ≤ 300) (h44 : m_I μ (44, 0, 0) = B) (hB : Byt B u L) (b1 : m_I μ (45, 0, 0) 0 = nI P) (b2 : m_I μ (45, 0, 0) 1 = nI T) (b3 : P ≤ 6) (b4 : T ≤ 8) (b5 : ∀ i, i < P → m_J μ (48, 0, 0) i = w i) (b6 : ∀ i, i < T → m_J μ (48, 0, 0) (6 + i) = wT w i) : m_e (fn_M_years (some (40, 0, 0)) (nI L) μ) (fun r ν' => m_I ν' (40, 0, 0) 8 = 0 ∧ (∀ fl, yIt u L w P T (L + 1) (0, y00) = .inl fl → r = -1 ∧ sm (fun x _ _ k => (x = 40 ∧ (k < 2 ∨ (8 ≤ k ∧ k ≤ 19) ∨ k = 26)) ∨ (x = 45 ∧ 1615 ≤ k)) μ ν' ∧ m_I ν' (40, 0, 0) 0 = 10 ∧ m_I ν' (40, 0, 0) 10 = nI fl.1 ∧ m_I ν' (40, 0, 0) 11 = nI fl.2) ∧ ∀ p' y', yIt u L w P T (L + 1) (0, y00) = .inr (p', y') → r = nI y'.1 ∧ sm (fun x _ _ k => (x = 40 ∧ (k < 2 ∨ (8 ≤ k ∧ k ≤ 19) ∨ k = 26)) ∨ (x = 45 ∧ (1615 ≤ k ∨ (105 ≤ k ∧ k < 377)))) μ ν' ∧ m_I ν' (40, 0, 0) 0 = 0 ∧ m_I ν' (40, 0, 0) 10 = 0 ∧ m_I ν' (40, 0, 0) 11 = -1 ∧ m_I ν' (45, 0, 0) 105 = 1 ∧ m_I ν' (45, 0, 0) 106 = nI y'.1 ∧ YI y' P T ∧ GroL y00 y' 0 ∧ ∃ ν, RY ν y' ∧ ∀ k, k < 9 * y'.1 → m_I ν' (45, 0, 0) (107 + k) = m_I ν (45, 0, 0) (1615 + k)) := by
  have hRz : RefP (zz μ) := hR
  have sz : sm (fun x _ _ k => (x = 40 ∧ (k < 2 ∨ (8 ≤ k ∧ k ≤ 19) ∨ k = 26)) ∨ (x = 45 ∧ 1615 ≤ k)) μ (zz μ) := sm_sI (sm_sI sm_rf _ (by omega)) _ (by omega)
  unfold fn_M_years
  rw [r_pre hR]
  refine e_bd (r_starts (u := u) (mx := 300) hRz (by rw [sm_Ir sz (by omega), h44]) hB (by rw [zz_f (by decide) (by decide), e8]) hN hLN hL3 (by omega)) ?_
  rintro v ν1 ⟨rfl, t1, k1, z1, e1, s1⟩
  have hR1 := sm_R s1 hRz
  have s3 : sm (fun x _ _ k => x = 40 ∧ k = 26) ν1 (m_sI ν1 (40, 0, 0) 26 0) := sm_sI sm_rf _ ⟨rfl, rfl⟩
  have e26 : m_I (m_sI ν1 (40, 0, 0) 26 0) (40, 0, 0) 26 = nI 0 := by rw [I_row, ud_at]; rfl
  rw [ap_ite, if_neg (by decide), r_pI hR1]
  generalize m_sI ν1 (40, 0, 0) 26 0 = ν3 at *
  have hR3 := sm_R s3 hR1
  have t3 := RxB_sm t1 s3 (by omega) (by omega)
  have k3 := TkR_sm k1 s3 (by omega)
  have z3 : m_I ν3 (40, 0, 0) 12 = 0 := by rw [sm_I s3 (by omega), z1]
  have sa : sm (fun x _ _ k => (x = 40 ∧ (k < 2 ∨ (8 ≤ k ∧ k ≤ 19) ∨ k = 26)) ∨ (x = 45 ∧ 1615 ≤ k)) μ ν3 := sm_tr (sm_tr sz (sm_mono s1 (by omega))) (sm_mono s3 (by omega))
  have e8' : m_I ν3 (40, 0, 0) 8 = 0 := by rw [sm_I s3 (by omega), e1]
  have e0' : m_I ν3 (40, 0, 0) 0 = 0 := by rw [sm_I s3 (by omega), sm_I s1 (by omega), zz_0]
  have E3 : EvN ν3 B u L w P T := ⟨hR3, t3, hB, by rw [sm_I sa (by omega), b1], by rw [sm_I sa (by omega), b2], b3, b4, fun i hi => by rw [sm_J sa (by omega), b5 i hi], fun i hi => by rw [sm_J sa (by omega), b6 i hi]⟩
  refine e_bd (r_steps (L + 1) m_F 0 y00 ν3 (by omega) (by have := F_gt; omega) E3 z3 k3 (by omega) ⟨e26, fun i hi => absurd hi (Nat.not_lt_zero i), fun i hi => absurd hi (Nat.not_lt_zero i)⟩ YI_0 rfl) ?_
  rintro - ν4 ⟨s4, c1, c2⟩
  have hR4 := sm_R s4 hR3
  have sb : sm (fun x _ _ k => (x = 40 ∧ (k < 2 ∨ (8 ≤ k ∧ k ≤ 19) ∨ k = 26)) ∨ (x = 45 ∧ 1615 ≤ k)) μ ν4 := sm_tr sa (sm_mono s4 (by unfold KX; omega))
  have f8 : m_I ν4 (40, 0, 0) 8 = 0 := by rw [sm_I s4 (by unfold KX; omega), e8']
  have f0 : m_I ν4 (40, 0, 0) 0 = 0 := by rw [sm_I s4 (by unfold KX; omega), e0']
  cases hr : yIt u L w P T (L + 1) (0, y00) with
  | inl fl =>
    have hE := c1 fl hr
    rw [bd_of (r_isWellE hR4 hE), ap_ite, if_pos rfl]
    refine ⟨_, _, rfl, ?_, fun fl' q => ?_, fun p' s q => (by cases q)⟩
    · rw [I_row, ud_ne (by decide), I_row, ud_ne (by decide), I_row, ud_ne (by decide), f8]
    · cases q
      refine ⟨rfl, sm_sI (sm_sI (sm_sI sb _ (by omega)) _ (by omega)) _ (by omega), ?_, ?_, ?_⟩
      · rw [I_row, ud_at]
      · rw [I_row, ud_ne (by decide), I_row, ud_ne (by decide), I_row, ud_at]
      · rw [I_row, ud_ne (by decide), I_row, ud_at]
  | inr q =>
    obtain ⟨p', y'⟩ := q
    obtain ⟨z4, f4, hI', ho', hG'⟩ := c2 p' y' hr
    have s5 : sm (fun x _ _ k => x = 40 ∧ (k = 10 ∨ k = 11)) ν4 (m_sI (m_sI ν4 (40, 0, 0) 10 0) (40, 0, 0) 11 (-1)) := sm_sI (sm_sI sm_rf _ (by omega)) _ (by omega)
    have g10 : m_I (m_sI (m_sI ν4 (40, 0, 0) 10 0) (40, 0, 0) 11 (-1)) (40, 0, 0) 10 = 0 := by rw [I_row, ud_ne (by decide), I_row, ud_at]
    have g11 : m_I (m_sI (m_sI ν4 (40, 0, 0) 10 0) (40, 0, 0) 11 (-1)) (40, 0, 0) 11 = -1 := by rw [I_row, ud_at]
    rw [bd_of (r_isWell0 hR4 z4), ap_ite, if_neg (by decide)]
    generalize m_sI (m_sI ν4 (40, 0, 0) 10 0) (40, 0, 0) 11 (-1) = ν5 at *
    have hR5 := sm_R s5 hR4
    have f5 : RY ν5 y' := RY_sm f4 s5 (by omega) (by omega)
    have hS30 := hI'.1
    have s6 : sm (fun x _ _ k => x = 45 ∧ (k = 105 ∨ k = 106)) ν5 (m_sI (m_sI ν5 (45, 0, 0) 105 1) (45, 0, 0) 106 (nI y'.1)) := sm_sI (sm_sI sm_rf _ (by omega)) _ (by omega)
    have g105 : m_I (m_sI (m_sI ν5 (45, 0, 0) 105 1) (45, 0, 0) 106 (nI y'.1)) (45, 0, 0) 105 = 1 := by rw [I_row, ud_ne (by decide), I_row, ud_at]
    have g106 : m_I (m_sI (m_sI ν5 (45, 0, 0) 105 1) (45, 0, 0) 106 (nI y'.1)) (45, 0, 0) 106 = nI y'.1 := by rw [I_row, ud_at]
    have hRm : RefP (m_sI ν5 (45, 0, 0) 105 1) := hR5
    have w105 : ∀ {K : Unit → mP Int32}, m_bd (m_tI 0 (some (45, 0, 0)) 105 1) K ν5 = K () (m_sI ν5 (45, 0, 0) 105 1) := fun {K} => r_t45 (i := 105) hR5 (by omega) _ _
    have w106 : ∀ {K : Unit → mP Int32} {v : Int32}, m_bd (m_tI 0 (some (45, 0, 0)) 106 v) K (m_sI ν5 (45, 0, 0) 105 1) = K () (m_sI (m_sI ν5 (45, 0, 0) 105 1) (45, 0, 0) 106 v) := fun {K v} => r_t45 (i := 106) hRm (by omega) _ _
    rw [r_g45 hR5, w105, r_g45 hRm, r_gI hRm, I_ne _ rfl, f5.1, w106]
    generalize m_sI (m_sI ν5 (45, 0, 0) 105 1) (45, 0, 0) 106 (nI y'.1) = ν6 at *
    have hR6 := sm_R s6 hR5
    have h26 : m_I ν6 (40, 0, 0) 26 = nI y'.1 := by rw [sm_I s6 (by omega), f5.1]
    refine e_bd (R := fun _ ν' => sm (fun x _ _ k => x = 45 ∧ 107 ≤ k ∧ k < 377) ν6 ν' ∧ ∀ k, k < 9 * y'.1 → m_I ν' (45, 0, 0) (107 + k) = m_I ν6 (45, 0, 0) (1615 + k)) ?_ ?_
    · refine e_inv (fun i s ν' => s = nI i ∧ sm (fun x _ _ k => x = 45 ∧ 107 ≤ k ∧ k < 377) ν6 ν' ∧ ∀ k, k < i → m_I ν' (45, 0, 0) (107 + k) = m_I ν6 (45, 0, 0) (1615 + k)) (9 * y'.1) ?_ ?_ ⟨rfl, sm_rf, fun k hk => absurd hk (Nat.not_lt_zero k)⟩ (by omega)
      · rintro i s ν' hi ⟨rfl, a1, a2⟩
        have hR7 := sm_R a1 hR6
        have hge : ¬ nI (9 * y'.1) ≤ nI i := nI_ge hi (by omega)
        have n1 : (1615 : Int32) + nI i = nI (1615 + i) := by rw [show (1615 : Int32) = nI 1615 from rfl, nI_add]
        have n2 : (107 : Int32) + nI i = nI (107 + i) := by rw [show (107 : Int32) = nI 107 from rfl, nI_add]
        unfold fn_M_years_l80
        rw [r_gI hR7, sm_I a1 (by omega), h26, show (9 : Int32) = nI 9 from rfl, pk_mul, ap_ite, if_neg hge, r_g45 hR7, r_g45 hR7, n1, r_a45 hR7 (by omega), n2, r_t45 hR7 (by omega)]
        refine ⟨_, _, rfl, _, rfl, nI_1 i, sm_sI a1 _ (by omega), fun k hk => ?_⟩
        rw [I_row]
        by_cases z : k = i
        · subst z
          rw [ud_at, sm_I a1 (by omega)]
        · rw [ud_ne (by omega)]
          exact a2 k (by omega)
      · rintro s ν' ⟨rfl, a1, a2⟩
        have hR7 := sm_R a1 hR6
        unfold fn_M_years_l80
        rw [r_gI hR7, sm_I a1 (by omega), h26, show (9 : Int32) = nI 9 from rfl, pk_mul, ap_ite, if_pos (nI_le (Nat.le_refl _) (by omega))]
        exact ⟨_, _, rfl, (), rfl, a1, a2⟩
    · rintro - ν7 ⟨s7, a2⟩
      have hR7 := sm_R s7 hR6
      rw [r_gI hR7, sm_I s7 (by omega), h26]
      refine ⟨_, _, rfl, ?_, fun fl q => (by cases q), fun p'' y'' q => ?_⟩
      · rw [sm_I s7 (by omega), sm_I s6 (by omega), sm_I s5 (by omega), f8]
      · cases q
        refine ⟨rfl, sm_tr (sm_mono sb (by omega)) (sm_tr (sm_mono s5 (by omega)) (sm_tr (sm_mono s6 (by omega)) (sm_mono s7 (by omega)))), ?_, ?_, ?_, ?_, ?_, hI', hG', ν5, f5, fun k hk => ?_⟩
        · rw [sm_I s7 (by omega), sm_I s6 (by omega), sm_I s5 (by omega), f0]
        · rw [sm_I s7 (by omega), sm_I s6 (by omega), g10]
        · rw [sm_I s7 (by omega), sm_I s6 (by omega), g11]
        · rw [sm_I s7 (by omega), g105]
        · rw [sm_I s7 (by omega), g106]
        · rw [a2 k hk, sm_I s6 (by omega)]
end CY2
