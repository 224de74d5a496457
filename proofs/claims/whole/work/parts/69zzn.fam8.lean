/-! Part 69zzn: family -/
section CF
variable {μ : mM} {B : Nat → Int32} {u : Nat → Nat} {L f g made n P T : Nat} {fa pa : Nat → Nat}
set_option maxHeartbeats 200000 in
theorem TkC_sm {K : Nat → Nat → Nat → Nat → Prop} {μ' : mM} {p : Nat} (h : TkC μ u L p) (hs : sm K μ μ') (hk : ∀ k, 3 ≤ k → k ≤ 8 → ¬ K 5 0 0 k) : TkC μ' u L p := by
  unfold TkC at h ⊢
  rw [sm_I hs (hk 3 (by omega) (by omega)), sm_I hs (hk 4 (by omega) (by omega)), sm_I hs (hk 5 (by omega) (by omega)), sm_I hs (hk 6 (by omega) (by omega)), sm_J hs (hk 7 (by omega) (by omega)), sm_I hs (hk 8 (by omega) (by omega))]
  exact h
set_option maxHeartbeats 200000 in
theorem k_takeFamily (hC : ClsP μ) (hP : FamP μ f) (hG : PlanP μ g) (h9 : m_R μ (7, f, 0) 9 = some (13, g, 0)) (hT : TxB μ B L) (hB : Byt B u L) (hk : TkC μ u L 0) (w0 : Nat → Int64) : m_e (fn_Re_takeFamily (some (5, 0, 0)) (some (7, f, 0)) μ) (fun r μ' => sm (fun x y z k => KF f x y z k ∨ (x = 13 ∧ y = g ∧ k < 2)) μ μ' ∧ m_I μ' (13, g, 0) 0 = 0 ∧ m_I μ' (13, g, 0) 1 = 0 ∧ (∀ p' s, gIt u L (L + 1) (0, (0, 0, 0, c00, w0)) = .inr (p', s) → r = 1 ∧ m_I μ' (5, 0, 0) 10 = m_I μ (5, 0, 0) 10 ∧ m_I μ' (5, 0, 0) 11 = m_I μ (5, 0, 0) 11 ∧ FamI μ' f s.2.2.2.1 s.2.2.2.2 s.1 s.2.1) ∧ ∀ fl, gIt u L (L + 1) (0, (0, 0, 0, c00, w0)) = .inl fl → r = 0 ∧ FtC μ' fl) := by
  have hL := hB.1
  unfold fn_Re_takeFamily
  refine e_bd (k_clear hP hG h9) ?_
  rintro - μ1 ⟨s1, g1, g2, g3⟩
  have hF : FmC μ1 f c00 w0 0 0 0 := by
    refine ⟨⟨g3 0 (by omega), g3 1 (by omega), g3 6 (by omega), by omega, by omega, fun k k1 k2 => ?_⟩, fun p hp => absurd hp (Nat.not_lt_zero p), fun t ht => absurd ht (Nat.not_lt_zero t)⟩
    rw [g3 k (by omega), if_pos ⟨k1, k2⟩, if_neg (by rw [Nat.zero_testBit]; decide)]
  refine e_mono (k_clauses (L + 1) 0 m_F 0 0 0 0 c00 w0 μ1 (by omega) (by have := F_gt; omega) hL ⟨sm_C s1 hC, sm_F s1 hP, TxB_sm hT s1 (by omega) (by omega), hB, hF⟩ (TkC_sm hk s1 (by omega)) (by omega) (by omega) ZF_0) ?_
  rintro r μ2 ⟨s2, b1, b2⟩
  refine ⟨sm_tr (sm_mono s1 (by unfold KF; omega)) (sm_mono s2 (fun _ _ _ _ q => .inl q)), by rw [sm_I s2 (by unfold KF; omega), g1], by rw [sm_I s2 (by unfold KF; omega), g2], fun p' s q => ?_, b2⟩
  obtain ⟨b3, b4, b5, b6⟩ := b1 p' s q
  exact ⟨b3, b4.trans (sm_I s1 (by omega)), b5.trans (sm_I s1 (by omega)), b6⟩
set_option maxHeartbeats 200000 in
/-- the class's run -/
theorem k_family (hq : PtrQ μ.1 (m_R μ) made fa pa) {N : Nat} (e1 : m_I μ (5, 0, 0) 1 = nI N) (hN : N ≤ 900) (hLN : L ≤ N) (h6 : m_I μ (6, 0, 0) = B) (hB : Byt B u L) (w0 : Nat → Int64) : m_e (fn_C_family (some (1, 0, 0)) (nI L) μ) (fun r μ' => ∃ μd, sm (fun x y _ k => (x = 1 ∧ k = 0) ∨ (x = 5 ∧ 1 ≤ k) ∨ ((x = 7 ∨ x = 9 ∨ x = 10 ∨ x = 12) ∧ y = fa 1) ∨ (x = 13 ∧ y = pa 2)) μ μd ∧ m_I μd (5, 0, 0) 1 = 0 ∧ (∀ fl, gIt u L (L + 1) (0, (0, 0, 0, c00, w0)) = .inl fl → r = -1 ∧ μ' = μd ∧ m_I μd (1, 0, 0) 0 = 10 ∧ FtC μd fl) ∧ ∀ p' s, gIt u L (L + 1) (0, (0, 0, 0, c00, w0)) = .inr (p', s) → r = nI s.2.1 ∧ μ' = m_sR (m_sR μd (1, 0, 0) 5 (some (7, fa 1, 0))) (1, 0, 0) 6 (some (7, fa 0, 0)) ∧ m_I μd (1, 0, 0) 0 = 0 ∧ m_I μd (5, 0, 0) 10 = 0 ∧ m_I μd (5, 0, 0) 11 = -1 ∧ FamI μd (fa 1) s.2.2.2.1 s.2.2.2.2 s.1 s.2.1 ∧ m_I μd (13, pa 2, 0) 0 = 0 ∧ m_I μd (13, pa 2, 0) 1 = 0) := by
  obtain ⟨q1, q2, q3, q4, q5, q6, q7, q8, q9, q10, q11, q12, q13⟩ := id hq
  have hC : ClsP μ := q1
  obtain ⟨d1, d2, d3, d4⟩ := q5 1 (by omega)
  have d5 : m_R μ (7, fa 1, 0) 9 = some (13, pa 2, 0) := d3
  have d6 : PlanP μ (pa 2) := d4
  have s0 : sm (fun x _ _ k => x = 1 ∧ k = 0) μ (m_sI μ (1, 0, 0) 0 0) := sm_sI sm_rf _ ⟨rfl, rfl⟩
  have hC0 := sm_C s0 hC
  unfold fn_C_family
  rw [c_main_th hC, bd_ite, if_neg (nI_pos (by omega)), bd_bd, c_main_r4 hC, bd_bd, c_text_gI hC, e1, bd_ite, if_pos (nI_le hLN (by omega)), bd_rt, c_main_pI hC, c_main_gI hC0, I_row, ud_at, ap_ite, if_pos rfl, c_main_r4 hC0]
  refine e_bd (k_open (u := u) hC0 (by rw [sm_Ir s0 (by omega), h6]) hB) ?_
  rintro - μb ⟨tb, kb, b1, b10, b11, sb⟩
  have hCb := sm_C sb hC0
  have sb0 : sm (fun x y _ k => (x = 1 ∧ k = 0) ∨ (x = 5 ∧ 1 ≤ k) ∨ ((x = 7 ∨ x = 9 ∨ x = 10 ∨ x = 12) ∧ y = fa 1) ∨ (x = 13 ∧ y = pa 2)) μ μb := sm_tr (sm_mono s0 (by omega)) (sm_mono sb (by omega))
  have rb : m_R μb = m_R μ := sb0.2.1
  rw [c_main_r4 hCb, c_main_gR hCb, rb, q9]
  refine e_bd (k_takeFamily hCb (sm_F sb0 d2) (sm_P sb0 d6) (by rw [rb]; exact d5) tb hB kb w0) ?_
  rintro r μc ⟨sc, c1, c2, c3, c4⟩
  have sc0 := sm_tr sb0 (sm_mono (K' := fun x y _ k => (x = 1 ∧ k = 0) ∨ (x = 5 ∧ 1 ≤ k) ∨ ((x = 7 ∨ x = 9 ∨ x = 10 ∨ x = 12) ∧ y = fa 1) ∨ (x = 13 ∧ y = pa 2)) sc (by unfold KF; omega))
  have hCc := sm_C sc0 hC
  have rc : m_R μc = m_R μ := sc0.2.1
  have ec1 : m_I μc (5, 0, 0) 1 = 0 := by rw [sm_I sc (by unfold KF; omega), b1]
  have ec0 : m_I μc (1, 0, 0) 0 = 0 := by rw [sm_I sc (by unfold KF; omega), sm_I sb (by omega), I_row, ud_at]
  cases hr : gIt u L (L + 1) (0, (0, 0, 0, c00, w0)) with
  | inl fl =>
    obtain ⟨rfl, hF⟩ := c4 fl hr
    rw [ap_ite, if_pos rfl, c_main_pI hCc]
    refine ⟨_, _, rfl, m_sI μc (1, 0, 0) 0 10, sm_sI sc0 _ (.inl ⟨rfl, rfl⟩), by rw [I_ne _ rfl, ec1], fun fl' q => ?_, fun p' s q => (by cases q)⟩
    cases q
    exact ⟨rfl, rfl, by rw [I_row, ud_at], by rw [I_ne _ rfl, hF.1], by rw [I_ne _ rfl, hF.2]⟩
  | inr q =>
    obtain ⟨p', s⟩ := q
    obtain ⟨rfl, a1, a2, a3⟩ := c3 p' s hr
    have hZ := gIt_Z (L + 1) (0, (0, 0, 0, c00, w0)) (p', s) ZF_0 (Nat.zero_le L) hr
    have h5 : m_R μc (1, 0, 0) 5 = some (7, fa 0, 0) := by rw [rc]; exact q8
    have h6' : m_R μc (1, 0, 0) 6 = some (7, fa 1, 0) := by rw [rc]; exact q9
    have o1 : oO μc 0 (1, 0, 0) := o_main hCc
    have o2 : oO (m_sR μc (1, 0, 0) 5 (some (7, fa 1, 0))) 0 (1, 0, 0) := o_main hCc
    have o3 : oO (m_sR (m_sR μc (1, 0, 0) 5 (some (7, fa 1, 0))) (1, 0, 0) 6 (some (7, fa 0, 0))) 0 (1, 0, 0) := o_main hCc
    have o4 : oO (m_sR (m_sR μc (1, 0, 0) 5 (some (7, fa 1, 0))) (1, 0, 0) 6 (some (7, fa 0, 0))) 3 (7, fa 1, 0) := (show oO μc 3 (7, fa 1, 0) from o_fam (sm_F sc0 d2))
    have r5 : m_R (m_sR (m_sR μc (1, 0, 0) 5 (some (7, fa 1, 0))) (1, 0, 0) 6 (some (7, fa 0, 0))) (1, 0, 0) 5 = some (7, fa 1, 0) := by
      have hu : ∀ a k, m_R (m_sR (m_sR μc (1, 0, 0) 5 (some (7, fa 1, 0))) (1, 0, 0) 6 (some (7, fa 0, 0))) a k = if a = (1, 0, 0) ∧ k = 6 then some (7, fa 0, 0) else if a = (1, 0, 0) ∧ k = 5 then some (7, fa 1, 0) else m_R μc a k := fun a k => rfl
      rw [hu, if_neg (fun q => by cases q.2), if_pos ⟨rfl, rfl⟩]
    have eT : m_I μc (7, fa 1, 0) 1 = nI s.2.1 := by rw [a3.1 1 (by omega), hZ.1.2.1]
    rw [ap_ite, if_neg (by decide), c_main_gR hCc, h5, c_main_gR hCc, h6', bd_pR o1, bd_pR o2, bd_gR o3, r5, bd_gI o4]
    refine ⟨_, _, rfl, μc, sc0, ec1, fun fl q => (by cases q), fun p'' s' q => ?_⟩
    cases q
    exact ⟨eT, rfl, ec0, a1.trans b10, a2.trans b11, a3, c1, c2⟩
set_option maxHeartbeats 200000 in
/-- the reference's run -/
theorem r_family (hR : RefP μ) {N : Nat} (e8 : m_I μ (40, 0, 0) 8 = nI N) (hN : N ≤ 900) (hLN : L ≤ N) (h44 : m_I μ (44, 0, 0) = B) (hB : Byt B u L) : m_e (fn_M_family (some (40, 0, 0)) (nI L) μ) (fun r ν' => m_I ν' (40, 0, 0) 8 = 0 ∧ (∀ fl, gIt u L (L + 1) (0, (0, 0, 0, c00, fun k => m_J μ (48, 0, 0) (56 + k))) = .inl fl → r = -1 ∧ sm (fun x _ _ k => (x = 40 ∧ (k < 2 ∨ (8 ≤ k ∧ k ≤ 19) ∨ k = 25 ∨ k = 26)) ∨ (x = 45 ∧ 1508 ≤ k) ∨ (x = 48 ∧ 56 ≤ k)) μ ν' ∧ m_I ν' (40, 0, 0) 0 = 10 ∧ m_I ν' (40, 0, 0) 10 = nI fl.1 ∧ m_I ν' (40, 0, 0) 11 = nI fl.2) ∧ ∀ p' s, gIt u L (L + 1) (0, (0, 0, 0, c00, fun k => m_J μ (48, 0, 0) (56 + k))) = .inr (p', s) → r = nI s.2.1 ∧ sm (fun x _ _ k => (x = 40 ∧ (k < 2 ∨ (8 ≤ k ∧ k ≤ 19) ∨ k = 25 ∨ k = 26)) ∨ (x = 45 ∧ (1508 ≤ k ∨ k < 377)) ∨ (x = 48 ∧ (56 ≤ k ∨ k < 14))) μ ν' ∧ m_I ν' (40, 0, 0) 0 = 0 ∧ m_I ν' (40, 0, 0) 10 = 0 ∧ m_I ν' (40, 0, 0) 11 = -1 ∧ (∀ k, k < 377 → m_I ν' (45, 0, 0) k = s.2.2.2.1 k) ∧ ∀ k, k < 14 → m_J ν' (48, 0, 0) k = s.2.2.2.2 k) := by
  have hRz : RefP (zz μ) := hR
  have sz : sm (fun x _ _ k => (x = 40 ∧ (k < 2 ∨ (8 ≤ k ∧ k ≤ 19) ∨ k = 25 ∨ k = 26)) ∨ (x = 45 ∧ 1508 ≤ k) ∨ (x = 48 ∧ 56 ≤ k)) μ (zz μ) := sm_sI (sm_sI sm_rf _ (by omega)) _ (by omega)
  unfold fn_M_family
  rw [r_pre hR]
  refine e_bd (r_starts (u := u) (mx := 900) hRz (by rw [sm_Ir sz (by omega), h44]) hB (by rw [zz_f (by decide) (by decide), e8]) hN hLN (by omega) (by omega)) ?_
  rintro v ν1 ⟨rfl, t1, k1, z1, e1, s1⟩
  have hR1 := sm_R s1 hRz
  rw [ap_ite, if_neg (by decide)]
  refine e_bd (r_empties (b := 4) hR1 (by omega)) ?_
  rintro - ν2 ⟨s2, g2⟩
  have hR2 := sm_R s2 hR1
  have s3 : sm (fun x _ _ k => x = 40 ∧ k = 25) ν2 (m_sI ν2 (40, 0, 0) 25 0) := sm_sI sm_rf _ ⟨rfl, rfl⟩
  rw [r_pI hR2]
  have e25 : m_I (m_sI ν2 (40, 0, 0) 25 0) (40, 0, 0) 25 = nI 0 := by rw [I_row, ud_at]; rfl
  generalize m_sI ν2 (40, 0, 0) 25 0 = ν3 at *
  have hR3 := sm_R s3 hR2
  have hF : FmR ν3 c00 (fun k => m_J μ (48, 0, 0) (56 + k)) := by
    refine ⟨fun k hk => ?_, fun k hk => ?_⟩
    · rw [sm_I s3 (by omega)]
      exact g2 k hk
    · rw [sm_J s3 (by omega), sm_J s2 (by omega), sm_J s1 (by omega), zz_J]
  have t3 := RxB_sm (RxB_sm t1 s2 (by omega) (by omega)) s3 (by omega) (by omega)
  have k3 := TkR_sm (TkR_sm k1 s2 (by omega)) s3 (by omega)
  have z3 : m_I ν3 (40, 0, 0) 12 = 0 := by rw [sm_I s3 (by omega), sm_I s2 (by omega), z1]
  have sa : sm (fun x _ _ k => (x = 40 ∧ (k < 2 ∨ (8 ≤ k ∧ k ≤ 19) ∨ k = 25 ∨ k = 26)) ∨ (x = 45 ∧ 1508 ≤ k) ∨ (x = 48 ∧ 56 ≤ k)) μ ν3 := sm_tr (sm_tr (sm_tr sz (sm_mono s1 (by omega))) (sm_mono s2 (by omega))) (sm_mono s3 (by omega))
  have e8' : m_I ν3 (40, 0, 0) 8 = 0 := by rw [sm_I s3 (by omega), sm_I s2 (by omega), e1]
  have e0' : m_I ν3 (40, 0, 0) 0 = 0 := by rw [sm_I s3 (by omega), sm_I s2 (by omega), sm_I s1 (by omega), zz_0]
  refine e_bd (r_clauses (L + 1) m_F 0 0 0 0 c00 _ ν3 (by omega) (by have := F_gt; omega) ⟨hR3, t3, hB, hF, ZF_0.1, e25, by omega, z3⟩ k3 (by omega) ZF_0) ?_
  rintro - ν4 ⟨s4, b1, b2⟩
  have hR4 := sm_R s4 hR3
  have sb := sm_tr sa (sm_mono (K' := fun x _ _ k => (x = 40 ∧ (k < 2 ∨ (8 ≤ k ∧ k ≤ 19) ∨ k = 25 ∨ k = 26)) ∨ (x = 45 ∧ 1508 ≤ k) ∨ (x = 48 ∧ 56 ≤ k)) s4 (by unfold KG; omega))
  have f8 : m_I ν4 (40, 0, 0) 8 = 0 := by rw [sm_I s4 (by unfold KG; omega), e8']
  have f0 : m_I ν4 (40, 0, 0) 0 = 0 := by rw [sm_I s4 (by unfold KG; omega), e0']
  cases hr : gIt u L (L + 1) (0, (0, 0, 0, c00, fun k => m_J μ (48, 0, 0) (56 + k))) with
  | inl fl =>
    have hE := b2 fl hr
    rw [bd_of (r_isWellE hR4 hE), ap_ite, if_pos rfl]
    refine ⟨_, _, rfl, ?_, fun fl' q => ?_, fun p' s q => (by cases q)⟩
    · rw [I_row, ud_ne (by decide), I_row, ud_ne (by decide), I_row, ud_ne (by decide), f8]
    · cases q
      refine ⟨rfl, sm_sI (sm_sI (sm_sI sb _ (by omega)) _ (by omega)) _ (by omega), ?_, ?_, ?_⟩
      · rw [I_row, ud_at]
      · rw [I_row, ud_ne (by decide), I_row, ud_ne (by decide), I_row, ud_at]
      · rw [I_row, ud_ne (by decide), I_row, ud_at]
  | inr q =>
    obtain ⟨p', s⟩ := q
    obtain ⟨z4, f4, -⟩ := b1 p' s hr
    have hZ := gIt_Z (L + 1) (0, (0, 0, 0, c00, fun k => m_J μ (48, 0, 0) (56 + k))) (p', s) ZF_0 (Nat.zero_le L) hr
    have s5 : sm (fun x _ _ k => x = 40 ∧ (k = 10 ∨ k = 11)) ν4 (m_sI (m_sI ν4 (40, 0, 0) 10 0) (40, 0, 0) 11 (-1)) := sm_sI (sm_sI sm_rf _ (by omega)) _ (by omega)
    have g10 : m_I (m_sI (m_sI ν4 (40, 0, 0) 10 0) (40, 0, 0) 11 (-1)) (40, 0, 0) 10 = 0 := by rw [I_row, ud_ne (by decide), I_row, ud_at]
    have g11 : m_I (m_sI (m_sI ν4 (40, 0, 0) 10 0) (40, 0, 0) 11 (-1)) (40, 0, 0) 11 = -1 := by rw [I_row, ud_at]
    rw [bd_of (r_isWell0 hR4 z4), ap_ite, if_neg (by decide)]
    generalize m_sI (m_sI ν4 (40, 0, 0) 10 0) (40, 0, 0) 11 (-1) = ν5 at *
    have hR5 := sm_R s5 hR4
    refine e_bd (r_copy (a := 4) (b := 0) hR5 (by omega) (by omega) (by omega)) ?_
    rintro - ν6 ⟨s6, c1, c2⟩
    have hR6 := sm_R s6 hR5
    have e45 : ∀ k, k < 377 → m_I ν6 (45, 0, 0) k = s.2.2.2.1 k := fun k hk => by
      have := c1 k hk
      rw [Nat.mul_zero, Nat.zero_add] at this
      rw [this, sm_I s5 (by omega)]
      exact f4.1 k hk
    have e48 : ∀ k, k < 14 → m_J ν6 (48, 0, 0) k = s.2.2.2.2 k := fun k hk => by
      have := c2 k hk
      rw [Nat.mul_zero, Nat.zero_add] at this
      rw [this, sm_J s5 (by omega)]
      exact f4.2 k hk
    rw [r_g45 hR6, show (1 : Int32) = nI 1 from rfl, r_a45 hR6 (by omega), e45 1 (by omega), hZ.1.2.1]
    refine ⟨_, _, rfl, ?_, fun fl q => (by cases q), fun p'' s' q => ?_⟩
    · rw [sm_I s6 (by omega), sm_I s5 (by omega), f8]
    · cases q
      refine ⟨rfl, sm_tr (sm_mono sb (by omega)) (sm_tr (sm_mono s5 (by omega)) (sm_mono s6 (by omega))), ?_, ?_, ?_, e45, e48⟩
      · rw [sm_I s6 (by omega), sm_I s5 (by omega), f0]
      · rw [sm_I s6 (by omega), g10]
      · rw [sm_I s6 (by omega), g11]
        rfl
end CF
