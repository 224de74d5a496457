/-! Part 69zzzd: years answers alike -/
section CZ
variable {μ : mM} {made n P T : Nat} {fa pa : Nat → Nat}
set_option maxHeartbeats 200000 in
theorem sw01 {j : Nat} (h : 2 ≤ j) : sw 0 1 j = j := by
  unfold sw
  rw [if_neg (by omega), if_neg (by omega)]
set_option maxHeartbeats 200000 in
theorem call_years (h : Inv μ made n fa pa P T) (x : Int32) : Jn (fn_C_years (some (1, 0, 0)) x) (fn_M_years (some (40, 0, 0)) x) μ := by
  obtain ⟨⟨hp, hnm⟩, i2, i3, i4, i5, i6, i7, i8, i9, i10⟩ := id h
  have hC := (Inv_cur h).1
  have hR := Inv_ref h
  obtain ⟨f1, f2, f3, f4, f5, f6⟩ := ptr_facts hp
  obtain ⟨N, hN, a1, a8, ab⟩ := i5
  have hst : (x < 0 ∨ nI N < x ∨ 300 < x) ∨ ∃ L, L ≤ N ∧ L ≤ 300 ∧ x = nI L := by
    rcases num_cases x (N := N) (by omega) with hx | ⟨L, hLN, rfl⟩
    · rcases hx with q | q
      · exact .inl (.inl q)
      · exact .inl (.inr (.inl q))
    · by_cases z : L ≤ 300
      · exact .inr ⟨L, hLN, z, rfl⟩
      · exact .inl (.inr (.inr (nI_lt (a := 300) (by omega) (by omega))))
  rcases hst with hx | ⟨L, hLN, hL3, rfl⟩
  · refine call_q h (fun μ hR => r_pre hR _) 5 (-1) ?_ (fun ν hR e ez => ?_)
    · have fin : ∀ {K : mP Int32}, m_e (m_bd (m_pI 0 0 (some (1, 0, 0)) 5) (fun _ => m_bd (m_gI 0 0 (some (1, 0, 0))) fun v4 => if v4 = 0 then K else m_rt (-1)) μ) (QC fa pa μ 5 (-1 : Int32)) := fun {K} => by
        rw [c_main_pI hC, c_main_gI (show ClsP (m_sI μ (1, 0, 0) 0 5) from hC), I_row, ud_at, ap_ite, if_neg (by decide)]
        exact ⟨_, _, rfl, QC_st _ _⟩
      unfold fn_C_years
      rw [c_main_th hC, bd_ite]
      by_cases z : x < 0
      · rw [if_pos z, bd_rt]
        exact fin
      · rw [if_neg z, bd_bd, c_main_r4 hC, bd_bd, c_text_gI hC, a1, bd_ite]
        by_cases y : nI N < x
        · rw [if_pos y, bd_rt]
          exact fin
        · rw [if_neg y, bd_ite, if_neg (Int32.not_le.mpr ((hx.resolve_left z).resolve_left y)), bd_rt]
          exact fin
    · have hst : fn_M_starts (some (40, 0, 0)) x 300 ν = some (0, m_sI ν (40, 0, 0) 0 5) := r_starts_no (mx := 300) hR (by rw [ez.2 8 (by omega), a8]) hx
      rw [bd_of hst, ap_ite, if_pos rfl]
      exact ⟨_, _, rfl, QR_st _ _⟩
  · have hB := Byt_of (B := m_I μ (6, 0, 0)) (L := L) (by omega) (fun k hk => by
      obtain ⟨q1, b, q2⟩ := ab k (by omega)
      exact ⟨b, q1.trans q2⟩)
    generalize hu : uB (m_I μ (6, 0, 0)) = u at hB
    obtain ⟨hF, hD, hO⟩ := id i8
    have hNm : NmC μ (fa 0) (wR μ) P T := ⟨fi_P hF hD, fi_T hF hD, hD.2.2.1, hD.2.2.2, fun i hi => fi_pn hF hi, fun i hi => fi_tn hF hi⟩
    refine e_mono (k_years hp a1 hN hLN hL3 rfl hB hNm) ?_
    rintro r μ1 ⟨μd, sd, d1, dE, dO⟩
    have hRd : RefP μd := sm_R sd hR
    have hB' : Byt (m_I μd (44, 0, 0)) u L := Byt_c hB (fun k hk => by
      rw [sm_I sd (by unfold KYr; omega)]
      exact (ab k (by omega)).1.symm)
    have sdK : sm (KK fa pa) μ μd := sm_mono sd (fun x y z k q => by
      rcases q with q | q | q
      · exact .inl q
      · exact .inr (.inl q)
      · exact .inr (.inr (.inr (.inl ⟨q.1, .inl q.2⟩))))
    have m1 : m_I μd (45, 0, 0) 0 = nI P := by rw [sm_I sd (by unfold KYr; omega)]; exact hD.1
    have m2 : m_I μd (45, 0, 0) 1 = nI T := by rw [sm_I sd (by unfold KYr; omega)]; exact hD.2.1
    have m3 : ∀ i, i < P → m_J μd (48, 0, 0) i = wR μ i := fun i hi => sm_J sd (by unfold KYr; omega)
    have m4 : ∀ i, i < T → m_J μd (48, 0, 0) (6 + i) = wT (wR μ) i := fun i hi => sm_J sd (by unfold KYr; omega)
    have m5 : m_I μd (40, 0, 0) 8 = nI N := by rw [sm_I sd (by unfold KYr; omega), a8]
    cases hr : yIt u L (wR μ) P T (L + 1) (0, y00) with
    | inl fl =>
      obtain ⟨rfl, rfl, st, hFt⟩ := dE fl hr
      refine e_mono (r_years hRd m5 hN hLN hL3 rfl hB' m1 m2 hD.2.2.1 hD.2.2.2 m3 m4) ?_
      rintro r' μ2 ⟨b8, bE, -⟩
      obtain ⟨rfl, s2, b0, b10, b11⟩ := bE fl hr
      refine ⟨rfl, made, n, fa, pa, P, T, Inv_e h (sm_tr sdK (sm_mono s2 (fun x y z k q => by
        rcases q with q | q
        · exact .inr (.inr (.inr (.inr (.inl ⟨q.1, q.2.elim .inl (fun q => q.elim (fun q => .inr (.inl q)) (fun q => .inr (.inr (.inr q))))⟩))))
        · exact .inr (.inr (.inr (.inr (.inr (.inl ⟨q.1, by omega⟩)))))))) ?_ ?_ ?_⟩
      · show m_I μ2 (1, 0, 0) 0 = m_I μ2 (40, 0, 0) 0
        rw [b0, sm_I s2 (by omega), st]
      · refine ⟨0, by omega, ?_, b8, fun k hk => absurd hk (Nat.not_lt_zero k)⟩
        rw [sm_I s2 (by omega), d1]
        rfl
      · show m_I μ2 (5, 0, 0) 10 = m_I μ2 (40, 0, 0) 10 ∧ m_I μ2 (5, 0, 0) 11 = m_I μ2 (40, 0, 0) 11
        rw [b10, b11, sm_I s2 (by omega), sm_I s2 (by omega)]
        exact hFt
    | inr q =>
      obtain ⟨p', y'⟩ := q
      obtain ⟨rfl, hμ1, st, e10, e11, eC, eo, et⟩ := dO (p', y') hr
      have hJ' := yIt_J hD.2.2.1 hD.2.2.2 (L + 1) (0, y00) (p', y') (Nat.zero_le L) YI_0 YJ_0 hr
      generalize hμR : m_sR (m_sR μ (7, fa 0, 0) 9 (some (13, pa 0, 0))) (1, 0, 0) 7 (some (13, pa 1, 0)) = μR
      have s1 : sm (KYr fa pa) μR μ1 := by
        rw [← hμR, hμ1]
        exact sm_sR (sm_sR sd _ _ _) _ _ _
      have hI1 : m_I μ1 = m_I μd := by rw [hμ1]; rfl
      have hJ1 : m_J μ1 = m_J μd := by rw [hμ1]; rfl
      have hIR : m_I μR = m_I μ := by rw [← hμR]; rfl
      have hJR : m_J μR = m_J μ := by rw [← hμR]; rfl
      have hNR : μR.1 = μ.1 := by rw [← hμR]; rfl
      have hRR : ∀ a k, m_R μR a k = if a = (1, 0, 0) ∧ k = 7 then some (13, pa 1, 0) else if a = (7, fa 0, 0) ∧ k = 9 then some (13, pa 0, 0) else m_R μ a k := fun a k => by rw [← hμR]; rfl
      have hp' : PtrQ μR.1 (m_R μR) made fa (fun j => pa (sw 0 1 j)) := by
        rw [hNR]
        refine PtrQ_swp hp (fun x y z k h1 h2 h3 _ => ?_) ?_ (fun f hf => ?_) ?_ ?_ ?_ (fun i => ?_)
        · rw [hRR, if_neg, if_neg]
          · rintro ⟨w, rfl⟩
            cases w
            exact h3 ⟨rfl, rfl⟩
          · rintro ⟨w, rfl⟩
            cases w
            exact h1 ⟨rfl, by omega, by omega⟩
        · rw [hRR, if_neg (fun w => by cases w.2), if_pos ⟨rfl, rfl⟩]
        · rw [hRR, if_neg (fun w => by cases w.2), if_neg (fun w => by
            have := w.1
            cases this
            exact hf rfl)]
        · rw [hRR, if_neg (fun w => by cases w.2), if_neg (fun w => by cases w.2)]
        · rw [hRR, if_neg (fun w => by cases w.2), if_neg (fun w => by cases w.2)]
        · rw [hRR, if_pos ⟨rfl, rfl⟩]
        · rw [hRR, if_neg (fun w => by cases w.1), if_neg (fun w => by cases w.1)]
      have hR1 : RefP μ1 := sm_R s1 hp'.2.1
      refine e_mono (r_years (μ := μ1) hR1 (by rw [hI1]; exact m5) hN hLN hL3 rfl (by rw [hI1]; exact hB') (by rw [hI1]; exact m1) (by rw [hI1]; exact m2) hD.2.2.1 hD.2.2.2 (by rw [hJ1]; exact m3) (by rw [hJ1]; exact m4)) ?_
      rintro r' μ2 ⟨b8, -, bO⟩
      obtain ⟨rfl, s2, b0, b10, b11, b105, b106, hI', hG', ν, hRY, hcp⟩ := bO p' y' hr
      have hs : sm (fun x y _ k => (x = 1 ∧ k = 0) ∨ (x = 5 ∧ 1 ≤ k) ∨ ((x = 13 ∨ x = 14) ∧ y = pa 0) ∨ (x = 40 ∧ (k < 2 ∨ (8 ≤ k ∧ k ≤ 19) ∨ k = 26)) ∨ (x = 45 ∧ (1615 ≤ k ∨ (105 ≤ k ∧ k < 377)))) μR μ2 := sm_tr (sm_mono s1 (fun x y z k q => by
        rcases q with q | q | q
        · exact .inl q
        · exact .inr (.inl q)
        · exact .inr (.inr (.inl q)))) (sm_mono s2 (fun x y z k q => .inr (.inr (.inr q))))
      have hFI : ∀ {f P T : Nat} {c : Nat → Int32} {w : Nat → Int64}, FamI μ f c w P T → FamI μR f c w P T := fun q => by
        rw [FamI_iff] at q ⊢
        rw [hIR, hJR]
        exact q
      have hPI : ∀ {g P T : Nat} {c : Nat → Int32}, PlanI μ g c P T → PlanI μR g c P T := fun q => by
        unfold PlanI at q ⊢
        rw [hIR]
        exact q
      refine ⟨rfl, made, n, fa, (fun j => pa (sw 0 1 j)), P, T, ⟨ptr_sm ⟨hp', hnm⟩ hs, ?_, ?_, ?_, ?_, ?_, ?_, ?_, ?_, ?_⟩⟩
      · show m_I μ2 (1, 0, 0) 0 = m_I μ2 (40, 0, 0) 0
        rw [b0, sm_I s2 (by omega), hI1, st]
      · exact Fra_sm (μ := μR) (by unfold Fra; rw [hJR]; exact i3) hs (by omega) (by omega) (by omega) (by omega)
      · exact Tra_sm (μ := μR) (by unfold Tra; rw [hIR, hJR]; exact i4) hs (by omega) (by omega) (by omega)
      · refine ⟨0, by omega, ?_, b8, fun k hk => absurd hk (Nat.not_lt_zero k)⟩
        rw [sm_I s2 (by omega), hI1, d1]
        rfl
      · show m_I μ2 (5, 0, 0) 10 = m_I μ2 (40, 0, 0) 10 ∧ m_I μ2 (5, 0, 0) 11 = m_I μ2 (40, 0, 0) 11
        rw [b10, b11, sm_I s2 (by omega), sm_I s2 (by omega), hI1]
        exact ⟨e10, e11⟩
      · exact Liv_sm (μ := μR) (by unfold Liv; rw [hIR]; exact i7) hs (by omega) (by omega) (by omega) (by omega)
      · have hc' : ∀ k, k < 105 → cR μ2 k = cR μ k := fun k hk => by
          show m_I μ2 (45, 0, 0) k = m_I μ (45, 0, 0) k
          rw [sm_I hs (by omega), hIR]
        have hw' : ∀ k, k < 14 → wR μ2 k = wR μ k := fun k hk => by
          show m_J μ2 (48, 0, 0) k = m_J μ (48, 0, 0) k
          rw [sm_J hs (by omega), hJR]
        exact ⟨FamI_c (FamI_sm (hFI hF) hs (by omega)) hD.2.2.1 hD.2.2.2 hc' hw', Dim_c hc' hD, Okc_c hD.2.2.1 hD.2.2.2 hc' hO⟩
      · have e1 : sw 0 1 1 = 0 := rfl
        simp only [e1]
        have hC2 : CY μ2 (pa 0) y' := by
          have : CY μ1 (pa 0) y' := by
            obtain ⟨c1, c2, c3⟩ := eC
            refine ⟨by rw [hI1]; exact c1, fun i hi => ?_, fun i hi => by rw [hI1]; exact c3 i hi⟩
            have := c2 i hi
            unfold ClS at this ⊢
            rw [hI1]
            exact this
          exact CY_sm this s2 (by omega) (by omega)
        refine PlanI_of (y := y') ?_ hC2 b105 b106 (fun i hi => ⟨ν, hRY.2.1 i hi, hRY.2.2 i hi (by
          rw [show y'.2.2.2 = [] from eo]
          exact List.not_mem_nil), fun j hj => ?_⟩) hI' hJ' eo ?_
        · rw [sm_I s2 (by omega), hI1, et]
        · show m_I μ2 (45, 0, 0) (107 + 9 * i + j) = _
          have := hcp (9 * i + j) (by omega)
          rw [show 107 + 9 * i + j = 107 + (9 * i + j) by omega, this]
          congr 1
          omega
        · obtain ⟨g1, g2, g3, g4⟩ := hG'
          exact g4
      · refine ⟨by rw [sm_I hs (by omega), hIR]; exact i10.1, by rw [sm_I hs (by omega), hIR]; exact i10.2.1, fun i hi => ?_⟩
        obtain ⟨P2, T2, k1, k2, k3, k4⟩ := i10.2.2 i (by omega)
        have hm3 := hp.2.2.1
        have g6 := f6 i (by omega)
        have hc : ∀ k, k < 377 → cB (cR μ2) (i + 1) k = cB (cR μ) (i + 1) k := fun k hk => by
          show m_I _ (45, 0, 0) (377 * (i + 1) + k) = m_I μ (45, 0, 0) (377 * (i + 1) + k)
          rw [sm_I hs (by omega), hIR]
        have hw : ∀ k, k < 14 → wB (wR μ2) (i + 1) k = wB (wR μ) (i + 1) k := fun k hk => by
          show m_J _ (48, 0, 0) (14 * (i + 1) + k) = m_J μ (48, 0, 0) (14 * (i + 1) + k)
          rw [sm_J hs (by omega), hJR]
        have hc' : ∀ k, k < 105 → cB (cR μ2) (i + 1) k = cB (cR μ) (i + 1) k := fun k hk => hc k (by omega)
        refine ⟨P2, T2, FamI_c (FamI_sm (hFI k1) hs (by omega)) k2.2.2.1 k2.2.2.2 hc' hw, Dim_c hc' k2, Okc_c k2.2.2.1 k2.2.2.2 hc' k3, ?_⟩
        simp only [sw01 (show 2 ≤ 3 + i by omega)]
        exact PlanI_c (fun k _ hk => hc k hk) (PlanI_sm (hPI k4) hs (by omega) (by omega))
end CZ
