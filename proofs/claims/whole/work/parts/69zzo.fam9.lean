/-! Part 69zzo: family answers alike -/
section CQ
variable {μ : mM} {made n P T : Nat} {fa pa : Nat → Nat}
set_option maxHeartbeats 200000 in
theorem call_family (h : Inv μ made n fa pa P T) (x : Int32) : Jn (fn_C_family (some (1, 0, 0)) x) (fn_M_family (some (40, 0, 0)) x) μ := by
  obtain ⟨⟨hp, hnm⟩, i2, i3, i4, i5, i6, i7, i8, i9, i10⟩ := id h
  have hC := (Inv_cur h).1
  have hR := Inv_ref h
  obtain ⟨f1, f2, f3, f4, f5, f6⟩ := ptr_facts hp
  obtain ⟨N, hN, a1, a8, ab⟩ := i5
  rcases num_cases x (N := N) (by omega) with hx | ⟨L, hLN, rfl⟩
  · refine call_q h (fun μ hR => r_pre hR _) 5 (-1) ?_ (fun ν hR e ez => ?_)
    · unfold fn_C_family
      rw [c_main_th hC]
      exact k_famSt hC a1 hx
    · have hst : fn_M_starts (some (40, 0, 0)) x 900 ν = some (0, m_sI ν (40, 0, 0) 0 5) := r_starts_no (mx := 900) hR (by rw [ez.2 8 (by omega), a8]) (by
        rcases hx with q | q
        · exact .inl q
        · exact .inr (.inl q))
      rw [bd_of hst, ap_ite, if_pos rfl]
      exact ⟨_, _, rfl, QR_st _ _⟩
  · have hB := Byt_of (B := m_I μ (6, 0, 0)) (L := L) (by omega) (fun k hk => by
      obtain ⟨q1, b, q2⟩ := ab k (by omega)
      exact ⟨b, q1.trans q2⟩)
    generalize hu : uB (m_I μ (6, 0, 0)) = u at hB
    refine e_mono (k_family hp a1 hN hLN rfl hB (fun k => m_J μ (48, 0, 0) (56 + k))) ?_
    rintro r μ1 ⟨μd, sd, d1, dE, dO⟩
    have hB' : Byt (m_I μd (44, 0, 0)) u L := Byt_c hB (fun k hk => by
      rw [sm_I sd (by omega)]
      exact (ab k (by omega)).1.symm)
    have hRd : RefP μd := sm_R sd hR
    have w0 : (fun k => m_J μ (48, 0, 0) (56 + k)) = fun k => m_J μd (48, 0, 0) (56 + k) := funext fun k => (sm_J sd (by omega)).symm
    rw [w0] at dE dO
    have sdK : sm (KK fa pa) μ μd := sm_mono sd (fun x y z k q => by
      rcases q with q | q | q | q
      · exact .inl q
      · exact .inr (.inl q)
      · exact .inr (.inr (.inl q))
      · exact .inr (.inr (.inr (.inl ⟨.inl q.1, .inr q.2⟩))))
    cases hr : gIt u L (L + 1) (0, (0, 0, 0, c00, fun k => m_J μd (48, 0, 0) (56 + k))) with
    | inl fl =>
      obtain ⟨rfl, rfl, st, hF⟩ := dE fl hr
      refine e_mono (r_family hRd (by rw [sm_I sd (by omega), a8]) hN hLN rfl hB') ?_
      rintro r' μ2 ⟨b8, bE, -⟩
      obtain ⟨rfl, s2, b0, b10, b11⟩ := bE fl hr
      refine ⟨rfl, made, n, fa, pa, P, T, Inv_e h (sm_tr sdK (sm_mono s2 (fun x y z k q => by
        rcases q with q | q | q
        · exact .inr (.inr (.inr (.inr (.inl q))))
        · exact .inr (.inr (.inr (.inr (.inr (.inl q)))))
        · exact .inr (.inr (.inr (.inr (.inr (.inr q)))))))) ?_ ?_ ?_⟩
      · show m_I μ2 (1, 0, 0) 0 = m_I μ2 (40, 0, 0) 0
        rw [b0, sm_I s2 (by omega), st]
      · refine ⟨0, by omega, ?_, b8, fun k hk => absurd hk (Nat.not_lt_zero k)⟩
        rw [sm_I s2 (by omega), d1]
        rfl
      · show m_I μ2 (5, 0, 0) 10 = m_I μ2 (40, 0, 0) 10 ∧ m_I μ2 (5, 0, 0) 11 = m_I μ2 (40, 0, 0) 11
        rw [b10, b11, sm_I s2 (by omega), sm_I s2 (by omega)]
        exact hF
    | inr q =>
      obtain ⟨p', s⟩ := q
      obtain ⟨P', T', M', c', w'⟩ := s
      obtain ⟨rfl, hμ1, st, e10, e11, eF, eg0, eg1⟩ := dO p' _ hr
      have hZ := gIt_Z (L + 1) (0, (0, 0, 0, c00, fun k => m_J μd (48, 0, 0) (56 + k))) (p', (P', T', M', c', w')) ZF_0 (Nat.zero_le L) hr
      obtain ⟨hD, hO, -, -, -, -, h105, -⟩ := id hZ
      generalize hμR : m_sR (m_sR μ (1, 0, 0) 5 (some (7, fa 1, 0))) (1, 0, 0) 6 (some (7, fa 0, 0)) = μR
      have s1 : sm (fun x y _ k => (x = 1 ∧ k = 0) ∨ (x = 5 ∧ 1 ≤ k) ∨ ((x = 7 ∨ x = 9 ∨ x = 10 ∨ x = 12) ∧ y = fa 1) ∨ (x = 13 ∧ y = pa 2)) μR μ1 := by
        rw [← hμR, hμ1]
        exact sm_sR (sm_sR sd _ _ _) _ _ _
      have hI1 : m_I μ1 = m_I μd := by rw [hμ1]; rfl
      have hJ1 : m_J μ1 = m_J μd := by rw [hμ1]; rfl
      have hIR : m_I μR = m_I μ := by rw [← hμR]; rfl
      have hJR : m_J μR = m_J μ := by rw [← hμR]; rfl
      have hNR : μR.1 = μ.1 := by rw [← hμR]; rfl
      have hRR : ∀ a k, m_R μR a k = if a = (1, 0, 0) ∧ k = 6 then some (7, fa 0, 0) else if a = (1, 0, 0) ∧ k = 5 then some (7, fa 1, 0) else m_R μ a k := fun a k => by rw [← hμR]; rfl
      have hp' : PtrQ μR.1 (m_R μR) made (fun j => fa (sw 0 1 j)) (fun j => if j = 0 then pa 0 else pa (sw 0 1 (j - 1) + 1)) := by
        obtain ⟨c1, c2, c3, c4, c5, c6, c7, c8, c9, c10, c11, c12, c13⟩ := id hp
        rw [hNR]
        refine PtrQ_swap hp (fun x y z k h1 h2 h3 _ => ?_) (by omega) (by omega) (fun f => ?_) ?_ ?_ ?_ (fun i hi => ?_) (fun i h1 h2 => ?_)
        · rw [hRR, if_neg, if_neg]
          · rintro ⟨w, rfl⟩
            cases w
            exact h1 ⟨rfl, by omega, by omega⟩
          · rintro ⟨w, rfl⟩
            cases w
            exact h1 ⟨rfl, by omega, by omega⟩
        · rw [hRR, if_neg (fun w => by cases w.1), if_neg (fun w => by cases w.1)]
        · rw [hRR, if_neg (fun w => by cases w.2), if_pos ⟨rfl, rfl⟩]
          rfl
        · rw [hRR, if_pos ⟨rfl, rfl⟩]
          rfl
        · rw [hRR, if_neg (fun w => by cases w.2), if_neg (fun w => by cases w.2)]
        · rw [hRR, if_neg (fun w => by cases w.1), if_neg (fun w => by cases w.1), c12 i hi]
          unfold sw
          rw [if_neg (by omega), if_neg (by omega)]
        · rw [hRR, if_neg (fun w => by cases w.1), if_neg (fun w => by cases w.1)]
          exact c13 i h1 h2
      have hR1 : RefP μ1 := sm_R s1 hp'.2.1
      refine e_mono (r_family hR1 (by rw [hI1, sm_I sd (by omega), a8]) hN hLN rfl (by rw [hI1]; exact hB')) ?_
      rintro r' μ2 ⟨b8, -, bO⟩
      obtain ⟨rfl, s2, b0, b10, b11, b45, b48⟩ := bO p' (P', T', M', c', w') (by rw [hJ1]; exact hr)
      have hs : sm (fun x y _ k => (x = 1 ∧ k = 0) ∨ (x = 5 ∧ 1 ≤ k) ∨ ((x = 7 ∨ x = 9 ∨ x = 10 ∨ x = 12) ∧ y = fa 1) ∨ (x = 13 ∧ y = pa 2) ∨ (x = 40 ∧ (k < 2 ∨ (8 ≤ k ∧ k ≤ 19) ∨ k = 25 ∨ k = 26)) ∨ (x = 45 ∧ (1508 ≤ k ∨ k < 377)) ∨ (x = 48 ∧ (56 ≤ k ∨ k < 14))) μR μ2 := sm_tr (sm_mono s1 (fun x y z k q => by
        rcases q with q | q | q | q
        · exact .inl q
        · exact .inr (.inl q)
        · exact .inr (.inr (.inl q))
        · exact .inr (.inr (.inr (.inl q))))) (sm_mono s2 (fun x y z k q => .inr (.inr (.inr (.inr q)))))
      have hsw : ∀ i, sw 0 1 (2 + i) = 2 + i := fun i => by
        unfold sw
        rw [if_neg (by omega), if_neg (by omega)]
      have hFI : ∀ {f P T : Nat} {c : Nat → Int32} {w : Nat → Int64}, FamI μ f c w P T → FamI μR f c w P T := fun q => by
        rw [FamI_iff] at q ⊢
        rw [hIR, hJR]
        exact q
      have hPI : ∀ {g P T : Nat} {c : Nat → Int32}, PlanI μ g c P T → PlanI μR g c P T := fun q => by
        unfold PlanI at q ⊢
        rw [hIR]
        exact q
      refine ⟨rfl, made, n, (fun j => fa (sw 0 1 j)), (fun j => if j = 0 then pa 0 else pa (sw 0 1 (j - 1) + 1)), P', T', ⟨ptr_sm ⟨hp', hnm⟩ hs, ?_, ?_, ?_, ?_, ?_, ?_, ?_, ?_, ?_⟩⟩
      · show m_I μ2 (1, 0, 0) 0 = m_I μ2 (40, 0, 0) 0
        rw [b0, sm_I s2 (by omega), hI1, st]
      · exact Fra_sm (μ := μR) (by unfold Fra; rw [hJR]; exact i3) hs (by omega) (by omega) (by omega) (by omega)
      · exact Tra_sm (μ := μR) (by unfold Tra; rw [hIR, hJR]; exact i4) hs (by omega) (by omega) (by omega)
      · refine ⟨0, by omega, ?_, b8, fun k hk => absurd hk (Nat.not_lt_zero k)⟩
        rw [sm_I s2 (by omega), hI1, d1]
        rfl
      · show m_I μ2 (5, 0, 0) 10 = m_I μ2 (40, 0, 0) 10 ∧ m_I μ2 (5, 0, 0) 11 = m_I μ2 (40, 0, 0) 11
        rw [b10, b11, sm_I s2 (by omega), sm_I s2 (by omega), hI1]
        exact ⟨e10, e11⟩
      · exact Liv_sm (μ := μR) (by unfold Liv; rw [hIR]; exact i7) hs (by omega) (by omega) (by omega) (by omega)
      · have hF1 : FamI μ1 (fa 1) c' w' P' T' := by
          rw [FamI_iff] at eF ⊢
          rw [hI1, hJ1]
          exact eF
        have hc' : ∀ k, k < 105 → cR μ2 k = c' k := fun k hk => b45 k (by omega)
        exact ⟨FamI_c (FamI_sm hF1 s2 (by omega)) hD.2.2.1 hD.2.2.2 hc' b48, Dim_c hc' hD, Okc_c hD.2.2.1 hD.2.2.2 hc' hO⟩
      · refine .inl ⟨?_, ?_, ?_⟩
        · show m_I μ2 (13, pa 2, 0) 0 = 0
          rw [sm_I s2 (by omega), hI1, eg0]
        · show m_I μ2 (45, 0, 0) 105 = 0
          rw [b45 105 (by omega)]
          exact h105 105 (by omega) (by omega)
        · show m_I μ2 (13, pa 2, 0) 1 = 0
          rw [sm_I s2 (by omega), hI1, eg1]
      · refine ⟨by rw [sm_I hs (by omega), hIR]; exact i10.1, by rw [sm_I hs (by omega), hIR]; exact i10.2.1, fun i hi => ?_⟩
        obtain ⟨P2, T2, k1, k2, k3, k4⟩ := i10.2.2 i (by omega)
        have hm3 := hp.2.2.1
        have g6 := f6 i (by omega)
        have hc : ∀ k, k < 377 → cB (cR μ2) (i + 1) k = cB (cR μ) (i + 1) k := fun k hk => by
          show m_I _ (45, 0, 0) (377 * (i + 1) + k) = m_I μ (45, 0, 0) (377 * (i + 1) + k)
          rw [sm_I hs (by omega), hIR]
        have hw : ∀ k, k < 14 → wB (wR μ2) (i + 1) k = wB (wR μ) (i + 1) k := fun k hk => by
          show m_J _ (48, 0, 0) (14 * (i + 1) + k) = m_J μ (48, 0, 0) (14 * (i + 1) + k)
          rw [sm_J hs (by omega), hJR]
        have hc' : ∀ k, k < 105 → cB (cR μ2) (i + 1) k = cB (cR μ) (i + 1) k := fun k hk => hc k (by omega)
        refine ⟨P2, T2, ?_, Dim_c hc' k2, Okc_c k2.2.2.1 k2.2.2.2 hc' k3, ?_⟩
        · simp only [hsw i]
          exact FamI_c (FamI_sm (hFI k1) hs (by omega)) k2.2.2.1 k2.2.2.2 hc' hw
        · have e1 : (if 3 + i = 0 then pa 0 else pa (sw 0 1 (3 + i - 1) + 1)) = pa (3 + i) := by
            rw [if_neg (by omega), show 3 + i - 1 = 2 + i by omega, hsw i]
            congr 1
            omega
          simp only [e1]
          exact PlanI_c (fun k _ hk => hc k hk) (PlanI_sm (hPI k4) hs (by omega) (by omega))
end CQ
