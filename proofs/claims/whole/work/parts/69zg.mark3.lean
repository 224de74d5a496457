/-! Part 69zg: mark: the call -/
/-- the invariant but for the status -/
def InvN (μ : mM) (made n : Nat) (fa pa : Nat → Nat) (P T : Nat) : Prop :=
  (PtrQ μ.1 (m_R μ) made fa pa ∧ n ≤ made) ∧ Fra μ ∧ Tra μ ∧ Tap μ ∧ Fau μ ∧ Liv μ ∧ FamV μ (fa 0) P T ∧ PlanI μ (pa 1) (cR μ) P T ∧ Mrk μ n fa pa
/-- the end of the class's mark -/
def sfxM : mP Int32 := m_bd (m_gR 0 8 (some (1, 0, 0))) fun v6 => m_bd (m_gI 0 9 (some (1, 0, 0))) fun v7 => m_bd (m_aR 5 v6 v7) fun v8 => m_bd (m_gR 0 5 (some (1, 0, 0))) fun v9 => m_bd (fn_Fa_copyPeopleAndThings v8 v9) fun _ => m_bd (m_gR 0 8 (some (1, 0, 0))) fun v10 => m_bd (m_gI 0 9 (some (1, 0, 0))) fun v11 => m_bd (m_aR 5 v10 v11) fun v12 => m_bd (m_gR 3 9 v12) fun v13 => m_bd (m_gR 0 5 (some (1, 0, 0))) fun v14 => m_bd (m_gR 3 9 v14) fun v15 => m_bd (fn_Pl_copyFrom v13 v15) fun _ => m_bd (m_gI 0 9 (some (1, 0, 0))) fun v16 => m_bd (m_pI 0 9 (some (1, 0, 0)) (v16 + 1)) fun _ => m_bd (m_gI 0 9 (some (1, 0, 0))) fun v17 => m_rt v17
section CM
variable {μ : mM} {made n P T : Nat} {fa pa : Nat → Nat}
set_option maxHeartbeats 200000 in
theorem k_markEnd {f g a b : Nat} {c : Nat → Int32} {w : Nat → Int64} (hC : ClsP μ) (hF : FamP μ f) (hG : FamP μ g) (hA : PlanP μ a) (hB : PlanP μ b) (h5 : m_R μ (1, 0, 0) 5 = some (7, f, 0)) (h16 : m_R μ (16, 0, 0) n = some (7, g, 0)) (hf9 : m_R μ (7, f, 0) 9 = some (13, a, 0)) (hg9 : m_R μ (7, g, 0) 9 = some (13, b, 0)) (hfg : f ≠ g) (hab : a ≠ b) (h9 : m_I μ (1, 0, 0) 9 = nI n) (hn : n < 3) (hI : FamI μ f c w P T) (hD : Dim c P T) (hO : Okc c P T) (hL : PlanI μ a c P T) : m_e (sfxM μ) (fun v μ' => v = nI (n + 1) ∧ sm (fun x y _ k => (x = 1 ∧ k = 9) ∨ (((x = 7 ∧ k < 7) ∨ x = 9 ∨ x = 10 ∨ x = 12) ∧ y = g) ∨ (((x = 13 ∧ k < 2) ∨ x = 14) ∧ y = b)) μ μ' ∧ m_I μ' (1, 0, 0) 9 = nI (n + 1) ∧ FamI μ' g c w P T ∧ PlanI μ' b c P T) := by
  unfold sfxM
  rw [c_main_r8 hC, c_main_gI hC, h9, c_mkd_a hC hn, h16, c_main_R5 hC, h5]
  refine e_bd (k_copyPT hF hG hfg hI hD hO) ?_
  rintro - μ1 ⟨b1, b2⟩
  have hC1 := sm_C b1 hC
  rw [c_main_r8 hC1, c_main_gI hC1, sm_I b1 (by omega), h9, c_mkd_a hC1 hn, b1.2.1, h16, c_fam_R9 (sm_F b1 hG), b1.2.1, hg9, c_main_R5 hC1, b1.2.1, h5, c_fam_R9 (sm_F b1 hF), b1.2.1, hf9]
  refine e_bd (k_copyPl (sm_P b1 hA) (sm_P b1 hB) hab (PlanI_sm hL b1 (by omega) (by omega))) ?_
  rintro - μ2 ⟨d1, d2⟩
  have hC2 := sm_C d1 hC1
  rw [c_main_gI hC2, sm_I d1 (by omega), sm_I b1 (by omega), h9, c_main_pI hC2, nI_1, c_main_gI (show ClsP (m_sI μ2 (1, 0, 0) 9 (nI (n + 1))) from hC2), I_row, ud_at]
  have s3 : sm (fun x _ _ k => x = 1 ∧ k = 9) μ2 (m_sI μ2 (1, 0, 0) 9 (nI (n + 1))) := sm_sI sm_rf _ ⟨rfl, rfl⟩
  exact ⟨_, _, rfl, rfl, sm_tr (sm_mono b1 (by omega)) (sm_tr (sm_mono d1 (by omega)) (sm_mono s3 (by omega))), by rw [I_row, ud_at], FamI_sm (FamI_sm b2 d1 (by omega)) s3 (by omega), PlanI_sm d2 s3 (by omega) (by omega)⟩
set_option maxHeartbeats 1600000 in
theorem mark_fin (h : InvN μ made n fa pa P T) (hnm : n < made) (h0 : m_I μ (1, 0, 0) 0 = 0) : m_e (sfxM μ) (fun b μ1 => m_e (fn_M_mark (some (40, 0, 0)) μ1) (fun b' μ2 => b = b' ∧ OK μ2)) := by
  obtain ⟨⟨hp, -⟩, i3, i4, i5, i6, i7, i8, i9, i10⟩ := id h
  obtain ⟨f1, f2, f3, f4, f5, f6⟩ := ptr_facts hp
  have hm3 := hp.2.2.1
  obtain ⟨c1, c2, c3, c4, c5, c6, c7, c8, c9, c10, c11, c12, c13⟩ := id hp
  have hd0 := c5 0 (by omega)
  have hd2 := c5 (2 + n) (by omega)
  have hn3 : n < 3 := by omega
  have h6n := f6 n hnm
  obtain ⟨hI, hD, hO⟩ := i8
  obtain ⟨hP0, hT0, hP6, hT8⟩ := id hD
  have hpn : 2 + n + 1 = 3 + n := by omega
  rw [hpn] at hd2
  refine e_mono (k_markEnd c1 hd0.2.1 hd2.2.1 hd0.2.2.2 hd2.2.2.2 c8 (c12 n hnm) hd0.2.2.1 hd2.2.2.1 (fun q => h6n.2.1 q.symm) (fun q => h6n.2.2.2.2.1 q.symm) i10.1 hn3 hI hD hO i9) ?_
  rintro _ μ1 ⟨rfl, b1, b2, b3, b4⟩
  have hR1 : RefP μ1 := sm_R b1 c2
  have hz : sm (fun x _ _ k => x = 40 ∧ k < 2) μ1 (zz μ1) := sm_sI (sm_sI sm_rf _ (by omega)) _ (by omega)
  have hRz : RefP (zz μ1) := hR1
  have e24 : m_I (zz μ1) (40, 0, 0) 24 = nI n := by rw [zz_f (by decide) (by decide), sm_I b1 (by omega)]; exact i10.2.1
  have hne3 : ¬ nI n = 3 := fun q => by
    have := (nI_eq (show n < 2 ^ 31 by omega) (show 3 < 2 ^ 31 by decide)).mp q
    omega
  unfold fn_M_mark
  rw [r_pre hR1, r_gI hRz, e24, ap_ite, if_neg hne3, r_gI hRz, e24, r_pI hRz, nI_1, r_gI (show RefP (m_sI (zz μ1) (40, 0, 0) 24 (nI (n + 1))) from hRz), I_row, ud_at]
  have s3 : sm (fun x _ _ k => x = 40 ∧ k = 24) (zz μ1) (m_sI (zz μ1) (40, 0, 0) 24 (nI (n + 1))) := sm_sI sm_rf _ ⟨rfl, rfl⟩
  refine e_bd (r_copy (ν := m_sI (zz μ1) (40, 0, 0) 24 (nI (n + 1))) (a := 0) (b := n + 1) hRz (by omega) (by omega) (by omega)) ?_
  rintro - μ2 ⟨d1, d2, d3⟩
  have hR2 : RefP μ2 := sm_R d1 (show RefP (m_sI (zz μ1) (40, 0, 0) 24 (nI (n + 1))) from hRz)
  have e2 : m_I μ2 (40, 0, 0) 24 = nI (n + 1) := by rw [sm_I d1 (by omega), I_row, ud_at]
  rw [r_gI hR2, e2]
  have hzs : sm (fun x _ _ k => (x = 40 ∧ (k < 2 ∨ k = 24)) ∨ (x = 45 ∧ 377 * (n + 1) ≤ k ∧ k < 377 * (n + 1) + 377) ∨ (x = 48 ∧ 14 * (n + 1) ≤ k ∧ k < 14 * (n + 1) + 14)) μ1 μ2 := sm_tr (sm_mono hz (by omega)) (sm_tr (sm_mono s3 (by omega)) (sm_mono d1 (by omega)))
  have hs : sm (fun x y _ k => (x = 1 ∧ k = 9) ∨ (((x = 7 ∧ k < 7) ∨ x = 9 ∨ x = 10 ∨ x = 12) ∧ y = fa (2 + n)) ∨ (((x = 13 ∧ k < 2) ∨ x = 14) ∧ y = pa (3 + n)) ∨ (x = 40 ∧ (k < 2 ∨ k = 24)) ∨ (x = 45 ∧ 377 * (n + 1) ≤ k ∧ k < 377 * (n + 1) + 377) ∨ (x = 48 ∧ 14 * (n + 1) ≤ k ∧ k < 14 * (n + 1) + 14)) μ μ2 := sm_tr (sm_mono b1 (by omega)) (sm_mono hzs (by omega))
  have hcB : ∀ k, k < 377 → cB (cR μ2) (n + 1) k = cR μ k := fun k hk => by
    show m_I μ2 (45, 0, 0) (377 * (n + 1) + k) = m_I μ (45, 0, 0) k
    rw [d2 k hk, Nat.mul_zero, Nat.zero_add, I_ne _ rfl, zz_I rfl, sm_I b1 (by omega)]
  have hwB : ∀ k, k < 14 → wB (wR μ2) (n + 1) k = wR μ k := fun k hk => by
    show m_J μ2 (48, 0, 0) (14 * (n + 1) + k) = m_J μ (48, 0, 0) k
    rw [d3 k hk, Nat.mul_zero, Nat.zero_add, J_sI, zz_J, sm_J b1 (by omega)]
  have hfi : ∀ i, i < n → fa (2 + i) ≠ fa (2 + n) := fun i hi q => by
    have := c6 (2 + i) (2 + n) (by omega) (by omega) q
    omega
  have hpi : ∀ i, i < n → pa (3 + i) ≠ pa (3 + n) := fun i hi q => by
    have := c7 (3 + i) (3 + n) (by omega) (by omega) q
    omega
  refine ⟨_, _, rfl, rfl, made, n + 1, fa, pa, P, T, ptr_sm ⟨hp, hnm⟩ hs, ?_, ?_, ?_, ?_, ?_, ?_, ?_, ?_, ?_⟩
  · show m_I μ2 (1, 0, 0) 0 = m_I μ2 (40, 0, 0) 0
    rw [sm_I hs (by omega), h0, sm_I d1 (by omega), I_row, ud_ne (by decide)]
    exact zz_0.symm
  · exact Fra_sm i3 hs (by omega) (by omega) (by omega) (by omega)
  · exact Tra_sm i4 hs (by omega) (by omega) (by omega)
  · exact Tap_sm i5 hs (by omega) (by omega) (by omega) (by omega)
  · exact Fau_sm i6 hs (by omega) (by omega) (by omega) (by omega)
  · exact Liv_sm i7 hs (by omega) (by omega) (by omega) (by omega)
  · have hne : fa 0 ≠ fa (2 + n) := fun q => h6n.2.1 q.symm
    exact FamV_sm ⟨hI, hD, hO⟩ hs (by omega) (by omega) (by omega)
  · have hne : pa 1 ≠ pa (3 + n) := fun q => h6n.2.2.2.2.1 q.symm
    exact PlanI_c (fun k _ hk => sm_I hs (by omega)) (PlanI_sm i9 hs (by omega) (by omega))
  · refine ⟨by rw [sm_I hzs (by omega), b2], e2, fun i hi => ?_⟩
    by_cases z : i = n
    · subst z
      have hcB' : ∀ k, k < 105 → cB (cR μ2) (i + 1) k = cR μ k := fun k hk => hcB k (by omega)
      exact ⟨P, T, FamI_c (FamI_sm b3 hzs (by omega)) hP6 hT8 hcB' hwB, Dim_c hcB' hD, Okc_c hP6 hT8 hcB' hO, PlanI_c (fun k _ hk => hcB k hk) (PlanI_sm b4 hzs (by omega) (by omega))⟩
    · obtain ⟨P2, T2, k1, k2, k3, k4⟩ := i10.2.2 i (by omega)
      have g1 := hfi i (by omega)
      have g2 := hpi i (by omega)
      have hc : ∀ k, k < 377 → cB (cR μ2) (i + 1) k = cB (cR μ) (i + 1) k := fun k hk => sm_I hs (by omega)
      have hc' : ∀ k, k < 105 → cB (cR μ2) (i + 1) k = cB (cR μ) (i + 1) k := fun k hk => hc k (by omega)
      exact ⟨P2, T2, FamI_c (FamI_sm k1 hs (by omega)) k2.2.2.1 k2.2.2.2 hc' (fun k hk => sm_J hs (by omega)), Dim_c hc' k2, Okc_c k2.2.2.1 k2.2.2.2 hc' k3, PlanI_c (fun k _ hk => hc k hk) (PlanI_sm k4 hs (by omega) (by omega))⟩
set_option maxHeartbeats 200000 in
/-- a new family is there -/
theorem inv_new {μ' : mM} (h : InvN μ made made fa pa P T) (hm : made < 3) (hN : NewF (made + 2) (129 + 31 * made) μ μ') : InvN (m_sR μ' (16, 0, 0) made (some (7, made + 2, 0))) (made + 1) made (fun j => if j = made + 2 then made + 2 else fa j) (fun j => if j = made + 3 then made + 2 else pa j) P T := by
  obtain ⟨⟨hp, -⟩, i3, i4, i5, i6, i7, i8, i9, i10⟩ := id h
  obtain ⟨f1, f2, f3, f4, f5, f6⟩ := ptr_facts hp
  obtain ⟨c1, c2, c3, c4, c5, c6, c7, c8, c9, c10, c11, c12, c13⟩ := id hp
  obtain ⟨n1, n2, n3, n4, n5⟩ := hN
  have hR' : ∀ a k, m_R (m_sR μ' (16, 0, 0) made (some (7, made + 2, 0))) a k = if a = (16, 0, 0) ∧ k = made then some (7, made + 2, 0) else m_R μ' a k := fun a k => rfl
  generalize hμ2 : m_sR μ' (16, 0, 0) made (some (7, made + 2, 0)) = μ2 at *
  have hI2 : m_I μ2 = m_I μ' := by rw [← hμ2]; rfl
  have hJ2 : m_J μ2 = m_J μ' := by rw [← hμ2]; rfl
  have hN2 : μ2.1 = 129 + 31 * (made + 1) := by rw [← hμ2]; show μ'.1 = _; omega
  -- the same ints and longs, the old cells and references
  generalize hY : ((μ.1, m_I μ2, m_J μ2, m_R μ) : mM) = Y
  have yI : m_I Y = m_I μ2 := by rw [← hY]; rfl
  have yJ : m_J Y = m_J μ2 := by rw [← hY]; rfl
  have hs : sm (fun x y _ _ => 7 ≤ x ∧ x ≤ 15 ∧ y = made + 2) μ Y := by
    refine ⟨by rw [← hY], by rw [← hY]; rfl, fun x y z k hn => ?_⟩
    rw [yI, yJ, hI2, hJ2]
    exact ⟨(n2 x y z k hn).1, (n2 x y z k hn).2.1⟩
  have hfa : ∀ j, j < made + 2 → fa j ≠ made + 2 := fun j hj q => by have := (c5 j hj).1; omega
  have hpl : ∀ g, planR μ.1 (m_R μ) g → g ≠ made + 2 := fun g q w => by
    have h2 := q.2.1
    rw [w, c4] at h2
    obtain rfl | rfl | rfl : made = 0 ∨ made = 1 ∨ made = 2 := by omega
    · exact absurd h2 (by decide)
    · exact absurd h2 (by decide)
    · exact absurd h2 (by decide)
  have hpa : ∀ j, j < made + 3 → pa j ≠ made + 2 := fun j hj => by
    cases j with
    | zero => exact hpl _ c11
    | succ j => exact hpl _ (c5 j (by omega)).2.2.2
  have hNl : μ.1 ≤ 129 + 31 * (made + 1) := by omega
  have hrag : Rag (made + 2) (m_R μ) (m_R μ2) := fun x y z k h1 h2 h3 h4 => by
    rw [hR', if_neg (fun w => absurd (congrArg (fun a : mA => a.1) w.1) h2)]
    exact (n2 x y z k h4).2.2
  have hold : ∀ x y z k, x ≠ 16 → ¬ (7 ≤ x ∧ x ≤ 15 ∧ y = made + 2) → m_R μ2 (x, y, z) k = m_R μ (x, y, z) k := fun x y z k h2 h4 => by
    rw [hR', if_neg (fun w => absurd (congrArg (fun a : mA => a.1) w.1) h2)]
    exact (n2 x y z k h4).2.2
  have hnew : ∀ x z k, x ≠ 16 → m_R μ2 (x, made + 2, z) k = m_R μ' (x, made + 2, z) k := fun x z k h2 => by
    rw [hR', if_neg (fun w => absurd (congrArg (fun a : mA => a.1) w.1) h2)]
  have e31 : 129 + 31 * made + 31 = 129 + 31 * (made + 1) := by omega
  rw [e31] at n3 n5
  refine ⟨⟨?_, by omega⟩, ?_, ?_, ?_, ?_, ?_, ?_, ?_, ?_⟩
  · rw [hN2]
    refine ⟨Rag_cls hrag hNl c1, Rag_ref hrag hNl c2, by omega, rfl, fun j hj => ?_, fun i j hi hj q => ?_, fun i j hi hj q => ?_, ?_, ?_, ?_, ?_, fun i hi => ?_, fun i h1 h2 => ?_⟩
    · by_cases z : j = made + 2
      · subst z
        simp only [if_true]
        refine ⟨by omega, ?_, ?_, ?_⟩
        · unfold famR at n3 ⊢
          simp (disch := omega) only [hnew]
          exact n3
        · rw [hnew _ _ _ (by omega), n4]
        · unfold planR at n5 ⊢
          simp (disch := omega) only [hnew]
          exact n5
      · obtain ⟨d1, d2, d3, d4⟩ := c5 j (by omega)
        have hz := hfa j (by omega)
        simp only [if_neg z, if_neg (show ¬ j + 1 = made + 3 by omega)]
        exact ⟨by omega, Rag_fam hrag hNl hz d2, by rw [hold _ _ _ _ (by omega) (by omega)]; exact d3, Rag_plan hrag hNl (hpl _ d4) d4⟩
    · simp only at q
      by_cases zi : i = made + 2
      · by_cases zj : j = made + 2
        · omega
        · rw [if_pos zi, if_neg zj] at q
          exact absurd q.symm (hfa j (by omega))
      · by_cases zj : j = made + 2
        · rw [if_neg zi, if_pos zj] at q
          exact absurd q (hfa i (by omega))
        · rw [if_neg zi, if_neg zj] at q
          exact c6 i j (by omega) (by omega) q
    · simp only at q
      by_cases zi : i = made + 3
      · by_cases zj : j = made + 3
        · omega
        · rw [if_pos zi, if_neg zj] at q
          exact absurd q.symm (hpa j (by omega))
      · by_cases zj : j = made + 3
        · rw [if_neg zi, if_pos zj] at q
          exact absurd q (hpa i (by omega))
        · rw [if_neg zi, if_neg zj] at q
          exact c7 i j (by omega) (by omega) q
    · dsimp only
      rw [hold _ _ _ _ (by omega) (by omega), c8, if_neg (by omega)]
    · dsimp only
      rw [hold _ _ _ _ (by omega) (by omega), c9, if_neg (by omega)]
    · dsimp only
      rw [hold _ _ _ _ (by omega) (by omega), c10, if_neg (by omega)]
    · dsimp only
      rw [if_neg (by omega)]
      exact Rag_plan hrag hNl (hpl _ c11) c11
    · dsimp only
      by_cases z : i = made
      · rw [hR', if_pos ⟨rfl, z⟩, if_pos (by omega)]
      · rw [hR', if_neg (fun w => z w.2), (n2 16 0 0 i (by omega)).2.2, c12 i (by omega), if_neg (by omega)]
    · rw [hR', if_neg (fun w => by have := w.2; omega), (n2 16 0 0 i (by omega)).2.2, c13 i (by omega) h2]
  · have := Fra_sm i3 hs (by omega) (by omega) (by omega) (by omega)
    unfold Fra at this ⊢
    rw [← yJ]
    exact this
  · have := Tra_sm i4 hs (by omega) (by omega) (by omega)
    unfold Tra at this ⊢
    rw [← yI, ← yJ]
    exact this
  · have := Tap_sm i5 hs (by omega) (by omega) (by omega) (by omega)
    unfold Tap at this ⊢
    rw [← yI]
    exact this
  · have := Fau_sm i6 hs (by omega) (by omega) (by omega) (by omega)
    unfold Fau at this ⊢
    rw [← yI]
    exact this
  · have := Liv_sm i7 hs (by omega) (by omega) (by omega) (by omega)
    unfold Liv at this ⊢
    rw [← yI]
    exact this
  · have g0 := hfa 0 (by omega)
    have := FamV_sm i8 hs (by omega) (by omega) (by omega)
    simp only [if_neg (show ¬ 0 = made + 2 by omega)]
    unfold FamV at this ⊢
    rw [FamI_iff] at this ⊢
    rw [← yI, ← yJ, show cR μ2 = cR Y from congrFun yI.symm _, show wR μ2 = wR Y from congrFun yJ.symm _]
    exact this
  · have g0 := hpa 1 (by omega)
    have := PlanI_c (c' := cR Y) (fun k h1 h2 => sm_I hs (by omega)) (PlanI_sm i9 hs (by omega) (by omega))
    simp only [if_neg (show ¬ 1 = made + 3 by omega)]
    unfold PlanI at this ⊢
    rw [← yI, show cR μ2 = cR Y from congrFun yI.symm _]
    exact this
  · have := Mrk_sm i10 hs (by omega) (by omega) (by omega) (by omega) (by omega) (fun i hi => by have := hfa (2 + i) (by omega); omega) (fun i hi => by have := hpa (3 + i) (by omega); omega) (fun i hi => by have := hpa (3 + i) (by omega); omega)
    refine ⟨by rw [← yI]; exact this.1, by rw [← yI]; exact this.2.1, fun i hi => ?_⟩
    obtain ⟨P2, T2, k1, k2, k3, k4⟩ := this.2.2 i hi
    simp only [if_neg (show ¬ 2 + i = made + 2 by omega), if_neg (show ¬ 3 + i = made + 3 by omega)]
    rw [show cR μ2 = cR Y from congrFun yI.symm _, show wR μ2 = wR Y from congrFun yJ.symm _]
    refine ⟨P2, T2, ?_, k2, k3, ?_⟩
    · rw [FamI_iff] at k1 ⊢
      rw [← yI, ← yJ]
      exact k1
    · unfold PlanI at k4 ⊢
      rw [← yI]
      exact k4
set_option maxHeartbeats 200000 in
theorem call_mark (h : Inv μ made n fa pa P T) : Jn (fn_C_mark (some (1, 0, 0))) (fn_M_mark (some (40, 0, 0))) μ := by
  obtain ⟨⟨hp, hnm⟩, i2, i3, i4, i5, i6, i7, i8, i9, i10⟩ := id h
  have hC := (Inv_cur h).1
  have hm3 := hp.2.2.1
  obtain ⟨c1, c2, c3, c4, c5, c6, c7, c8, c9, c10, c11, c12, c13⟩ := id hp
  have e9 : m_I μ (1, 0, 0) 9 = nI n := i10.1
  by_cases hn : n = 3
  · have e93 : m_I μ (1, 0, 0) 9 = 3 := by rw [e9, hn]; rfl
    have hlt : ((3 : Int32) < 3) = False := eq_false (by decide)
    refine call_q h (fun μ hR => r_pre hR _) 7 (-1) ?_ (fun ν hR e ez => ?_)
    · unfold fn_C_mark
      simp (disch := first | exact hC | exact hP | exact hR | ((repeat first | apply ClsP_sI | apply ClsP_sJ | apply ClsP_rI | apply ClsP_rJ | apply ClsP_rY); exact hC) | ((repeat first | apply FamP_sI | apply FamP_sJ | apply FamP_rI | apply FamP_rJ | apply FamP_rY); exact hP) | ((repeat first | apply RefP_sI | apply RefP_sJ | apply RefP_rI | apply RefP_rJ | apply RefP_rY); exact hR) | ((repeat first | apply PlanP_sI | apply PlanP_sJ | apply PlanP_rI | apply PlanP_rJ | apply PlanP_rY); exact hL) | omega) only [↓c_main_thb, ↓c_tray_thb, ↓c_text_thb, ↓c_fam_thb, ↓c_per_thb, ↓c_thi_thb, ↓c_plan_thb, ↓c_ahd_thb, ↓c_then_thb, ↓c_sig_thb, ↓c_kee_thb, ↓c_gam_thb, ↓c_brd_thb, ↓c_main_r3, ↓c_main_r4, ↓c_main_r8, ↓c_main_r10, ↓c_main_r11, ↓c_main_r12, ↓c_main_r13, ↓c_main_r14, ↓c_text_r0, ↓c_ahd_r1, ↓c_ahd_r2, ↓c_ahd_r3, ↓c_sig_r0, ↓c_sig_r1, ↓c_kee_r0, ↓c_kee_r1, ↓c_kee_r2, ↓c_kee_r3, ↓c_kee_r5, ↓c_gam_r1, ↓c_gam_r2, ↓c_trays_r, ↓c_tray_r2, ↓c_brds_r, ↓c_brds_r0, ↓c_brds_r1, ↓c_fam_r7, ↓c_fam_r8, ↓c_pers_r, ↓c_per_r4, ↓c_itm_r, ↓c_plan_r2, ↓c_plan_r3, ↓c_plan_r4, ↓c_plan_r5, ↓c_plan_r6, ↓c_plan_r11, ↓c_plan_r12, ↓c_main_R5, ↓c_main_R6, ↓c_main_R7, ↓c_fam_R9, ↓c_main_th, ↓c_main_gI, ↓c_main_gJ, ↓c_main_pI, ↓c_main_pJ, ↓c_main_pR, ↓c_main_pZ, ↓c_tray_th, ↓c_tray_gI, ↓c_tray_pI, ↓c_tray_pR, ↓c_text_th, ↓c_text_gI, ↓c_text_gJ, ↓c_text_pI, ↓c_text_pJ, ↓c_text_pR, ↓c_fam_th, ↓c_fam_gI, ↓c_fam_pI, ↓c_fam_pR, ↓c_per_th, ↓c_per_gI, ↓c_per_gJ, ↓c_per_pI, ↓c_per_pJ, ↓c_per_pR, ↓c_per_pZ, ↓c_thi_th, ↓c_thi_gI, ↓c_thi_gJ, ↓c_thi_pI, ↓c_thi_pJ, ↓c_plan_th, ↓c_plan_gI, ↓c_plan_pI, ↓c_plan_pR, ↓c_plan_pZ, ↓c_ahd_th, ↓c_ahd_gI, ↓c_ahd_pI, ↓c_ahd_pR, ↓c_then_th, ↓c_then_gI, ↓c_then_gJ, ↓c_then_pI, ↓c_then_pJ, ↓c_sig_th, ↓c_sig_gI, ↓c_sig_pI, ↓c_sig_pR, ↓c_kee_th, ↓c_kee_gI, ↓c_kee_pI, ↓c_kee_pR, ↓c_gam_th, ↓c_gam_gI, ↓c_gam_pI, ↓c_gam_pR, ↓c_brd_th, ↓c_brd_gI, ↓c_brd_gJ, ↓c_brd_pI, ↓c_brd_pJ, ↓c_nums_a, ↓c_nums_t, ↓c_bytes_a, ↓c_bytes_t, ↓c_lov_a, ↓c_lov_t, ↓c_parr_a, ↓c_parr_t, ↓c_plps_a, ↓c_plps_t, ↓c_mkd_a, ↓c_sav_a, ↓c_sav_t, ↓c_wut_a, ↓c_wut_t, ↓c_wut_a0, ↓c_wut_t0, ↓c_fits_a, ↓c_fits_t, ↓c_wsum_a, ↓c_wsum_t, ↓c_wsum_a0, ↓c_wsum_t0, ↓c_ckp_a, ↓c_ckp_t, ↓c_ckr_a, ↓c_ckr_t, ↓c_cas_a, ↓c_cas_t, ↓c_cmb_a, ↓c_cmb_t, ↓c_clb_a, ↓c_clb_t, ↓c_clb_a0, ↓c_clb_t0, ↓c_glv_a, ↓c_glv_t, ↓c_clv_a, ↓c_clv_t, ↓c_clv_a0, ↓c_clv_t0, ↓c_clv_a1, ↓c_clv_t1, ↓c_clv_a2, ↓c_clv_t2, ↓c_clv_a3, ↓c_clv_t3, ↓c_clv_a4, ↓c_clv_t4, ↓bd_bd, ↓bd_rt, c_main_thb, c_tray_thb, c_text_thb, c_fam_thb, c_per_thb, c_thi_thb, c_plan_thb, c_ahd_thb, c_then_thb, c_sig_thb, c_kee_thb, c_gam_thb, c_brd_thb, c_main_r3, c_main_r4, c_main_r8, c_main_r10, c_main_r11, c_main_r12, c_main_r13, c_main_r14, c_text_r0, c_ahd_r1, c_ahd_r2, c_ahd_r3, c_sig_r0, c_sig_r1, c_kee_r0, c_kee_r1, c_kee_r2, c_kee_r3, c_kee_r5, c_gam_r1, c_gam_r2, c_trays_r, c_tray_r2, c_brds_r, c_brds_r0, c_brds_r1, c_fam_r7, c_fam_r8, c_pers_r, c_per_r4, c_itm_r, c_plan_r2, c_plan_r3, c_plan_r4, c_plan_r5, c_plan_r6, c_plan_r11, c_plan_r12, c_main_R5, c_main_R6, c_main_R7, c_fam_R9, c_main_th, c_main_gI, c_main_gJ, c_main_pI, c_main_pJ, c_main_pR, c_main_pZ, c_tray_th, c_tray_gI, c_tray_pI, c_tray_pR, c_text_th, c_text_gI, c_text_gJ, c_text_pI, c_text_pJ, c_text_pR, c_fam_th, c_fam_gI, c_fam_pI, c_fam_pR, c_per_th, c_per_gI, c_per_gJ, c_per_pI, c_per_pJ, c_per_pR, c_per_pZ, c_thi_th, c_thi_gI, c_thi_gJ, c_thi_pI, c_thi_pJ, c_plan_th, c_plan_gI, c_plan_pI, c_plan_pR, c_plan_pZ, c_ahd_th, c_ahd_gI, c_ahd_pI, c_ahd_pR, c_then_th, c_then_gI, c_then_gJ, c_then_pI, c_then_pJ, c_sig_th, c_sig_gI, c_sig_pI, c_sig_pR, c_kee_th, c_kee_gI, c_kee_pI, c_kee_pR, c_gam_th, c_gam_gI, c_gam_pI, c_gam_pR, c_brd_th, c_brd_gI, c_brd_gJ, c_brd_pI, c_brd_pJ, c_nums_a, c_nums_t, c_bytes_a, c_bytes_t, c_lov_a, c_lov_t, c_parr_a, c_parr_t, c_plps_a, c_plps_t, c_mkd_a, c_sav_a, c_sav_t, c_wut_a, c_wut_t, c_wut_a0, c_wut_t0, c_fits_a, c_fits_t, c_wsum_a, c_wsum_t, c_wsum_a0, c_wsum_t0, c_ckp_a, c_ckp_t, c_ckr_a, c_ckr_t, c_cas_a, c_cas_t, c_cmb_a, c_cmb_t, c_clb_a, c_clb_t, c_clb_a0, c_clb_t0, c_glv_a, c_glv_t, c_clv_a, c_clv_t, c_clv_a0, c_clv_t0, c_clv_a1, c_clv_t1, c_clv_a2, c_clv_t2, c_clv_a3, c_clv_t3, c_clv_a4, c_clv_t4, ↓reduceIte, ↓ap_ite, ↓bd_ite, bd_bd, bd_rt, ap_rt, ite_some, nI_add, nI_1, R_sI, R_sJ, nz_1, nz_2, nz_3, nz_4, nz_5, nz_6, nz_7, nz_8, nz_9, nz_10, nz_11, nz_12, nz_m1, z_eq, if_true, if_false, e_some, ite_self, e93, hlt, I_row, ud_at]
      exact QC_st _ _
    · have e24 : m_I ν (40, 0, 0) 24 = 3 := by rw [ez.2 24 (by omega), i10.2.1, hn]; rfl
      simp (disch := first | exact hC | exact hP | exact hR | ((repeat first | apply ClsP_sI | apply ClsP_sJ | apply ClsP_rI | apply ClsP_rJ | apply ClsP_rY); exact hC) | ((repeat first | apply FamP_sI | apply FamP_sJ | apply FamP_rI | apply FamP_rJ | apply FamP_rY); exact hP) | ((repeat first | apply RefP_sI | apply RefP_sJ | apply RefP_rI | apply RefP_rJ | apply RefP_rY); exact hR) | ((repeat first | apply PlanP_sI | apply PlanP_sJ | apply PlanP_rI | apply PlanP_rJ | apply PlanP_rY); exact hL) | omega) only [↓r_thb, ↓r_th, ↓r_gI, ↓r_gJ, ↓r_pI, ↓r_pJ, ↓r_g41, ↓r_g42, ↓r_g43, ↓r_g44, ↓r_g45, ↓r_g46, ↓r_g47, ↓r_g48, ↓r_g49, ↓r_g50, ↓r_g51, ↓r_g52, ↓r_g53, ↓r_g54, ↓r_g55, ↓r_g56, ↓r_g57, ↓r_g58, ↓r_a41, ↓r_a42, ↓r_a43, ↓r_a44, ↓r_a45, ↓r_a46, ↓r_a47, ↓r_a48, ↓r_a49, ↓r_a50, ↓r_a51, ↓r_a52, ↓r_a53, ↓r_a54, ↓r_a55, ↓r_a56, ↓r_a57, ↓r_a58, ↓r_t41, ↓r_t42, ↓r_t43, ↓r_t44, ↓r_t45, ↓r_t46, ↓r_t47, ↓r_t48, ↓r_t49, ↓r_t50, ↓r_t51, ↓r_t52, ↓r_t53, ↓r_t54, ↓r_t55, ↓r_t56, ↓r_t57, ↓r_t58, ↓r_l43_0, ↓r_l45_0, ↓r_l45_1, ↓r_l45_2, ↓r_l45_3, ↓r_l45_4, ↓r_l45_5, ↓r_l45_6, ↓r_l45_105, ↓r_l45_106, ↓r_l45_1508, ↓r_l45_1509, ↓r_tl45_0, ↓r_tl45_1, ↓r_tl45_2, ↓r_tl45_3, ↓r_tl45_4, ↓r_tl45_5, ↓r_tl45_6, ↓r_tl45_105, ↓r_tl45_106, ↓r_tl45_1508, ↓r_tl45_1509, ↓r_l48_0, ↓r_l56_0, ↓r_l57_0, ↓r_tl58_0, ↓r_tl58_1, ↓r_tl58_2, ↓r_tl58_3, ↓r_tl58_4, ↓bd_bd, ↓bd_rt, r_thb, r_th, r_gI, r_gJ, r_pI, r_pJ, r_g41, r_g42, r_g43, r_g44, r_g45, r_g46, r_g47, r_g48, r_g49, r_g50, r_g51, r_g52, r_g53, r_g54, r_g55, r_g56, r_g57, r_g58, r_a41, r_a42, r_a43, r_a44, r_a45, r_a46, r_a47, r_a48, r_a49, r_a50, r_a51, r_a52, r_a53, r_a54, r_a55, r_a56, r_a57, r_a58, r_t41, r_t42, r_t43, r_t44, r_t45, r_t46, r_t47, r_t48, r_t49, r_t50, r_t51, r_t52, r_t53, r_t54, r_t55, r_t56, r_t57, r_t58, r_l43_0, r_l45_0, r_l45_1, r_l45_2, r_l45_3, r_l45_4, r_l45_5, r_l45_6, r_l45_105, r_l45_106, r_l45_1508, r_l45_1509, r_tl45_0, r_tl45_1, r_tl45_2, r_tl45_3, r_tl45_4, r_tl45_5, r_tl45_6, r_tl45_105, r_tl45_106, r_tl45_1508, r_tl45_1509, r_l48_0, r_l56_0, r_l57_0, r_tl58_0, r_tl58_1, r_tl58_2, r_tl58_3, r_tl58_4, la_1, lm_1, la_2, lm_2, la_3, lm_3, la_6, lm_6, la_7, lm_7, la_8, lm_8, la_13, lm_13, la_19, lm_19, la_25, lm_25, la_33, lm_33, la_41, lm_41, la_49, lm_49, la_57, lm_57, la_60, lm_60, la_105, lm_105, la_107, lm_107, la_1508, lm_1508, la_96, lm_96, la_377, lm_377, la_1509, lm_1509, ↓reduceIte, ↓ap_ite, ↓bd_ite, bd_bd, bd_rt, ap_rt, ite_some, nI_add, nI_1, nz_1, nz_2, nz_3, nz_4, nz_5, nz_6, nz_7, nz_8, nz_9, nz_10, nz_11, nz_12, nz_m1, z_eq, if_true, if_false, e_some, ite_self, e24, ↓bd_of (r_refuse hR 7)]
      exact QR_st _ _
  · have hn3 : n < 3 := by omega
    have hlt : nI n < 3 := nI_lt (b := 3) hn3 (by omega)
    have s1 : sm (fun x _ _ k => x = 1 ∧ k = 0) μ (m_sI μ (1, 0, 0) 0 0) := sm_sI sm_rf _ ⟨rfl, rfl⟩
    have hC1 : ClsP (m_sI μ (1, 0, 0) 0 0) := hC
    have hN1 : InvN (m_sI μ (1, 0, 0) 0 0) made n fa pa P T := by
      refine ⟨ptr_sm ⟨hp, hnm⟩ s1, Fra_sm i3 s1 (by omega) (by omega) (by omega) (by omega), Tra_sm i4 s1 (by omega) (by omega) (by omega), Tap_sm i5 s1 (by omega) (by omega) (by omega) (by omega), Fau_sm i6 s1 (by omega) (by omega) (by omega) (by omega), Liv_sm i7 s1 (by omega) (by omega) (by omega) (by omega), FamV_sm i8 s1 (by omega) (by omega) (by omega), PlanI_c (fun k h1 h2 => sm_I s1 (by omega)) (PlanI_sm i9 s1 (by omega) (by omega)), Mrk_sm i10 s1 (by omega) (by omega) (by omega) (by omega) (by omega) (fun _ _ => by omega) (fun _ _ => by omega) (fun _ _ => by omega)⟩
    have e0 : m_I (m_sI μ (1, 0, 0) 0 0) (1, 0, 0) 0 = 0 := by rw [I_row, ud_at]
    have e9' : m_I (m_sI μ (1, 0, 0) 0 0) (1, 0, 0) 9 = nI n := by rw [I_row, ud_ne (by decide), e9]
    unfold Jn fn_C_mark
    rw [c_main_th hC, c_main_gI hC, e9, ap_ite, if_pos hlt, c_main_pI hC, c_main_gI hC1, e0, ap_ite, if_pos rfl, c_main_r8 hC1, c_main_gI hC1, e9', c_mkd_a hC1 hn3]
    rcases Nat.lt_or_ge n made with z | z
    · have e16 : m_R (m_sI μ (1, 0, 0) 0 0) (16, 0, 0) n = some (7, fa (2 + n), 0) := c12 n z
      rw [e16, ap_ite, if_pos (show (some ((7, fa (2 + n), 0) : mA)).isSome = true from rfl)]
      exact mark_fin hN1 z e0
    · obtain rfl : n = made := by omega
      have e16 : m_R (m_sI μ (1, 0, 0) 0 0) (16, 0, 0) n = none := c13 n (Nat.le_refl n) hn3
      rw [e16, ap_ite, if_neg (by decide), c_main_r8 hC1, c_main_gI hC1, e9']
      have hgo : ∀ μ', NewF (n + 2) (129 + 31 * n) (m_sI μ (1, 0, 0) 0 0) μ' → m_e (m_bd (m_tR 5 3 (some (16, 0, 0)) (nI n) (some (7, n + 2, 0))) (fun _ => sfxM) μ') (fun b μ1 => m_e (fn_M_mark (some (40, 0, 0)) μ1) (fun b' μ2 => b = b' ∧ OK μ2)) := fun μ' hN => by
        obtain ⟨n1, n2, n3, n4, n5⟩ := id hN
        have hok : m_ok μ' (16, 0, 0) = true := m_okN (N := 110) (by omega) (by decide +kernel)
        have hFo : oO μ' 3 (7, n + 2, 0) := o_fam (μ := μ') (by show famR μ'.1 (m_R μ') (n + 2); rw [n1]; exact n3)
        rw [bd_tR (t := 5) (n := 3) (a := (16, 0, 0)) ⟨rfl, hok⟩ hn3 (by decide) hFo]
        refine mark_fin (inv_new hN1 hn3 hN) (by omega) ?_
        show m_I μ' (1, 0, 0) 0 = 0
        rw [(n2 1 0 0 0 (by omega)).1, e0]
      have hsz : (m_sI μ (1, 0, 0) 0 0).1 = 129 + 31 * n := c4
      obtain rfl | rfl | rfl : n = 0 ∨ n = 1 ∨ n = 2 := by omega
      · exact newF_2 (ST_0 hsz) hgo
      · exact newF_3 (ST_0 hsz) hgo
      · exact newF_4 (ST_0 hsz) hgo
end CM
