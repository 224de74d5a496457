/-! Part 69ze: a family is copied -/
section CF
variable {μ : mM} {f g P T : Nat} {c : Nat → Int32} {w : Nat → Int64}
set_option maxHeartbeats 200000 in
theorem k_copyPe (hF : FamP μ f) (hG : FamP μ g) (hfg : f ≠ g) {i : Nat} (hi : i < 6) (h2 : m_I μ (9, f, i) 2 = 0 ∨ m_I μ (9, f, i) 2 = 1) (h3 : m_I μ (9, f, i) 3 = 0 ∨ m_I μ (9, f, i) 3 = 1) : m_e (fn_Pe_copyFrom (some (9, g, i)) (some (9, f, i)) μ) (fun _ μ' => sm (fun x y z _ => (x = 9 ∨ x = 10) ∧ y = g ∧ z = i) μ μ' ∧ (∀ k, 1 ≤ k → k ≤ 3 → m_I μ' (9, g, i) k = m_I μ (9, f, i) k) ∧ m_J μ' (9, g, i) 0 = m_J μ (9, f, i) 0 ∧ ∀ t, t < 8 → m_I μ' (10, g, i) t = m_I μ (10, f, i) t) := by
  have hne : ((9, f, i) : mA) ≠ (9, g, i) := fun q => hfg (congrArg (fun a : mA => a.2.1) q)
  unfold fn_Pe_copyFrom
  rw [c_per_th hG hi, c_per_gJ hF hi, c_per_pJ hG hi]
  generalize hμ1 : m_sJ μ (9, g, i) 0 (m_J μ (9, f, i) 0) = μ1
  have b1 : sm (fun x y z _ => (x = 9 ∨ x = 10) ∧ y = g ∧ z = i) μ μ1 := by rw [← hμ1]; exact sm_sJ sm_rf _ ⟨.inl rfl, rfl, rfl⟩
  have eJ : m_J μ1 (9, g, i) 0 = m_J μ (9, f, i) 0 := by rw [← hμ1, J_row, ud_at]
  have eI : m_I μ1 = m_I μ := by rw [← hμ1]; rfl
  have hF1 := sm_F b1 hF
  have hG1 := sm_F b1 hG
  rw [c_per_gI hF1 hi, c_per_pI hG1 hi, c_per_gI (show FamP (m_sI μ1 (9, g, i) 1 (m_I μ1 (9, f, i) 1)) f from hF1) hi]
  rw [I_ob hne, eI, c_per_pZ (show FamP (m_sI μ1 (9, g, i) 1 (m_I μ (9, f, i) 1)) g from hG1) hi h2, c_per_gI (show FamP (m_sI (m_sI μ1 (9, g, i) 1 (m_I μ (9, f, i) 1)) (9, g, i) 2 (m_I μ (9, f, i) 2)) f from hF1) hi, I_ob hne, I_ob hne, eI, c_per_pZ (show FamP (m_sI (m_sI μ1 (9, g, i) 1 (m_I μ (9, f, i) 1)) (9, g, i) 2 (m_I μ (9, f, i) 2)) g from hG1) hi h3]
  generalize hμ2 : m_sI (m_sI (m_sI μ1 (9, g, i) 1 (m_I μ (9, f, i) 1)) (9, g, i) 2 (m_I μ (9, f, i) 2)) (9, g, i) 3 (m_I μ (9, f, i) 3) = μ2
  have b2 : sm (fun x y z _ => (x = 9 ∨ x = 10) ∧ y = g ∧ z = i) μ1 μ2 := by rw [← hμ2]; exact sm_sI (sm_sI (sm_sI sm_rf _ ⟨.inl rfl, rfl, rfl⟩) _ ⟨.inl rfl, rfl, rfl⟩) _ ⟨.inl rfl, rfl, rfl⟩
  have hF2 := sm_F b2 hF1
  have hG2 := sm_F b2 hG1
  have k1 : ∀ k, 1 ≤ k → k ≤ 3 → m_I μ2 (9, g, i) k = m_I μ (9, f, i) k := fun k h1 h2 => by
    rw [← hμ2]
    simp only [I_row]
    unfold ud
    obtain rfl | rfl | rfl : k = 1 ∨ k = 2 ∨ k = 3 := by omega
    · rw [if_neg (by decide), if_neg (by decide), if_pos rfl]
    · rw [if_neg (by decide), if_pos rfl]
    · rw [if_pos rfl]
  rw [c_per_r4 hF2 hi, c_per_r4 hG2 hi, show (0 : Int32) = nI 0 from rfl, show (8 : Int32) = nI 8 from rfl, bd_cpI (o_lov hF2 hi) (o_lov hG2 hi) (by omega) (by omega) (by decide) (by decide)]
  have e10 : ∀ t, m_I μ2 (10, f, i) t = m_I μ (10, f, i) t := fun t => by
    rw [← hμ2, I_ne _ rfl, I_ne _ rfl, I_ne _ rfl, eI]
  refine ⟨(), _, rfl, sm_rI (sm_tr b1 b2) _ (fun k q => absurd ⟨.inr rfl, rfl, rfl⟩ q), fun k h1 h2 => ?_, ?_, fun t ht => ?_⟩
  · rw [I_rne _ rfl]
    exact k1 k h1 h2
  · show m_J μ2 (9, g, i) 0 = _
    rw [← hμ2]
    exact eJ
  · rw [I_rat, pk_cpy_in (Nat.zero_le t) (by omega), Nat.sub_zero, Nat.zero_add, e10]
set_option maxHeartbeats 200000 in
theorem k_copyPT (hF : FamP μ f) (hG : FamP μ g) (hfg : f ≠ g) (hI : FamI μ f c w P T) (hD : Dim c P T) (hO : Okc c P T) : m_e (fn_Fa_copyPeopleAndThings (some (7, g, 0)) (some (7, f, 0)) μ) (fun _ μ' => sm (fun x y _ k => ((x = 7 ∧ k < 7) ∨ x = 9 ∨ x = 10 ∨ x = 12) ∧ y = g) μ μ' ∧ FamI μ' g c w P T) := by
  obtain ⟨hP0, hT0, hP6, hT8⟩ := id hD
  have hne : ((7, f, 0) : mA) ≠ (7, g, 0) := fun q => hfg (congrArg (fun a : mA => a.2.1) q)
  have hb01 : ∀ {x : Int32}, bn x 1 → x = 0 ∨ x = 1 := fun ⟨n, hn, e⟩ => by
    obtain rfl | rfl : n = 0 ∨ n = 1 := by omega
    · exact .inl e
    · exact .inr e
  unfold fn_Fa_copyPeopleAndThings
  rw [c_fam_th hG]
  have hst : ∀ {α : Type} (k : Nat), k < 7 → ∀ (K : Unit → mP α) (μ' : mM), sm (fun x y z k => x = 7 ∧ y = g ∧ z = 0 ∧ k < 7) μ μ' → m_bd (m_gI 3 k (some (7, f, 0))) (fun v => m_bd (m_pI 3 k (some (7, g, 0)) v) K) μ' = K () (m_sI μ' (7, g, 0) k (c k)) := fun k hk K μ' hs => by
    rw [c_fam_gI (sm_F hs hF), c_fam_pI (sm_F hs hG), sm_I hs (fun q => hfg q.2.1), hI.1 k hk]
  have s1 : sm (fun x y z k => x = 7 ∧ y = g ∧ z = 0 ∧ k < 7) μ (m_sI μ (7, g, 0) 0 (c 0)) := sm_sI sm_rf _ (by omega)
  have s2 := sm_sI (x := 7) (y := g) (z := 0) (k := 1) s1 (c 1) (by omega)
  have s3 := sm_sI (x := 7) (y := g) (z := 0) (k := 2) s2 (c 2) (by omega)
  have s4 := sm_sI (x := 7) (y := g) (z := 0) (k := 3) s3 (c 3) (by omega)
  have s5 := sm_sI (x := 7) (y := g) (z := 0) (k := 4) s4 (c 4) (by omega)
  have s6 := sm_sI (x := 7) (y := g) (z := 0) (k := 5) s5 (c 5) (by omega)
  have s7 := sm_sI (x := 7) (y := g) (z := 0) (k := 6) s6 (c 6) (by omega)
  rw [hst 0 (by omega) _ _ sm_rf, hst 1 (by omega) _ _ s1, hst 2 (by omega) _ _ s2, hst 3 (by omega) _ _ s3, hst 4 (by omega) _ _ s4, hst 5 (by omega) _ _ s5, hst 6 (by omega) _ _ s6]
  have k7 : ∀ k, k < 7 → m_I (m_sI (m_sI (m_sI (m_sI (m_sI (m_sI (m_sI μ (7, g, 0) 0 (c 0)) (7, g, 0) 1 (c 1)) (7, g, 0) 2 (c 2)) (7, g, 0) 3 (c 3)) (7, g, 0) 4 (c 4)) (7, g, 0) 5 (c 5)) (7, g, 0) 6 (c 6)) (7, g, 0) k = c k := fun k hk => by
    simp only [I_row]
    unfold ud
    obtain rfl | rfl | rfl | rfl | rfl | rfl | rfl : k = 0 ∨ k = 1 ∨ k = 2 ∨ k = 3 ∨ k = 4 ∨ k = 5 ∨ k = 6 := by omega
    all_goals simp
  generalize m_sI (m_sI (m_sI (m_sI (m_sI (m_sI (m_sI μ (7, g, 0) 0 (c 0)) (7, g, 0) 1 (c 1)) (7, g, 0) 2 (c 2)) (7, g, 0) 3 (c 3)) (7, g, 0) 4 (c 4)) (7, g, 0) 5 (c 5)) (7, g, 0) 6 (c 6) = μ1 at *
  have b1 : sm (fun x y _ k => ((x = 7 ∧ k < 7) ∨ x = 9 ∨ x = 10 ∨ x = 12) ∧ y = g) μ μ1 := sm_mono s7 (by omega)
  refine e_bd (R := fun _ μ' => sm (fun x y _ _ => (x = 9 ∨ x = 10) ∧ y = g) μ1 μ' ∧ ∀ p, p < P → m_I μ' (9, g, p) 1 = c (7 + p) ∧ m_I μ' (9, g, p) 2 = c (13 + p) ∧ m_I μ' (9, g, p) 3 = c (19 + p) ∧ m_J μ' (9, g, p) 0 = w p ∧ ∀ t, t < 8 → m_I μ' (10, g, p) t = c (57 + 8 * p + t)) ?_ ?_
  · refine e_inv (fun i s μ' => s = nI i ∧ sm (fun x y _ _ => (x = 9 ∨ x = 10) ∧ y = g) μ1 μ' ∧ ∀ p, p < i → m_I μ' (9, g, p) 1 = c (7 + p) ∧ m_I μ' (9, g, p) 2 = c (13 + p) ∧ m_I μ' (9, g, p) 3 = c (19 + p) ∧ m_J μ' (9, g, p) 0 = w p ∧ ∀ t, t < 8 → m_I μ' (10, g, p) t = c (57 + 8 * p + t)) P ?_ ?_ ⟨rfl, sm_rf, fun p hp => absurd hp (Nat.not_lt_zero p)⟩ (by omega)
    · rintro i s μ' hi ⟨rfl, d1, d2⟩
      have hF' := sm_F d1 (sm_F b1 hF)
      have hG' := sm_F d1 (sm_F b1 hG)
      have hI' : FamI μ' f c w P T := FamI_sm (FamI_sm hI b1 (by omega)) d1 (by omega)
      have e0 : m_I μ' (7, g, 0) 0 = nI P := by rw [sm_I d1 (by omega), k7 0 (by omega), hP0]
      have hge := nI_ge hi (show P < 2 ^ 31 by omega)
      have hi6 : i < 6 := by omega
      obtain ⟨-, o2, o3, -⟩ := (hO.2.1 i hi).1
      unfold fn_Fa_copyPeopleAndThings_l58
      rw [c_fam_gI hG', e0, ap_ite, if_neg hge, c_fam_r7 hG', c_pers_r hG' hi6, c_fam_r7 hF', c_pers_r hF' hi6]
      refine e_bd (k_copyPe hF' hG' hfg hi6 (by rw [fi_of hI' hi]; exact hb01 o2) (by rw [fi_liv hI' hi]; exact hb01 o3)) ?_
      rintro - μ2 ⟨g1, g2, g3, g4⟩
      refine ⟨_, _, rfl, _, rfl, nI_1 i, sm_tr d1 (sm_mono g1 (by omega)), fun p hp => ?_⟩
      by_cases z : p = i
      · subst z
        exact ⟨by rw [g2 1 (by omega) (by omega), fi_age hI' hi], by rw [g2 2 (by omega) (by omega), fi_of hI' hi], by rw [g2 3 (by omega) (by omega), fi_liv hI' hi], by rw [g3, fi_pn hI' hi], fun t ht => by rw [g4 t ht, fi_lov hI' hi ht]⟩
      · obtain ⟨a1, a2, a3, a4, a5⟩ := d2 p (by omega)
        exact ⟨by rw [sm_I g1 (by omega)]; exact a1, by rw [sm_I g1 (by omega)]; exact a2, by rw [sm_I g1 (by omega)]; exact a3, by rw [sm_J g1 (by omega)]; exact a4, fun t ht => by rw [sm_I g1 (by omega)]; exact a5 t ht⟩
    · rintro s μ' ⟨rfl, d1, d2⟩
      have hG' := sm_F d1 (sm_F b1 hG)
      have e0 : m_I μ' (7, g, 0) 0 = nI P := by rw [sm_I d1 (by omega), k7 0 (by omega), hP0]
      unfold fn_Fa_copyPeopleAndThings_l58
      rw [c_fam_gI hG', e0, ap_ite, if_pos (Int32.le_refl (nI P))]
      exact ⟨_, _, rfl, (), rfl, d1, d2⟩
  · rintro - μ2 ⟨d1, d2⟩
    refine e_bd (R := fun _ μ' => sm (fun x y _ _ => x = 12 ∧ y = g) μ2 μ' ∧ ∀ t, t < T → m_I μ' (12, g, t) 1 = c (25 + t) ∧ m_I μ' (12, g, t) 2 = c (33 + t) ∧ m_I μ' (12, g, t) 3 = c (41 + t) ∧ m_I μ' (12, g, t) 4 = c (49 + t) ∧ m_J μ' (12, g, t) 0 = w (6 + t)) ?_ ?_
    · refine e_inv (fun i s μ' => s = nI i ∧ sm (fun x y _ _ => x = 12 ∧ y = g) μ2 μ' ∧ ∀ t, t < i → m_I μ' (12, g, t) 1 = c (25 + t) ∧ m_I μ' (12, g, t) 2 = c (33 + t) ∧ m_I μ' (12, g, t) 3 = c (41 + t) ∧ m_I μ' (12, g, t) 4 = c (49 + t) ∧ m_J μ' (12, g, t) 0 = w (6 + t)) T ?_ ?_ ⟨rfl, sm_rf, fun p hp => absurd hp (Nat.not_lt_zero p)⟩ (by omega)
      · rintro i s μ' hi ⟨rfl, g1, g2⟩
        have hF' := sm_F g1 (sm_F d1 (sm_F b1 hF))
        have hG' := sm_F g1 (sm_F d1 (sm_F b1 hG))
        have hI' : FamI μ' f c w P T := FamI_sm (FamI_sm (FamI_sm hI b1 (by omega)) d1 (by omega)) g1 (by omega)
        have e1 : m_I μ' (7, g, 0) 1 = nI T := by rw [sm_I g1 (by omega), sm_I d1 (by omega), k7 1 (by omega), hT0]
        have hge := nI_ge hi (show T < 2 ^ 31 by omega)
        have hi8 : i < 8 := by omega
        unfold fn_Fa_copyPeopleAndThings_l89
        rw [c_fam_gI hG', e1, ap_ite, if_neg hge, c_fam_r8 hG', c_itm_r hG' hi8, c_fam_r8 hF', c_itm_r hF' hi8]
        refine e_bd (k_copyFrom (o_thi hG' hi8) (o_thi hF' hi8) (fun q => hfg (congrArg (fun a : mA => a.2.1) q))) ?_
        rintro - μ3 ⟨h1, h2, h3⟩
        refine ⟨_, _, rfl, _, rfl, nI_1 i, sm_tr g1 (sm_mono h3 (by omega)), fun t ht => ?_⟩
        by_cases z : t = i
        · subst z
          exact ⟨by rw [h1 1 (by omega) (by omega), fi_thk hI' hi], by rw [h1 2 (by omega) (by omega), fi_coa hI' hi], by rw [h1 3 (by omega) (by omega), fi_rus hI' hi], by rw [h1 4 (by omega) (by omega), fi_oil hI' hi], by rw [h2, fi_tn hI' hi]⟩
        · obtain ⟨a1, a2, a3, a4, a5⟩ := g2 t (by omega)
          exact ⟨by rw [sm_I h3 (by omega)]; exact a1, by rw [sm_I h3 (by omega)]; exact a2, by rw [sm_I h3 (by omega)]; exact a3, by rw [sm_I h3 (by omega)]; exact a4, by rw [sm_J h3 (by omega)]; exact a5⟩
      · rintro s μ' ⟨rfl, g1, g2⟩
        have hG' := sm_F g1 (sm_F d1 (sm_F b1 hG))
        have e1 : m_I μ' (7, g, 0) 1 = nI T := by rw [sm_I g1 (by omega), sm_I d1 (by omega), k7 1 (by omega), hT0]
        unfold fn_Fa_copyPeopleAndThings_l89
        rw [c_fam_gI hG', e1, ap_ite, if_pos (Int32.le_refl (nI T))]
        exact ⟨_, _, rfl, (), rfl, g1, g2⟩
    · rintro - μ3 ⟨g1, g2⟩
      refine ⟨(), _, rfl, sm_tr b1 (sm_tr (sm_mono d1 (by omega)) (sm_mono g1 (by omega))), fun k hk => by rw [sm_I g1 (by omega), sm_I d1 (by omega), k7 k hk], fun p hp => ?_, g2⟩
      obtain ⟨a1, a2, a3, a4, a5⟩ := d2 p hp
      exact ⟨by rw [sm_I g1 (by omega)]; exact a1, by rw [sm_I g1 (by omega)]; exact a2, by rw [sm_I g1 (by omega)]; exact a3, by rw [sm_J g1 (by omega)]; exact a4, fun t ht => by rw [sm_I g1 (by omega)]; exact a5 t ht⟩
set_option maxHeartbeats 200000 in
/-- the steps of a plan are copied -/
theorem k_copyPl (hL : PlanP μ f) (hG : PlanP μ g) (hfg : f ≠ g) (hI : PlanI μ f c P T) : m_e (fn_Pl_copyFrom (some (13, g, 0)) (some (13, f, 0)) μ) (fun _ μ' => sm (fun x y _ k => ((x = 13 ∧ k < 2) ∨ x = 14) ∧ y = g) μ μ' ∧ PlanI μ' g c P T) := by
  have hne : ∀ a z : Nat, ((a, f, z) : mA) ≠ (a, g, z) := fun a z q => hfg (congrArg (fun a : mA => a.2.1) q)
  obtain ⟨S, hS30, eS, et⟩ : ∃ S : Nat, S ≤ 30 ∧ m_I μ (13, f, 0) 1 = nI S ∧ (m_I μ (13, f, 0) 0 = 0 ∨ m_I μ (13, f, 0) 0 = 1) := by
    rcases hI with ⟨h1, -, h3⟩ | ⟨h1, -, S, e, hS, h2, -⟩
    · exact ⟨0, by omega, h3, .inl h1⟩
    · exact ⟨S, hS, h2, .inr h1⟩
  unfold fn_Pl_copyFrom
  rw [c_plan_th hG, c_plan_gI hL, c_plan_pZ hG et, c_plan_gI (show PlanP (m_sI μ (13, g, 0) 0 (m_I μ (13, f, 0) 0)) f from hL), I_ob (hne 13 0), eS, c_plan_pI (show PlanP (m_sI μ (13, g, 0) 0 (m_I μ (13, f, 0) 0)) g from hG)]
  generalize hμ1 : m_sI (m_sI μ (13, g, 0) 0 (m_I μ (13, f, 0) 0)) (13, g, 0) 1 (nI S) = μ1
  have b1 : sm (fun x y _ k => ((x = 13 ∧ k < 2) ∨ x = 14) ∧ y = g) μ μ1 := by rw [← hμ1]; exact sm_sI (sm_sI sm_rf _ (by omega)) _ (by omega)
  have t0 : m_I μ1 (13, g, 0) 0 = m_I μ (13, f, 0) 0 := by rw [← hμ1, I_row, ud_ne (by decide), I_row, ud_at]
  have t1 : m_I μ1 (13, g, 0) 1 = nI S := by rw [← hμ1, I_row, ud_at]
  have hcp : ∀ (j : Nat) (μ' : mM), j < 5 → sm (fun x y _ k => ((x = 13 ∧ k < 2) ∨ x = 14) ∧ y = g) μ μ' → m_I μ' (13, g, 0) 1 = nI S → ∀ (K : Unit → mP Unit), m_bd (m_cpI (some (14, f, j)) 0 (some (14, g, j)) 0 (nI S)) K μ' = K () (m_rI μ' (14, g, j) (va_cpy (m_I μ' (14, f, j)) (m_I μ' (14, g, j)) 0 0 S)) := fun j μ' hj hs _ K => by
    rw [show (0 : Int32) = nI 0 from rfl, bd_cpI (o_parr (sm_P hs hL) hj) (o_parr (sm_P hs hG) hj) (by omega) (by omega) (by decide) (by decide)]
  have hst : ∀ (j : Nat) (μ' : mM), sm (fun x y _ k => ((x = 13 ∧ k < 2) ∨ x = 14) ∧ y = g) μ μ' → m_I μ' (13, g, 0) 0 = m_I μ (13, f, 0) 0 → m_I μ' (13, g, 0) 1 = nI S → (∀ i, i < j → ∀ s, s < S → m_I μ' (14, g, i) s = m_I μ (14, f, i) s) → sm (fun x y _ k => ((x = 13 ∧ k < 2) ∨ x = 14) ∧ y = g) μ (m_rI μ' (14, g, j) (va_cpy (m_I μ' (14, f, j)) (m_I μ' (14, g, j)) 0 0 S)) ∧ m_I (m_rI μ' (14, g, j) (va_cpy (m_I μ' (14, f, j)) (m_I μ' (14, g, j)) 0 0 S)) (13, g, 0) 0 = m_I μ (13, f, 0) 0 ∧ m_I (m_rI μ' (14, g, j) (va_cpy (m_I μ' (14, f, j)) (m_I μ' (14, g, j)) 0 0 S)) (13, g, 0) 1 = nI S ∧ ∀ i, i < j + 1 → ∀ s, s < S → m_I (m_rI μ' (14, g, j) (va_cpy (m_I μ' (14, f, j)) (m_I μ' (14, g, j)) 0 0 S)) (14, g, i) s = m_I μ (14, f, i) s := fun j μ' hs h0 h1 hi => by
    refine ⟨sm_rI hs _ (fun k q => absurd ⟨.inr rfl, rfl⟩ q), by rw [I_rne _ rfl]; exact h0, by rw [I_rne _ rfl]; exact h1, fun i hi' s hs' => ?_⟩
    by_cases z : i = j
    · subst z
      rw [I_rat, pk_cpy_in (Nat.zero_le s) (by omega), Nat.sub_zero, Nat.zero_add, sm_I hs (by omega)]
    · rw [I_rI, if_neg (fun q => z (congrArg (fun a : mA => a.2.2) q))]
      exact hi i (by omega) s hs'
  obtain ⟨a1, a2, a3, a4⟩ := hst 0 μ1 b1 t0 t1 (fun i hi => absurd hi (Nat.not_lt_zero i))
  have q1 := hcp 0 μ1 (by omega) b1 t1
  rw [c_plan_r2 (sm_P b1 hL), c_plan_r2 (sm_P b1 hG), c_plan_gI (sm_P b1 hG), t1, q1]
  generalize m_rI μ1 (14, g, 0) (va_cpy (m_I μ1 (14, f, 0)) (m_I μ1 (14, g, 0)) 0 0 S) = μ2 at *
  obtain ⟨c1, c2, c3, c4⟩ := hst 1 μ2 a1 a2 a3 a4
  have q2 := hcp 1 μ2 (by omega) a1 a3
  rw [c_plan_r3 (sm_P a1 hL), c_plan_r3 (sm_P a1 hG), c_plan_gI (sm_P a1 hG), a3, q2]
  generalize m_rI μ2 (14, g, 1) (va_cpy (m_I μ2 (14, f, 1)) (m_I μ2 (14, g, 1)) 0 0 S) = μ3 at *
  obtain ⟨d1, d2, d3, d4⟩ := hst 2 μ3 c1 c2 c3 c4
  have q3 := hcp 2 μ3 (by omega) c1 c3
  rw [c_plan_r4 (sm_P c1 hL), c_plan_r4 (sm_P c1 hG), c_plan_gI (sm_P c1 hG), c3, q3]
  generalize m_rI μ3 (14, g, 2) (va_cpy (m_I μ3 (14, f, 2)) (m_I μ3 (14, g, 2)) 0 0 S) = μ4 at *
  obtain ⟨e1, e2, e3, e4⟩ := hst 3 μ4 d1 d2 d3 d4
  have q4 := hcp 3 μ4 (by omega) d1 d3
  rw [c_plan_r5 (sm_P d1 hL), c_plan_r5 (sm_P d1 hG), c_plan_gI (sm_P d1 hG), d3, q4]
  generalize m_rI μ4 (14, g, 3) (va_cpy (m_I μ4 (14, f, 3)) (m_I μ4 (14, g, 3)) 0 0 S) = μ5 at *
  obtain ⟨f1, f2, f3, f4⟩ := hst 4 μ5 e1 e2 e3 e4
  have q5 := hcp 4 μ5 (by omega) e1 e3
  rw [c_plan_r6 (sm_P e1 hL), c_plan_r6 (sm_P e1 hG), c_plan_gI (sm_P e1 hG), e3, q5]
  generalize m_rI μ5 (14, g, 4) (va_cpy (m_I μ5 (14, f, 4)) (m_I μ5 (14, g, 4)) 0 0 S) = μ6 at *
  refine ⟨(), _, rfl, f1, ?_⟩
  rcases hI with ⟨h1, h2, h3⟩ | ⟨h1, h2, S', e, hS, g1, g2, g3, g4⟩
  · refine .inl ⟨by rw [f2, h1], h2, ?_⟩
    rw [f3, ← eS, h3]
  · obtain rfl : S' = S := by
      have := (nI_eq (show S' < 2 ^ 31 by omega) (show S < 2 ^ 31 by omega)).mp (g1.symm.trans eS)
      exact this
    refine .inr ⟨by rw [f2, h1], h2, S', e, hS, f3, g2, fun s hs => ?_, g4⟩
    rw [f4 0 (by omega) s hs, f4 1 (by omega) s hs, f4 2 (by omega) s hs, f4 3 (by omega) s hs, f4 4 (by omega) s hs]
    exact g3 s hs
end CF
