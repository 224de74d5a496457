/-! Part 69zo: live, the two sides -/
section LV
variable {μ ν : mM} {made n f g P T : Nat} {fa pa : Nat → Nat} {c : Nat → Int32}
set_option maxHeartbeats 200000 in
theorem wf_le2 {e : Nat → Nat} {bl : Nat → Prop} {M : Nat} (he : ∀ s, s < M → ¬ bl s → e s = s + 1) : ∀ n d lo hi, hi ≤ M → wf e bl n d lo hi → ∀ s, lo ≤ s → s < hi → e s ≤ hi
  | 0, d, lo, hi, hM, h, s, h1, h2 => by
    have : lo = hi := h
    omega
  | n + 1, d, lo, hi, hM, h, s, h1, h2 => by
    rcases h with h | ⟨g1, g2, g3, g4, g5⟩
    · omega
    · by_cases z : s = lo
      · rw [z]
        exact g3
      · by_cases y : s < e lo
        · by_cases x : bl lo
          · have := wf_le2 he n (d - 1) (lo + 1) (e lo) (by omega) (g4 x).2 s (by omega) y
            omega
          · have := he lo (by omega) x
            omega
        · exact wf_le2 he n d (e lo) hi hM g5 s (by omega) h2
set_option maxHeartbeats 200000 in
theorem Plan_told (h : PlanI μ g c P T) (h1 : ¬ m_I μ (13, g, 0) 0 = 0) : m_I μ (13, g, 0) 0 = 1 ∧ c 105 = 1 ∧ ∃ (S : Nat) (e : Nat → Nat), c 106 = nI S ∧ ProgC μ g S e (fun s j => c (107 + 9 * s + j)) P T ∧ wf e (fun s => c (107 + 9 * s) = 7 ∨ c (107 + 9 * s) = 8) 31 3 0 S := by
  rcases h with ⟨h, -⟩ | ⟨h, h', S, e, g1, g2, g3, g4, g5⟩
  · exact absurd h h1
  · refine ⟨h, h', S, e, g3, ⟨g2, g1, fun s hs => ?_, g4⟩, g5⟩
    have := wf_le2 (M := S) (fun s hs hb => ?_) 31 3 0 S (Nat.le_refl S) g5 s (by omega) hs
    · omega
    · obtain ⟨-, -, -, q⟩ := g4 s hs
      rcases q with ⟨-, -, q, -⟩ | ⟨-, -, q, -⟩ | ⟨-, -, q, -⟩ | ⟨-, -, q, -⟩ | ⟨-, -, q, -⟩ | ⟨-, -, q, -⟩ | ⟨-, -, q⟩ | ⟨-, -, q⟩ | ⟨-, e0, -⟩ | ⟨-, e0, -⟩ | ⟨-, e0, -⟩ | ⟨e0, -⟩
      · exact q
      · exact q
      · exact q
      · exact q
      · exact q
      · exact q
      · exact q
      · exact q
      · exact absurd (.inr e0) hb
      · exact absurd (.inl e0) hb
      · exact absurd (.inl e0) hb
      · exact absurd (.inl e0) hb
set_option maxHeartbeats 200000 in
/-- the reference lives its years -/
theorem r_runs (hR : RefP ν) (hc : m_I ν (45, 0, 0) = c) (hD : Dim c P T) (hO : Okc c P T) {S : Nat} {e : Nat → Nat} (h106 : c 106 = nI S) (hS : S ≤ 30) (hst : ∀ s, s < S → ∃ k p t m q, StepI k p t m q (fun j => c (107 + 9 * s + j)) s (e s) P T) (hw : wf e (fun s => c (107 + 9 * s) = 7 ∨ c (107 + 9 * s) = 8) 31 3 0 S) {seed : Nat} (hs : seed ≤ 65535) : m_e (fn_M_runsYears (some (40, 0, 0)) (nI seed) ν) (fun _ ν' => ∃ W r left, runL P T S e (fun s j => c (107 + 9 * s + j)) 300 0 [] (c, nI seed, 0) = (W, r, left) ∧ r ≤ 300 ∧ m_I ν' (45, 0, 0) = W.1 ∧ m_I ν' (40, 0, 0) 47 = W.2.2 ∧ m_I ν' (40, 0, 0) 46 = nI (300 - r) ∧ StR ν' c W.1 P T ∧ m_I ν' (40, 0, 0) 50 = (if left = true then 1 else 0) ∧ okW P T W ∧ Mo P T c W.1 ∧ (∀ j, 105 ≤ j → W.1 j = c j) ∧ sm (fun x _ _ k => (x = 40 ∧ (k = 27 ∨ (44 ≤ k ∧ k ≤ 50))) ∨ x = 45) ν ν') := by
  unfold fn_M_runsYears
  have s1 : sm (fun x _ _ k => (x = 40 ∧ (k = 27 ∨ (44 ≤ k ∧ k ≤ 50))) ∨ x = 45) ν (m_sI ν (40, 0, 0) 45 (nI seed)) := sm_sI sm_rf _ (by omega)
  have s2 := sm_sI (x := 40) (y := 0) (z := 0) (k := 46) s1 0 (by omega)
  have s3 := sm_sI (x := 40) (y := 0) (z := 0) (k := 47) s2 0 (by omega)
  have s4 := sm_sI (x := 40) (y := 0) (z := 0) (k := 48) s3 0 (by omega)
  have s5 := sm_sI (x := 40) (y := 0) (z := 0) (k := 49) s4 0 (by omega)
  have s6 := sm_sI (x := 40) (y := 0) (z := 0) (k := 27) s5 0 (by omega)
  have s7 := sm_sI (x := 40) (y := 0) (z := 0) (k := 50) s6 0 (by omega)
  have s8 := sm_sI (x := 40) (y := 0) (z := 0) (k := 44) s7 0 (by omega)
  rw [r_th hR, r_pI hR, r_pI (sm_R s1 hR), r_pI (sm_R s2 hR), r_pI (sm_R s3 hR), r_pI (sm_R s4 hR), r_pI (sm_R s5 hR), r_pI (sm_R s6 hR), r_pZ (sm_R s7 hR) (.inl rfl)]
  have hR8 := sm_R s8 hR
  have h0 : RLr (m_sI (m_sI (m_sI (m_sI (m_sI (m_sI (m_sI (m_sI ν (40, 0, 0) 45 (nI seed)) (40, 0, 0) 46 0) (40, 0, 0) 47 0) (40, 0, 0) 48 0) (40, 0, 0) 49 0) (40, 0, 0) 27 0) (40, 0, 0) 50 0) (40, 0, 0) 44 0) c P T (c, nI seed, 0) 300 0 0 := by
    refine ⟨?_, ?_, ?_, ?_, by omega, ⟨?_, ?_, ?_⟩, ?_, ?_, ⟨hO, hD, seed, hs, rfl⟩, ⟨fun _ _ q => q, fun _ _ q => q⟩, fun _ _ => rfl⟩
    · rw [I_ne _ rfl, I_ne _ rfl, I_ne _ rfl, I_ne _ rfl, I_ne _ rfl, I_ne _ rfl, I_ne _ rfl, I_ne _ rfl, hc]
    · simp [I_row, ud]
    · simp [I_row, ud]
    · simp [I_row, ud]
      rfl
    · simp [I_row, ud]
    · simp [I_row, ud]
      rfl
    · simp [I_row, ud]
      rfl
    · simp [I_row, ud]
    · simp [I_row, ud]
  generalize m_sI (m_sI (m_sI (m_sI (m_sI (m_sI (m_sI (m_sI ν (40, 0, 0) 45 (nI seed)) (40, 0, 0) 46 0) (40, 0, 0) 47 0) (40, 0, 0) 48 0) (40, 0, 0) 49 0) (40, 0, 0) 27 0) (40, 0, 0) 50 0) (40, 0, 0) 44 0 = ν1 at *
  rw [r_g45 hR8, r_l45_106 hR8, show m_I ν1 (45, 0, 0) = c from h0.1, h106]
  unfold fn_M_doAll
  rw [r_thb hR8, bd_bd]
  have h8 : ∀ s, s < S → c (107 + 9 * s + 8) = nI (e s) := fun s hs => by
    obtain ⟨k, p, t, m, q, hh⟩ := hst s hs
    exact hh.2.1
  refine e_bd (r_all (m := 8) (d := 3) hS h8 (r_one hS (fun _ _ => rfl) hst 8 3 (by omega)) 31 m_F ν1 0 S 300 (c, nI seed, 0) (by have := F_gt; omega) (by omega) (Nat.le_refl S) hw hR8 h0) ?_
  rintro - ν2 ⟨t2, W, r, hh⟩
  rcases hh with ⟨q1, q2⟩ | ⟨left, q1, q2⟩
  · have q3 := q2 [] (by decide) trivial
    obtain ⟨a1, a2, a3, a4, a5, a6, a7, a8, a9, a10, a11⟩ := q1
    exact ⟨(), _, rfl, W, r, false, q3.trans runL_S, a5, a1, a3, a4, a6, a8, a9, a10, a11, sm_tr s8 t2⟩
  · have q3 := q2 [] (by decide) trivial
    obtain ⟨a1, a2, a3, a4, a5, a6, a7, a8, a9, a10, a11⟩ := q1
    exact ⟨(), _, rfl, W, r, left, q3, a5, a1, a3, a4, a6, a8, a9, a10, a11, sm_tr s8 t2⟩
set_option maxHeartbeats 200000 in
theorem bc_thr {c' : Nat → Int32} (hT : T ≤ 8) (hM : Mo P T c c') : bcv (i_set (i_thr c') T &&& (i_set (i_thr c) T ^^^ (-1))) = nI (nTh c' T - nTh c T) := by
  have h2 := cnt_dif (b := i_thr c) (b' := i_thr c') T (fun t ht => hM.1 t ht)
  rw [set_dif hT, bcv_n _ (n_set_256 _ hT), cnt_set hT]
  refine congrArg nI ?_
  unfold nTh
  omega
set_option maxHeartbeats 200000 in
theorem bc_liv {c' : Nat → Int32} (hP : P ≤ 8) (hM : Mo P T c c') : bcv (i_set (fun p => c (19 + p)) P &&& (i_set (fun p => c' (19 + p)) P ^^^ (-1))) = nI (nLi c P - nLi c' P) := by
  have h2 := cnt_dif (b := fun p => c' (19 + p)) (b' := fun p => c (19 + p)) P (fun p hp => hM.2 p hp)
  rw [set_dif hP, bcv_n _ (n_set_256 _ hP), cnt_set hP]
  refine congrArg nI ?_
  unfold nLi
  omega
set_option maxHeartbeats 200000 in
theorem Mrk_sm2 {K : Nat → Nat → Nat → Nat → Prop} {μ' : mM} (h : Mrk μ n fa pa) (hs : sm K μ μ') (h1 : ¬ K 1 0 0 9) (h2 : ¬ K 40 0 0 24) (hn : n ≤ 3) (h3 : ∀ k, 377 ≤ k → k < 1508 → m_I μ' (45, 0, 0) k = m_I μ (45, 0, 0) k) (h4 : ∀ k, 14 ≤ k → k < 56 → ¬ K 48 0 0 k) (h5 : ∀ i, i < n → ∀ x z k, x = 7 ∨ x = 9 ∨ x = 10 ∨ x = 12 → ¬ K x (fa (2 + i)) z k) (h6 : ∀ i, i < n → ∀ k, k < 2 → ¬ K 13 (pa (3 + i)) 0 k) (h7 : ∀ i, i < n → ∀ z k, ¬ K 14 (pa (3 + i)) z k) : Mrk μ' n fa pa := by
  refine ⟨by rw [sm_I hs h1, h.1], by rw [sm_I hs h2, h.2.1], fun i hi => ?_⟩
  obtain ⟨P, T, hF, hD, hO, hL⟩ := h.2.2 i hi
  have hc : ∀ k, k < 377 → cB (cR μ') (i + 1) k = cB (cR μ) (i + 1) k := fun k q => h3 _ (by omega) (by omega)
  have hc' : ∀ k, k < 105 → cB (cR μ') (i + 1) k = cB (cR μ) (i + 1) k := fun k q => hc k (by omega)
  have hP := hD.2.2.1
  have hT := hD.2.2.2
  exact ⟨P, T, FamI_c (FamI_sm hF hs (h5 i hi)) hP hT hc' (fun k q => sm_J hs (h4 _ (by omega) (by omega))), Dim_c hc' hD, Okc_c hP hT hc' hO, PlanI_c (fun k _ q => hc k q) (PlanI_sm hL hs (h6 i hi) (h7 i hi))⟩
set_option maxHeartbeats 200000 in
/-- a call that lives the current family -/
theorem Inv_l {μ' : mM} (h : Inv μ made n fa pa P T) (hs : sm (fun x y _ k => Scr fa pa x y k ∨ (x = 1 ∧ (k = 0 ∨ k = 15)) ∨ (x = 40 ∧ (k = 0 ∨ k = 43)) ∨ ((x = 7 ∨ x = 9 ∨ x = 10 ∨ x = 12) ∧ y = fa 0) ∨ x = 45 ∨ x = 32 ∨ x = 58) μ μ') (hc : ∀ k, 105 ≤ k → k < 1508 → m_I μ' (45, 0, 0) k = m_I μ (45, 0, 0) k) (e : Sta μ') (eL : Liv μ') (eV : FamV μ' (fa 0) P T) : Inv μ' made n fa pa P T := by
  obtain ⟨f1, f2, f3, f4, f5, f6⟩ := ptr_facts h.1.1
  have hn := h.1.2
  have hm := h.1.1.2.2.1
  refine Inv_upd h hs e ?_ ?_ ?_ ?_ ?_ ?_ ?_ ?_
  · exact fun q => Fra_sm q.1 hs (by unfold Scr; omega) (by unfold Scr; omega) (by unfold Scr; omega) (by unfold Scr; omega)
  · exact fun q => Tra_sm q hs (by unfold Scr; omega) (by unfold Scr; omega) (by unfold Scr; omega)
  · exact fun q => Tap_sm q hs (by unfold Scr; omega) (by unfold Scr; omega) (by unfold Scr; omega) (by unfold Scr; omega)
  · exact fun q => Fau_sm q hs (by unfold Scr; omega) (by unfold Scr; omega) (by unfold Scr; omega) (by unfold Scr; omega)
  · exact fun _ => eL
  · exact fun _ => eV
  · exact fun q => PlanI_c (fun k h1 h2 => hc k h1 (by omega)) (PlanI_sm q hs (by unfold Scr; omega) (by unfold Scr; omega))
  · refine fun q => Mrk_sm2 q hs (by unfold Scr; omega) (by unfold Scr; omega) (by omega) (fun k h1 h2 => hc k (by omega) h2) (by unfold Scr; omega) ?_ ?_ ?_
    · intro i hi
      have := f6 i (by omega)
      unfold Scr
      omega
    · intro i hi
      have := f6 i (by omega)
      unfold Scr
      omega
    · intro i hi
      have := f6 i (by omega)
      unfold Scr
      omega
end LV
