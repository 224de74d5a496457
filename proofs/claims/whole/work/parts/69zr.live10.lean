/-! Part 69zr: mean, the reference's side, the call -/
section MR
variable {μ ν : mM} {made n P T : Nat} {fa pa : Nat → Nat}
set_option maxHeartbeats 200000 in
theorem r_copyTo (hR : RefP ν) : m_e (m_lp (fn_M_mean_l62 (some (40, 0, 0))) m_F 0 ν) (fun _ ν' => (∀ j, j < 105 → m_I ν' (47, 0, 0) j = m_I ν (45, 0, 0) j) ∧ sm (fun x _ _ _ => x = 47) ν ν') := by
  refine e_inv (fun i s ν' => s = nI i ∧ (∀ j, j < i → m_I ν' (47, 0, 0) j = m_I ν (45, 0, 0) j) ∧ sm (fun x _ _ _ => x = 47) ν ν') 105 ?_ ?_ ⟨rfl, fun j hj => absurd hj (Nat.not_lt_zero j), sm_rf⟩ (by omega)
  · rintro i s ν' hi ⟨rfl, h1, h2⟩
    have hR' := sm_R h2 hR
    unfold fn_M_mean_l62
    rw [ap_ite, if_neg (show ¬ (105 : Int32) ≤ nI i from nI_ge (b := 105) hi (by omega)), r_g47 hR', r_g45 hR', r_a45 hR' (by omega), r_t47 hR' hi]
    refine ⟨_, _, rfl, _, rfl, nI_1 i, fun j hj => ?_, sm_sI h2 _ rfl⟩
    by_cases z : j = i
    · subst z
      rw [I_row, ud_at, sm_I h2 (by omega)]
    · rw [I_row, ud_ne z, h1 j (by omega)]
  · rintro s ν' ⟨rfl, h1, h2⟩
    unfold fn_M_mean_l62
    rw [ap_ite, if_pos (show (105 : Int32) ≤ nI 105 from Int32.le_refl _)]
    exact ⟨_, _, rfl, _, rfl, h1, h2⟩
set_option maxHeartbeats 200000 in
theorem r_copyBack (hR : RefP ν) : m_e (m_lp (fn_M_mean_l116 (some (40, 0, 0))) m_F 0 ν) (fun _ ν' => (∀ j, j < 105 → m_I ν' (45, 0, 0) j = m_I ν (47, 0, 0) j) ∧ sm (fun x _ _ k => x = 45 ∧ k < 105) ν ν') := by
  refine e_inv (fun i s ν' => s = nI i ∧ (∀ j, j < i → m_I ν' (45, 0, 0) j = m_I ν (47, 0, 0) j) ∧ sm (fun x _ _ k => x = 45 ∧ k < 105) ν ν') 105 ?_ ?_ ⟨rfl, fun j hj => absurd hj (Nat.not_lt_zero j), sm_rf⟩ (by omega)
  · rintro i s ν' hi ⟨rfl, h1, h2⟩
    have hR' := sm_R h2 hR
    unfold fn_M_mean_l116
    rw [ap_ite, if_neg (show ¬ (105 : Int32) ≤ nI i from nI_ge (b := 105) hi (by omega)), r_g45 hR', r_g47 hR', r_a47 hR' hi, r_t45 hR' (by omega)]
    refine ⟨_, _, rfl, _, rfl, nI_1 i, fun j hj => ?_, sm_sI h2 _ ⟨rfl, hi⟩⟩
    by_cases z : j = i
    · subst z
      rw [I_row, ud_at, sm_I h2 (by omega)]
    · rw [I_row, ud_ne z, h1 j (by omega)]
  · rintro s ν' ⟨rfl, h1, h2⟩
    unfold fn_M_mean_l116
    rw [ap_ite, if_pos (show (105 : Int32) ≤ nI 105 from Int32.le_refl _)]
    exact ⟨_, _, rfl, _, rfl, h1, h2⟩
set_option maxHeartbeats 200000 in
theorem r_mean (hR : RefP ν) {c : Nat → Int32} (hc : m_I ν (45, 0, 0) = c) (hD : Dim c P T) (hO : Okc c P T) {S : Nat} {e : Nat → Nat} (h105 : c 105 = 1) (h106 : c 106 = nI S) (hS : S ≤ 30) (hst : ∀ s, s < S → ∃ k p t m q, StepI k p t m q (fun j => c (107 + 9 * s + j)) s (e s) P T) (hwf : wf e (fun s => c (107 + 9 * s) = 7 ∨ c (107 + 9 * s) = 8) 31 3 0 S) {a k : Nat} (hk1 : 1 ≤ k) (hk2 : k ≤ 20) (hak : a + k ≤ 10000) (hw1 : w_in (nI a) 0 (10000 - nI k) = 1) (hw2 : w_in (nI k) 1 20 = 1) (hsum : rsum P T S e (fun s j => c (107 + 9 * s + j)) c a k ≤ 7992 * k) : m_e (fn_M_mean (some (40, 0, 0)) (nI a) (nI k) ν) (fun v ν1 => v = 1 ∧ m_I ν1 (45, 0, 0) = c ∧ m_I ν1 (40, 0, 0) 0 = 0 ∧ m_J ν1 (40, 0, 0) 2 = lN (rsum P T S e (fun s j => c (107 + 9 * s + j)) c a k / Nat.gcd (rsum P T S e (fun s j => c (107 + 9 * s + j)) c a k) k) ∧ m_J ν1 (40, 0, 0) 3 = lN (k / Nat.gcd (rsum P T S e (fun s j => c (107 + 9 * s + j)) c a k) k) ∧ sm (fun x _ _ k => (x = 40 ∧ (k < 4 ∨ k = 27 ∨ (44 ≤ k ∧ k ≤ 50))) ∨ x = 45 ∨ x = 47) ν ν1) := by
  generalize hb : (fun (s j : Nat) => c (107 + 9 * s + j)) = b at *
  unfold fn_M_mean
  rw [r_pre hR]
  have hz : sm (fun x _ _ k => x = 40 ∧ k < 2) ν (zz ν) := sm_sI (sm_sI sm_rf _ (by omega)) _ (by omega)
  have hz0 : m_I (zz ν) (40, 0, 0) 0 = 0 := zz_0
  have hcz : m_I (zz ν) (45, 0, 0) = c := by rw [sm_Ir hz (by omega), hc]
  generalize zz ν = ν1 at *
  have hR1 := sm_R hz hR
  rw [bd_in_1_20, hw2, ap_ite, if_neg (by decide), bd_in_0, hw1, ap_ite, if_neg (by decide), r_g45 hR1, r_l45_105 hR1, hcz, h105, ap_ite, if_neg (by decide)]
  refine e_bd (r_copyTo hR1) ?_
  rintro - ν2 ⟨c2, s2⟩
  have hR2 := sm_R s2 hR1
  have hc2 : m_I ν2 (45, 0, 0) = c := by rw [sm_Ir s2 (by omega), hcz]
  have h47 : ∀ j, j < 105 → m_I ν2 (47, 0, 0) j = c j := fun j hj => by rw [c2 j hj, hcz]
  refine e_bd (R := fun t ν' => t = lN (rsum P T S e b c a k) ∧ m_I ν' (45, 0, 0) = c ∧ sm (fun x _ _ k => (x = 40 ∧ (k = 27 ∨ (44 ≤ k ∧ k ≤ 50))) ∨ x = 45) ν2 ν') ?_ ?_
  · refine e_inv (fun i s ν' => s = (lN (rsum P T S e b c a i), nI i) ∧ m_I ν' (45, 0, 0) = c ∧ sm (fun x _ _ k => (x = 40 ∧ (k = 27 ∨ (44 ≤ k ∧ k ≤ 50))) ∨ x = 45) ν2 ν') k ?_ ?_ ⟨rfl, hc2, sm_rf⟩ (by omega)
    · rintro i s ν3 hi ⟨rfl, hc3, s3⟩
      have hR3 := sm_R s3 hR2
      unfold fn_M_mean_l91
      rw [ap_ite, if_neg (show ¬ nI k ≤ nI i from nI_ge hi (by omega)), nI_add]
      refine e_bd (r_runs hR3 hc3 hD hO h106 hS hst hwf (show a + i ≤ 65535 by omega)) ?_
      rintro - ν4 ⟨W, r, left, g1, g2, g3, -, -, -, -, g8, -, g10, g11⟩
      have hR4 := sm_R g11 hR3
      rw [hb] at g1
      obtain ⟨r1, r2⟩ := rv_ok g1 g8
      have hDW : Dim (cR ν4) P T := by rw [show cR ν4 = W.1 from g3]; exact g8.2.1
      have hall := r_allRust hR4 hDW
      rw [show cR ν4 = W.1 from g3, r1] at hall
      rw [bd_of hall]
      refine e_bd (r_copyBack hR4) ?_
      rintro - ν5 ⟨c5, s5⟩
      refine ⟨_, _, rfl, _, rfl, ?_, ?_, sm_tr (sm_tr s3 g11) (sm_mono s5 (by omega))⟩
      · show (lN (rsum P T S e b c a i) + (nI (rv P T S e b c (a + i))).toInt64, nI i + 1) = (lN (rsum P T S e b c a i + rv P T S e b c (a + i)), nI (i + 1))
        rw [nI_l (by omega), lN_add, nI_1]
      · funext j
        by_cases z : j < 105
        · rw [c5 j z, sm_I g11 (by omega), sm_I s3 (by omega), h47 j z]
        · rw [sm_I s5 (by omega), g3, g10 j (by omega)]
    · rintro s ν3 ⟨rfl, hc3, s3⟩
      unfold fn_M_mean_l91
      rw [ap_ite, if_pos (show nI k ≤ nI k from Int32.le_refl _)]
      exact ⟨_, _, rfl, _, rfl, rfl, hc3, s3⟩
  · rintro t ν3 ⟨rfl, hc3, s3⟩
    have hR3 := sm_R s3 hR2
    have s4 : sm (fun x _ _ k => x = 40 ∧ (k = 2 ∨ k = 3)) ν3 (m_sJ (m_sJ ν3 (40, 0, 0) 2 (lN (rsum P T S e b c a k / Nat.gcd (rsum P T S e b c a k) k))) (40, 0, 0) 3 (lN (k / Nat.gcd (rsum P T S e b c a k) k))) := sm_sJ (sm_sJ sm_rf _ (by omega)) _ (by omega)
    rw [nI_l (by omega), bd_of (r_fraction hR3 (show rsum P T S e b c a k < 2 ^ 31 by omega) (show k < 2 ^ 31 by omega) (by omega)), bd_cz (.inr rfl)]
    refine ⟨_, _, rfl, rfl, ?_, ?_, ?_, ?_, ?_⟩
    · rw [sm_Ir s4 (by omega), hc3]
    · rw [sm_I s4 (by omega), sm_I s3 (by omega), sm_I s2 (by omega), hz0]
    · rw [J_row, ud_ne (by decide), J_row, ud_at]
    · rw [J_row, ud_at]
    · exact sm_tr (sm_tr (sm_tr (sm_mono hz (by omega)) (sm_mono s2 (by omega))) (sm_mono s3 (by omega))) (sm_mono s4 (by omega))
set_option maxHeartbeats 200000 in
theorem w_in_0 {x a b : Int32} (h : x < a ∨ b < x) : w_in x a b = 0 := by
  unfold w_in
  rcases h with h | h
  · rw [if_pos h]
  · by_cases z : x < a
    · rw [if_pos z]
    · rw [if_neg z, if_pos h]
set_option maxHeartbeats 200000 in
theorem call_mean (h : Inv μ made n fa pa P T) (x y : Int32) : Jn (fn_C_mean (some (1, 0, 0)) x y) (fn_M_mean (some (40, 0, 0)) x y) μ := by
  obtain ⟨hC, hM, hP, hI, hD⟩ := Inv_cur h
  obtain ⟨⟨hpq, hnm⟩, i2, i3, i4, i5, i6, i7, i8, i9, i10⟩ := id h
  obtain ⟨-, -, hm3, -, hfs, -⟩ := id hpq
  obtain ⟨-, -, e9, hL⟩ := hfs 0 (by omega)
  have h5 : ∀ (hcl : m_e (fn_C_mean (some (1, 0, 0)) x y μ) (QC fa pa μ 5 0)) (hrf : w_in y 1 20 = 0 ∨ (w_in y 1 20 = 1 ∧ w_in x 0 (10000 - y) = 0)), Jn (fn_C_mean (some (1, 0, 0)) x y) (fn_M_mean (some (40, 0, 0)) x y) μ := by
    intro hcl hrf
    refine call_q h (fun μ hR => r_pre hR _) 5 0 hcl (fun ν hR e ez => ?_)
    rcases hrf with q | ⟨q, q'⟩
    · rw [bd_in_1_20, q, ap_ite, if_pos rfl, bd_of (r_no hR 5), bd_cz (.inl rfl)]
      exact ⟨_, _, rfl, QR_st _ _⟩
    · rw [bd_in_1_20, q, ap_ite, if_neg (by decide), bd_in_0, q', ap_ite, if_pos rfl, bd_of (r_no hR 5), bd_cz (.inl rfl)]
      exact ⟨_, _, rfl, QR_st _ _⟩
  have hst : ∀ (v : Int32), ¬ v = 0 → m_e (m_bd (m_rt v) (fun t6 => m_bd (m_pI 0 0 (some (1, 0, 0)) t6) fun _ => m_bd (m_gI 0 0 (some (1, 0, 0))) fun v7 => if v7 = 0 then m_bd (m_lp (fn_C_mean_l73 (some (1, 0, 0)) x y) m_F (0, 0)) fun (t16 : Int32) => m_bd (fn_C_tell (some (1, 0, 0)) (t16).toInt64 (y).toInt64) fun _ => m_rt 1 else m_rt (0 : Int32)) μ) (QC fa pa μ v 0) := by
    intro v hv
    rw [bd_rt, c_main_pI hC, c_main_gI (show ClsP (m_sI μ (1, 0, 0) 0 v) from hC), I_row, ud_at, ap_ite, if_neg hv]
    exact ⟨_, _, rfl, QC_st _ _⟩
  rcases w_in_cases (x := x) (A := 0) (B := 9999) (by omega) (by omega) with h1 | ⟨a, ha1, ha2, rfl, h1⟩
  · have h1' : w_in x 0 9999 = 0 := h1
    refine h5 ?_ ?_
    · unfold fn_C_mean
      rw [c_main_th hC, bd_within, h1', bd_ite, if_pos rfl]
      exact hst 5 (by decide)
    · rcases w_in_cases (x := y) (A := 1) (B := 20) (by omega) (by omega) with h2 | ⟨k, hk1, hk2, rfl, h2⟩
      · exact .inl h2
      · refine .inr ⟨h2, ?_⟩
        have e1 : (10000 : Int32) - nI k = nI (10000 - k) := pk_sub (a := 10000) (by omega)
        rw [e1]
        rcases w_in_cases (x := x) (A := 0) (B := 10000 - k) (by omega) (by omega) with h3 | ⟨p, hp1, hp2, rfl, h3⟩
        · exact h3
        · rcases w_in_cases (x := nI p) (A := 0) (B := 9999) (by omega) (by omega) with h4 | ⟨q, hq1, hq2, hq3, h4⟩
          · exfalso
            have h6 : w_in (nI p) (nI 0) (nI 9999) = 1 := by
              unfold w_in
              rw [if_neg (Int32.not_lt.mpr (nI_le (by omega) (by omega))), if_neg (Int32.not_lt.mpr (nI_le (by omega) (by omega)))]
            rw [h6] at h4
            exact absurd h4 (by decide)
          · rw [h1] at h4
            exact absurd h4 (by decide)
  · have h1' : w_in (nI a) 0 9999 = 1 := h1
    rcases w_in_cases (x := y) (A := 1) (B := 20) (by omega) (by omega) with h2 | ⟨k, hk1, hk2, rfl, h2⟩
    · have h2' : w_in y 1 20 = 0 := h2
      refine h5 ?_ (.inl h2')
      unfold fn_C_mean
      rw [c_main_th hC, bd_within, h1', bd_ite, if_neg (by decide), bd_bd, bd_within, h2', bd_ite, if_pos rfl]
      exact hst 5 (by decide)
    · have h2' : w_in (nI k) 1 20 = 1 := h2
      have e1 : (10000 : Int32) - nI k = nI (10000 - k) := pk_sub (a := 10000) (by omega)
      have e2 : nI a + nI k - 1 = nI (a + k - 1) := by rw [nI_add, show (1 : Int32) = nI 1 from rfl, pk_sub (by omega)]
      by_cases hak : a + k ≤ 10000
      · have hle : nI a + nI k - 1 ≤ 9999 := by
          rw [e2]
          exact nI_le (b := 9999) (by omega) (by omega)
        have h3 : w_in (nI a) 0 (10000 - nI k) = 1 := by
          rw [e1]
          show w_in (nI a) (nI 0) (nI (10000 - k)) = 1
          unfold w_in
          rw [if_neg (Int32.not_lt.mpr (nI_le (by omega) (by omega))), if_neg (Int32.not_lt.mpr (nI_le (by omega) (by omega)))]
        by_cases hp0 : m_I μ (13, pa 1, 0) 0 = 0
        · have h105 : cR μ 105 = 0 := by
            rcases i9 with ⟨-, q, -⟩ | ⟨q, -⟩
            · exact q
            · rw [hp0] at q
              exact absurd q (by decide)
          refine call_q h (fun μ hR => r_pre hR _) 8 0 ?_ (fun ν hR e ez => ?_)
          · unfold fn_C_mean
            rw [c_main_th hC, bd_within, h1', bd_ite, if_neg (by decide), bd_bd, bd_within, h2', bd_ite, if_neg (by decide), bd_ite, if_pos hle, bd_bd, bd_gR' (o_main hC) hM, bd_bd, bd_gR' (o_fam hP) e9, bd_bd, c_plan_gI hL, show m_I μ (13, pa (0 + 1), 0) 0 = 0 from hp0, bd_ite, if_pos rfl]
            exact hst 8 (by decide)
          · rw [bd_in_1_20, h2', ap_ite, if_neg (by decide), bd_in_0, h3, ap_ite, if_neg (by decide), r_g45 hR, r_l45_105 hR, (e 45 (by omega)).1, show m_I μ (45, 0, 0) 105 = 0 from h105, ap_ite, if_pos rfl, bd_of (r_no hR 8), bd_cz (.inl rfl)]
            exact ⟨_, _, rfl, QR_st _ _⟩
        · obtain ⟨-, t105, S, e, t106, tp, twf⟩ := Plan_told i9 hp0
          refine e_mono (k_mean h hp0 hk1 hk2 hak h1' h2' tp) ?_
          rintro v μ1 ⟨rfl, g1, g2, g3, g4, g5⟩
          have hR1 : RefP μ1 := sm_R g5 (Inv_ref h)
          have hc1 : m_I μ1 (45, 0, 0) = cR μ := sm_Ir g5 (by unfold KC; omega)
          refine e_mono (r_mean hR1 hc1 hD (Inv_ok h) t105 t106 tp.2.1 (fun s hs => ⟨_, _, _, _, _, tp.2.2.2 s hs⟩) twf hk1 hk2 hak h3 h2' g4) ?_
          rintro v' μ2 ⟨rfl, f1, f2, f3, f4, f5⟩
          refine ⟨rfl, made, n, fa, pa, P, T, Inv_f2 h (sm_tr (sm_mono g5 ?_) (sm_mono f5 ?_)) (fun k hk => ?_) ?_ ⟨?_, ?_⟩⟩
          · rintro x y z k (q | q)
            · rcases KC_Scr q with q | q | q
              · exact .inl q
              · exact .inr (.inl ⟨q.1, by omega⟩)
              · exact .inr (.inr (.inl ⟨q.1, .inl q.2⟩))
            · exact .inr (.inl q)
          · intro x y z k q
            rcases q with ⟨q, hk⟩ | q | q
            · by_cases k0 : k = 0
              · exact .inr (.inr (.inl ⟨q, .inl k0⟩))
              · by_cases k2 : k = 2
                · exact .inr (.inr (.inl ⟨q, .inr (.inl k2)⟩))
                · by_cases k3 : k = 3
                  · exact .inr (.inr (.inl ⟨q, .inr (.inr k3)⟩))
                  · exact .inl (.inr (.inr (.inr (.inr (.inr (.inl ⟨q, k0, k2, k3, by omega, by omega, by omega, by omega, by omega⟩))))))
            · exact .inr (.inr (.inr q))
            · exact .inl (.inr (.inr (.inr (.inr (.inr (.inr (.inr (.inr (.inl q)))))))))
          · rw [f1]
          · show m_I μ2 (1, 0, 0) 0 = m_I μ2 (40, 0, 0) 0
            rw [f2, sm_I f5 (by omega), g1]
          · rw [f3, sm_J f5 (by omega), g2]
          · rw [f4, sm_J f5 (by omega), g3]
      · refine h5 ?_ (.inr ⟨h2', ?_⟩)
        · unfold fn_C_mean
          rw [c_main_th hC, bd_within, h1', bd_ite, if_neg (by decide), bd_bd, bd_within, h2', bd_ite, if_neg (by decide), bd_ite, if_neg (show ¬ nI a + nI k - 1 ≤ 9999 from by rw [e2]; exact nI_ge (b := a + k - 1) (a := 9999) (by omega) (by omega))]
          exact hst 5 (by decide)
        · rw [e1]
          exact w_in_0 (.inr (nI_lt (by omega) (by omega)))
end MR
