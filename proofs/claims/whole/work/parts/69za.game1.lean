/-! Part 69za: the class plays -/
section GP
variable {μ : mM} {f P T : Nat} {c : Nat → Int32} {w : Nat → Int64}
set_option maxHeartbeats 200000 in
theorem k_bestFrom {TH : Nat → Int32} {L : Nat → Nat → Int32} {n : Nat} (hn : n ≤ 4) : ∀ fuel j k, j < fuel → k + j = n → ∀ (μ : mM) (G : Nat → tri), Cur μ f c w P T → (∀ s, s < 2 → BD μ (2 * k + s) (TH s) (G s)) → (∀ i s, 1 ≤ i → i ≤ n → s < 2 → m_I μ (31, 0, 0) (2 * i + s) = L s i) → m_e (fn_Ga_bestFrom fuel (some (29, 0, 0)) (some (7, f, 0)) (nI k) (nI n) μ) (fun v μ' => v = gv TH L (c 4) (c 5) n j G ∧ sm (fun x y z k' => (x = 12 ∧ y = 6 ∧ 2 * k + 2 ≤ z) ∨ (x = 29 ∧ k' = 0 ∧ k = 0)) μ μ' ∧ (k = 0 → 0 < j → m_I μ' (29, 0, 0) 0 = (gbst 0 (okG TH 0 G) (fun m => gv TH L (c 4) (c 5) n (j - 1) (gm' TH L (c 4) (c 5) 0 m G)) 3).2))
  | 0, j, k, h, _ => by omega
  | fuel + 1, j, k, hj, hkj => by
    intro μ G hc hB hL
    obtain ⟨hC, hM, hP, hI, hD⟩ := id hc
    have hf5 : f < 5 := hP.1
    unfold fn_Ga_bestFrom fn_Ga_bestFrom_r
    rw [c_gam_th hC, ap_ite]
    cases j with
    | zero =>
      obtain rfl : k = n := by omega
      have e0 : (2 : Int32) * nI k = nI (2 * k + 0) := by rw [show (2 : Int32) = nI 2 from rfl, pk_mul]; rfl
      have e1 : (2 : Int32) * nI k + 1 = nI (2 * k + 1) := by rw [show (2 : Int32) = nI 2 from rfl, pk_mul, nI_1]
      rw [if_pos (Int32.le_refl (nI k)), e1, e0, c_gam_r1 hC, c_brds_r hC (by omega), c_brd_gI hC (by omega), c_gam_r1 hC, c_brds_r hC (by omega), c_brd_gI hC (by omega), (hB 0 (by omega)).2.2.1, (hB 1 (by omega)).2.2.1]
      exact ⟨_, _, rfl, rfl, sm_rf, fun _ h => absurd h (Nat.lt_irrefl 0)⟩
    | succ j =>
      have hk4 : k < 4 := by omega
      have hkn : n - (j + 1) = k := by omega
      have hgv : gv TH L (c 4) (c 5) n (j + 1) G = (gbst (k % 2) (okG TH k G) (fun m => gv TH L (c 4) (c 5) n j (gm' TH L (c 4) (c 5) k m G)) 3).1 := by
        show (gbst ((n - (j + 1)) % 2) _ _ 3).1 = _
        rw [hkn]
      rw [hgv, if_neg (nI_ge (by omega) (by omega)), ap_ite, if_pos (show nI k < 4 from nI_lt (b := 4) hk4 (by omega)), show j + 1 - 1 = j from rfl]
      have ih := k_bestFrom (TH := TH) (L := L) hn fuel j (k + 1) (by omega) (by omega)
      have hmain : m_e (m_lp (fn_Ga_bestFrom_l45 (fn_Ga_bestFrom fuel) (some (29, 0, 0)) (some (7, f, 0)) (nI k) (nI n)) m_F (0, 0, 0) μ) (fun v μ' => v = (gbst (k % 2) (okG TH k G) (fun m => gv TH L (c 4) (c 5) n j (gm' TH L (c 4) (c 5) k m G)) 3).1 ∧ sm (fun x y z k' => (x = 12 ∧ y = 6 ∧ 2 * k + 2 ≤ z) ∨ (x = 29 ∧ k' = 0 ∧ k = 0)) μ μ' ∧ (k = 0 → m_I μ' (29, 0, 0) 0 = (gbst (k % 2) (okG TH k G) (fun m => gv TH L (c 4) (c 5) n j (gm' TH L (c 4) (c 5) k m G)) 3).2)) := by
        generalize hg : (fun m => gv TH L (c 4) (c 5) n j (gm' TH L (c 4) (c 5) k m G)) = g at *
        have hgm : ∀ m, g m = gv TH L (c 4) (c 5) n j (gm' TH L (c 4) (c 5) k m G) := fun m => by rw [← hg]
        refine e_inv (fun m s μ' => s = ((gbst (k % 2) (okG TH k G) g m).1, (if (gbst (k % 2) (okG TH k G) g m).2 = -1 then 0 else 1), nI m) ∧ sm (fun x y z k' => (x = 12 ∧ y = 6 ∧ 2 * k + 2 ≤ z) ∨ (x = 29 ∧ k' = 0 ∧ k = 0)) μ μ' ∧ (k = 0 → (gbst (k % 2) (okG TH k G) g m).2 ≠ -1 → m_I μ' (29, 0, 0) 0 = (gbst (k % 2) (okG TH k G) g m).2)) 3 ?_ ?_ ⟨rfl, sm_rf, fun _ h => absurd rfl h⟩ (by omega)
        · rintro m s μ1 hm ⟨rfl, b1, b2⟩
          have hc1 := Cur_sm hc b1 (by omega)
          obtain ⟨hC1, hM1, hP1, hI1, -⟩ := id hc1
          have hB1 : ∀ s, s < 2 → BD μ1 (2 * k + s) (TH s) (G s) := fun s hs => BD_sm (hB s hs) b1 (by omega)
          have hcm := k_canMove hC1 hk4 hm hB1
          have hge : ¬ (3 : Int32) ≤ nI m := nI_ge hm (by decide)
          unfold fn_Ga_bestFrom_l45
          rw [ap_ite, if_neg hge, bd_of hcm]
          by_cases z : okG TH k G m = true
          · rw [if_pos z, bd_ite, if_neg (by decide), bd_bd]
            refine e_bd (k_makeMove (L := L) hc1 hk4 hm hB1 (fun s hs => by rw [sm_I b1 (by omega)]; exact hL (k + 1) s (by omega) (by omega) hs)) ?_
            rintro - μ2 ⟨d1, d2⟩
            have hc2 := Cur_sm hc1 d1 (by omega)
            rw [nI_1, bd_bd]
            refine e_bd (ih μ2 (gm' TH L (c 4) (c 5) k m G) hc2 d2 (fun i s h1 h2 h3 => by rw [sm_I d1 (by omega), sm_I b1 (by omega)]; exact hL i s h1 h2 h3)) ?_
            rintro _ μ3 ⟨rfl, g1, -⟩
            have hC3 := sm_C g1 hc2.1
            rw [← hgm]
            have h3 : sm (fun x y z k' => (x = 12 ∧ y = 6 ∧ 2 * k + 2 ≤ z) ∨ (x = 29 ∧ k' = 0 ∧ k = 0)) μ μ3 := sm_tr b1 (sm_tr (sm_mono d1 (by omega)) (sm_mono g1 (by omega)))
            have e29 : m_I μ3 (29, 0, 0) 0 = m_I μ1 (29, 0, 0) 0 := by rw [sm_I g1 (by omega), sm_I d1 (by omega)]
            have htake : (gbst (k % 2) (okG TH k G) g (m + 1) = (g m, nI m)) → m_e (m_bd (m_bd (if nI k = 0 then m_rt (nI m) else m_bd (m_gI 10 0 (some (29, 0, 0))) fun v10 => m_rt v10) fun t11 => m_bd (m_pI 10 0 (some (29, 0, 0)) t11) fun _ => m_rt (g m, (1 : Int32))) (fun t16 => m_rt (Sum.inl (β := Int32) (t16.1, t16.2, nI m + 1))) μ3) (fun r μ' => ∃ s', r = .inl s' ∧ s' = ((gbst (k % 2) (okG TH k G) g (m + 1)).1, (if (gbst (k % 2) (okG TH k G) g (m + 1)).2 = -1 then 0 else 1), nI (m + 1)) ∧ sm (fun x y z k' => (x = 12 ∧ y = 6 ∧ 2 * k + 2 ≤ z) ∨ (x = 29 ∧ k' = 0 ∧ k = 0)) μ μ' ∧ (k = 0 → (gbst (k % 2) (okG TH k G) g (m + 1)).2 ≠ -1 → m_I μ' (29, 0, 0) 0 = (gbst (k % 2) (okG TH k G) g (m + 1)).2)) := fun e => by
              have hne : ¬ nI m = -1 := nI_m1 (by omega)
              rw [e, bd_bd, bd_ite]
              by_cases y : k = 0
              · rw [y, if_pos (by decide), bd_rt, bd_bd, c_gam_pI hC3]
                refine ⟨_, _, rfl, _, rfl, by rw [if_neg hne, nI_1], ?_, fun _ _ => by rw [I_row, ud_at]⟩
                rw [y] at h3
                exact sm_sI h3 _ (.inr ⟨rfl, rfl, rfl⟩)
              · rw [if_neg (nI_ne0 (by omega) (by omega)), bd_bd, c_gam_gI hC3, bd_rt, bd_bd, c_gam_pI hC3, s_self]
                exact ⟨_, _, rfl, _, rfl, by rw [if_neg hne, nI_1], h3, fun w => absurd w y⟩
            have hkeep : (gbst (k % 2) (okG TH k G) g (m + 1) = gbst (k % 2) (okG TH k G) g m) → m_e (m_bd (m_rt ((gbst (k % 2) (okG TH k G) g m).1, (if (gbst (k % 2) (okG TH k G) g m).2 = -1 then (0 : Int32) else 1))) (fun t16 => m_rt (Sum.inl (β := Int32) (t16.1, t16.2, nI m + 1))) μ3) (fun r μ' => ∃ s', r = .inl s' ∧ s' = ((gbst (k % 2) (okG TH k G) g (m + 1)).1, (if (gbst (k % 2) (okG TH k G) g (m + 1)).2 = -1 then 0 else 1), nI (m + 1)) ∧ sm (fun x y z k' => (x = 12 ∧ y = 6 ∧ 2 * k + 2 ≤ z) ∨ (x = 29 ∧ k' = 0 ∧ k = 0)) μ μ' ∧ (k = 0 → (gbst (k % 2) (okG TH k G) g (m + 1)).2 ≠ -1 → m_I μ' (29, 0, 0) 0 = (gbst (k % 2) (okG TH k G) g (m + 1)).2)) := fun e => by
              rw [e]
              exact ⟨_, _, rfl, _, rfl, by rw [nI_1], h3, fun w v => by rw [e29]; exact b2 w v⟩
            have hstep : gbst (k % 2) (okG TH k G) g (m + 1) = if okG TH k G m = true ∧ ((gbst (k % 2) (okG TH k G) g m).2 = -1 ∨ (if k % 2 = 0 then (gbst (k % 2) (okG TH k G) g m).1 < g m else g m < (gbst (k % 2) (okG TH k G) g m).1)) then (g m, nI m) else gbst (k % 2) (okG TH k G) g m := rfl
            dsimp only
            rw [bd_ite]
            by_cases y : (gbst (k % 2) (okG TH k G) g m).2 = -1
            · rw [if_pos (by rw [if_pos y])]
              exact htake (by rw [hstep, if_pos ⟨z, .inl y⟩])
            · rw [if_neg (by rw [if_neg y]; decide), bd_ite, iR_2 k (by omega)]
              by_cases x : k % 2 = 0
              · rw [if_pos (by rw [x]; rfl), bd_ite]
                by_cases u : g m ≤ (gbst (k % 2) (okG TH k G) g m).1
                · rw [if_pos u]
                  refine hkeep ?_
                  rw [hstep, if_neg]
                  rintro ⟨-, v | v⟩
                  · exact y v
                  · rw [if_pos x] at v
                    exact absurd v (Int32.not_lt.mpr u)
                · rw [if_neg u]
                  exact htake (by rw [hstep, if_pos ⟨z, .inr (by rw [if_pos x]; exact Int32.not_le.mp u)⟩])
              · rw [if_neg (nI_ne0 (by omega) (by omega)), bd_ite]
                by_cases u : (gbst (k % 2) (okG TH k G) g m).1 ≤ g m
                · rw [if_pos u]
                  refine hkeep ?_
                  rw [hstep, if_neg]
                  rintro ⟨-, v | v⟩
                  · exact y v
                  · rw [if_neg x] at v
                    exact absurd v (Int32.not_lt.mpr u)
                · rw [if_neg u]
                  exact htake (by rw [hstep, if_pos ⟨z, .inr (by rw [if_neg x]; exact Int32.not_le.mp u)⟩])
          · have e : gbst (k % 2) (okG TH k G) g (m + 1) = gbst (k % 2) (okG TH k G) g m := if_neg fun q => z q.1
            rw [if_neg z, bd_ite, if_pos rfl, e]
            exact ⟨_, _, rfl, _, rfl, by rw [nI_1], b1, b2⟩
        · rintro s μ1 ⟨rfl, b1, b2⟩
          unfold fn_Ga_bestFrom_l45
          rw [ap_ite, if_pos (show (3 : Int32) ≤ nI 3 by decide)]
          obtain ⟨i, hi, h3⟩ := gbst_3 (b := k % 2) (ok := okG TH k G) (g := g) rfl
          exact ⟨_, _, rfl, _, rfl, rfl, b1, fun q => b2 q (by rw [h3]; exact nI_m1 (by omega))⟩
      refine e_bd hmain ?_
      rintro v μ1 ⟨b1, b2, b3⟩
      refine ⟨_, _, rfl, b1, b2, fun q _ => ?_⟩
      subst q
      exact b3 rfl
/-- what the two things love to be loved -/
def ttG (t e s : Nat) : Nat := if s = 0 then t else e
abbrev THG (c : Nat → Int32) (t e : Nat) : Nat → Int32 := fun s => c (25 + ttG t e s)
abbrev LG (c : Nat → Int32) (P t e : Nat) : Nat → Nat → Int32 := fun s i => lvN c P (ttG t e s) i
abbrev GG (c : Nat → Int32) (t e : Nat) : Nat → tri := fun s => th3 c (ttG t e s)
set_option maxHeartbeats 200000 in
theorem k_play (hc : Cur μ f c w P T) {t e n : Nat} (ht : t < T) (he : e < T) (hn : n ≤ 4) : m_e (fn_Ga_play (some (29, 0, 0)) (some (7, f, 0)) (nI t) (nI e) (nI n) μ) (fun v μ' => v = gv (THG c t e) (LG c P t e) (c 4) (c 5) n n (GG c t e) ∧ sm (fun x y _ _ => (x = 12 ∧ y = 6) ∨ (29 ≤ x ∧ x ≤ 31)) μ μ' ∧ (0 < n → m_I μ' (29, 0, 0) 0 = (gbst 0 (okG (THG c t e) 0 (GG c t e)) (fun m => gv (THG c t e) (LG c P t e) (c 4) (c 5) n (n - 1) (gm' (THG c t e) (LG c P t e) (c 4) (c 5) 0 m (GG c t e))) 3).2)) := by
  obtain ⟨hC, hM, hP, hI, hD⟩ := id hc
  obtain ⟨hP0, hT0, hP6, hT8⟩ := id hD
  have hf5 : f < 5 := hP.1
  have hne : ∀ i j, ((12, f, i) : mA) ≠ (12, 6, j) := fun i j q => by
    have := congrArg (fun a : mA => a.2.1) q
    simp only at this
    omega
  have ht8 : t < 8 := by omega
  have he8 : e < 8 := by omega
  unfold fn_Ga_play
  rw [c_gam_th hC, c_gam_r1 hC, c_brds_r0 hC, c_fam_r8 hP, c_itm_r hP ht8]
  refine e_bd (k_copyFrom (o_brd hC (show 0 < 10 by omega)) (o_thi hP ht8) (hne t 0)) ?_
  rintro - μ1 ⟨a1, -, a2⟩
  have hc1 := Cur_sm hc a2 (by omega)
  obtain ⟨hC1, hM1, hP1, hI1, -⟩ := id hc1
  rw [c_gam_r1 hC1, c_brds_r1 hC1, c_fam_r8 hP1, c_itm_r hP1 he8]
  refine e_bd (k_copyFrom (o_brd hC1 (show 1 < 10 by omega)) (o_thi hP1 he8) (hne e 1)) ?_
  rintro - μ2 ⟨d1, -, d2⟩
  have hc2 := Cur_sm hc1 d2 (by omega)
  have hs2 : sm (fun x y _ _ => (x = 12 ∧ y = 6) ∨ (29 ≤ x ∧ x ≤ 31)) μ μ2 := sm_tr (sm_mono a2 (by omega)) (sm_mono d2 (by omega))
  have hB2 : ∀ s, s < 2 → BD μ2 (2 * 0 + s) (THG c t e s) (GG c t e s) := fun s hs => by
    obtain rfl | rfl : s = 0 ∨ s = 1 := by omega
    · refine ⟨?_, ?_, ?_, ?_⟩
      · rw [sm_I d2 (by omega), a1 1 (by omega) (by omega), fi_thk hI ht]; rfl
      · rw [sm_I d2 (by omega), a1 2 (by omega) (by omega), fi_coa hI ht]; rfl
      · rw [sm_I d2 (by omega), a1 3 (by omega) (by omega), fi_rus hI ht]; rfl
      · rw [sm_I d2 (by omega), a1 4 (by omega) (by omega), fi_oil hI ht]; rfl
    · refine ⟨?_, ?_, ?_, ?_⟩
      · rw [d1 1 (by omega) (by omega), fi_thk hI1 he]; rfl
      · rw [d1 2 (by omega) (by omega), fi_coa hI1 he]; rfl
      · rw [d1 3 (by omega) (by omega), fi_rus hI1 he]; rfl
      · rw [d1 4 (by omega) (by omega), fi_oil hI1 he]; rfl
  have hl : m_e (m_lp (fn_Ga_play_l33 (some (29, 0, 0)) (some (7, f, 0)) (nI t) (nI e) (nI n)) m_F 1 μ2) (fun _ μ' => sm (fun x _ _ _ => x = 31) μ2 μ' ∧ ∀ i s, 1 ≤ i → i ≤ n → s < 2 → m_I μ' (31, 0, 0) (2 * i + s) = LG c P t e s i) := by
    refine e_inv (fun j s μ' => s = nI (j + 1) ∧ sm (fun x _ _ _ => x = 31) μ2 μ' ∧ ∀ i s, 1 ≤ i → i ≤ j → s < 2 → m_I μ' (31, 0, 0) (2 * i + s) = LG c P t e s i) n ?_ ?_ ⟨rfl, sm_rf, fun i s h1 h2 => by omega⟩ (by omega)
    · rintro j s μ' hj ⟨rfl, b1, b2⟩
      obtain ⟨hC3, hM3, hP3, hI3, -⟩ := Cur_sm hc2 b1 (by omega)
      have hlt := nI_nlt (show j + 1 ≤ n by omega) (show n < 2 ^ 31 by omega)
      have e0 : (2 : Int32) * nI (j + 1) = nI (2 * (j + 1)) := pk_mul 2 (j + 1)
      have l1 := k_lovedAhead hP3 hI3 hD ht8 (nI (j + 1))
      have g1 : sm (fun x _ _ _ => x = 31) μ' (m_sI μ' (31, 0, 0) (2 * (j + 1)) (i_lvf (i_sha c (nI (j + 1))) c t P)) := sm_sI sm_rf _ rfl
      obtain ⟨hC4, hM4, hP4, hI4, -⟩ := Cur_sm (Cur_sm hc2 b1 (by omega)) g1 (by omega)
      have l2 := k_lovedAhead hP4 hI4 hD he8 (nI (j + 1))
      unfold fn_Ga_play_l33
      rw [ap_ite, if_neg hlt, c_gam_r2 hC3, bd_of l1, e0, c_glv_t hC3 (by omega), c_gam_r2 hC4, bd_of l2, nI_1, c_glv_t hC4 (by omega)]
      refine ⟨_, _, rfl, _, rfl, nI_1 (j + 1), sm_sI (sm_tr b1 g1) _ rfl, fun i s h1 h2 hs => ?_⟩
      by_cases z : i = j + 1
      · subst z
        obtain rfl | rfl : s = 0 ∨ s = 1 := by omega
        · rw [I_row, ud_ne (by omega), I_row]
          show ud _ (2 * (j + 1)) _ (2 * (j + 1)) = _
          rw [ud_at]
          rfl
        · rw [I_row, ud_at]
          rfl
      · rw [I_row, ud_ne (by omega), I_row, ud_ne (by omega)]
        exact b2 i s h1 (by omega) hs
    · rintro s μ' ⟨rfl, b1, b2⟩
      unfold fn_Ga_play_l33
      rw [ap_ite, if_pos (nI_lt (show n < n + 1 by omega) (by omega))]
      exact ⟨_, _, rfl, (), rfl, b1, b2⟩
  refine e_bd hl ?_
  rintro - μ3 ⟨g1, g2⟩
  have hc3 := Cur_sm hc2 g1 (by omega)
  have hk := k_bestFrom (TH := THG c t e) (L := LG c P t e) hn 8 n 0 (by omega) (by omega) μ3 (GG c t e) hc3 (fun s hs => BD_sm (hB2 s hs) g1 (by omega)) g2
  refine e_bd hk ?_
  rintro v μ4 ⟨h1, h2, h3⟩
  exact ⟨_, _, rfl, h1, sm_tr hs2 (sm_tr (sm_mono g1 (by omega)) (sm_mono h2 (by omega))), h3 rfl⟩
end GP
