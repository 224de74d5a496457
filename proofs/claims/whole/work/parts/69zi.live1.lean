/-! Part 69zi: what a step does, in the block -/
section AO
variable {P T : Nat} {c : Nat → Int32}
set_option maxHeartbeats 200000 in
theorem Mo_yrs (hO : Okc c P T) (hP : P ≤ 6) (hT : T ≤ 8) {n : Nat} (hn : n < 1000) : Mo P T c (y_yrs c P T n) := by
  refine ⟨fun t ht q => ?_, fun p hp q => ?_⟩
  · have h0 := thr_0 hO ht hP hT (show 0 < 1000 by omega)
    have h1 := thr_0 hO ht hP hT hn
    have q0 : TH c P t 0 := Classical.byContradiction fun w => q (h0.mpr w)
    exact fun w => h1.mp w (TH_stay hO ht hP hT (Nat.zero_le n) hn q0)
  · intro w
    apply q
    rw [yrs_sts hP hT, ud_ne (by omega)]
    exact sts_dead hp hP hT w n
set_option maxHeartbeats 200000 in
theorem dead_n (hP : P ≤ 6) (hT : T ≤ 8) : ∀ n, n ≤ P → i_sum (y_dead c) n = nI (nLi c n - nLi (y_year c P T) n) ∧ nLi (y_year c P T) n ≤ nLi c n
  | 0, _ => ⟨rfl, Nat.le_refl _⟩
  | n + 1, h => by
    obtain ⟨i1, i2⟩ := dead_n hP hT n (by omega)
    have e : y_year c P T (19 + n) = y_liv c n := by
      unfold y_year
      rw [ud_ne (by omega), y_bites_at (by omega) (by omega) (by omega)]
      unfold y_ages
      rw [if_neg (by omega), if_pos (by omega)]
      congr 1
      omega
    show i_sum (y_dead c) n + y_dead c n = nI (nLi c (n + 1) - nLi (y_year c P T) (n + 1)) ∧ nLi (y_year c P T) (n + 1) ≤ nLi c (n + 1)
    have s1 : nLi c (n + 1) = nLi c n + (if decide (c (19 + n) ≠ 0) = true then 1 else 0) := rfl
    have s2 : nLi (y_year c P T) (n + 1) = nLi (y_year c P T) n + (if decide (y_year c P T (19 + n) ≠ 0) = true then 1 else 0) := rfl
    rw [s1, s2, e, i1]
    unfold y_dead y_liv
    by_cases z : c (19 + n) = 0
    · rw [if_pos z, if_pos z, if_neg (show ¬ decide (c (19 + n) ≠ 0) = true from fun w => of_decide_eq_true w z)]
      exact ⟨by rw [Int32.add_zero]; rfl, by omega⟩
    · rw [if_neg z, if_neg z, if_pos (decide_eq_true z)]
      by_cases y : c 3 ≤ c (7 + n) + 1
      · rw [if_pos y, if_pos y, if_neg (by decide), nI_1]
        exact ⟨by congr 1; omega, by omega⟩
      · rw [if_neg y, if_neg y, if_pos (decide_eq_true z)]
        exact ⟨by rw [Int32.add_zero]; congr 1; omega, by omega⟩
set_option maxHeartbeats 200000 in
theorem dds_n (hP : P ≤ 6) (hT : T ≤ 8) : ∀ n, y_dds c P T n = nI (nLi c P - nLi (y_yrs c P T n) P) ∧ nLi (y_yrs c P T n) P ≤ nLi c P
  | 0 => ⟨by rw [show y_yrs c P T 0 = c from rfl, Nat.sub_self]; rfl, Nat.le_refl _⟩
  | n + 1 => by
    obtain ⟨i1, i2⟩ := dds_n hP hT n
    obtain ⟨d1, d2⟩ := dead_n (c := y_yrs c P T n) hP hT P (Nat.le_refl P)
    show y_dds c P T n + i_sum (y_dead (y_yrs c P T n)) P = nI (nLi c P - nLi (y_year (y_yrs c P T n) P T) P) ∧ nLi (y_year (y_yrs c P T n) P T) P ≤ nLi c P
    rw [i1, d1, nI_add]
    exact ⟨by congr 1; omega, by omega⟩
set_option maxHeartbeats 200000 in
theorem Mo_ud {k : Nat} {v : Int32} (hk : ¬ (19 ≤ k ∧ k < 19 + P)) (h1 : ∀ t, t < T → i_thr c t ≠ 0 → k ≠ 25 + t ∧ k ≠ 41 + t) : Mo P T c (ud c k v) := by
  refine ⟨fun t ht q => ?_, fun p hp q => ?_⟩
  · obtain ⟨g1, g2⟩ := h1 t ht q
    unfold i_thr at q ⊢
    rw [ud_ne (fun w => g1 w.symm), ud_ne (fun w => g2 w.symm)]
    exact q
  · rw [ud_ne (by omega)] at q
    exact q
set_option maxHeartbeats 200000 in
/-- what a step keeps -/
theorem act2_ok {k p t m q : Int32} {b : Nat → Int32} {s e : Nat} {rnd : Int32} (hO : Okc c P T) (hD : Dim c P T) (hr : bn rnd 65535) (hs : StepI k p t m q b s e P T) (h7 : b 0 ≠ 7) (h8 : b 0 ≠ 8) (h9 : b 0 ≠ 9) : Okc (act2 P T b c rnd).1 P T ∧ Dim (act2 P T b c rnd).1 P T ∧ bn (act2 P T b c rnd).2.1 65535 ∧ Mo P T c (act2 P T b c rnd).1 ∧ ∀ j, 105 ≤ j → (act2 P T b c rnd).1 j = c j := by
  obtain ⟨hP0, hT0, hP6, hT8⟩ := id hD
  have hself : Okc c P T ∧ Dim c P T ∧ bn rnd 65535 ∧ Mo P T c c ∧ ∀ j, 105 ≤ j → c j = c j := ⟨hO, hD, hr, ⟨fun _ _ q => q, fun _ _ q => q⟩, fun _ _ => rfl⟩
  obtain ⟨-, -, -, hs⟩ := hs
  unfold act2
  rcases hs with ⟨-, e0, -, v, v1, v2, -, e1⟩ | ⟨-, e0, -, i, hi, -, e1⟩ | ⟨-, e0, -, j, i, v, hj, hi, hv, -, e1, -, e2, -, e3⟩ | ⟨-, e0, -, v, hv, -, e1⟩ | ⟨-, e0, -, i, v, hi, v1, v2, -, e1, -, e2⟩ | ⟨-, e0, -, i, hi, -, e1⟩ | ⟨-, e0, -⟩ | ⟨-, e0, -⟩ | ⟨-, e0, -⟩ | ⟨-, e0, -⟩ | ⟨-, e0, -⟩ | ⟨e0, -⟩
  · rw [e0, if_pos rfl, e1, nI_clamp (by omega)]
    obtain ⟨y, hy, ey⟩ := hO.1.2.2.2.2
    split
    · rename_i z
      rw [ey, nI_add] at z
      have hle : y + v ≤ 9999 := (nI_leI (a := y + v) (b := 9999) (by omega) (by omega)).mp z
      exact ⟨Okc_yrs hO hP6 hT8 ey hle, y_yrs_dim hD v, hr, Mo_yrs hO hP6 hT8 (by omega), fun j hj => y_yrs_at j (by omega) hP6 hT8 v⟩
    · exact hself
  · rw [e0, if_neg (by decide), if_neg (by decide), if_neg (by decide), if_neg (by decide), e1, nI_clamp (by omega), if_pos rfl]
    split
    · rename_i z
      exact ⟨Okc_oil hO hP6 hT8 hi ⟨3, by omega, rfl⟩, Dim_ud hD (by omega), hr, Mo_ud (by omega) (fun t ht _ => by omega), fun j hj => ud_ne (by omega)⟩
    · exact hself
  · rw [e0, if_neg (by decide), if_pos rfl, e1, e2, e3, nI_clamp (by omega), nI_clamp (by omega)]
    unfold becB
    split
    · exact hself
    · exact ⟨Okc_lov hO hP6 hT8 hj hi ⟨v, hv, rfl⟩, Dim_ud hD (by omega), hr, Mo_ud (by omega) (fun t ht _ => by omega), fun j hj => ud_ne (by omega)⟩
  · rw [e0, if_neg (by decide), if_neg (by decide), if_pos rfl, e1]
    unfold becB
    split
    · exact hself
    · exact ⟨Okc_f4 hO hP6 hT8 ⟨v, hv, rfl⟩, Dim_ud hD (by omega), hr, Mo_ud (by omega) (fun t ht _ => by omega), fun j hj => ud_ne (by omega)⟩
  · rw [e0, if_neg (by decide), if_neg (by decide), if_neg (by decide), if_neg (by decide), e1, e2, nI_clamp (by omega), if_neg (show ¬ (4 : Int32) = 1 by decide), if_pos (show (4 : Int32) = 4 from rfl)]
    split
    · exact ⟨Okc_coa hO hP6 hT8 hi (bn_min (hO.2.2 i hi).2.1 (by omega) ⟨v, v2, rfl⟩), Dim_ud hD (by omega), hr, Mo_ud (by omega) (fun t ht _ => by omega), fun j hj => ud_ne (by omega)⟩
    · exact hself
  · rw [e0, if_neg (by decide), if_neg (by decide), if_neg (by decide), if_neg (by decide), e1, nI_clamp (by omega), if_neg (show ¬ (5 : Int32) = 1 by decide), if_neg (show ¬ (5 : Int32) = 4 by decide)]
    split
    · rename_i z
      exact ⟨Okc_rus hO hP6 hT8 hi (bn_half (hO.2.2 i hi).2.2.1), Dim_ud hD (by omega), hr, Mo_ud (by omega) (fun t ht w => ⟨by omega, fun v => w (by rw [show t = i by omega]; exact z)⟩), fun j hj => ud_ne (by omega)⟩
    · exact hself
  · rw [e0, if_neg (by decide), if_neg (by decide), if_neg (by decide), if_pos rfl]
    split
    · exact hself
    · rename_i hTz
      have hd1 := bn_drw hr
      have hd2 := bn_drw hd1
      obtain ⟨d, hd, ed⟩ := drw_by hd1 (m := 10) (by omega) (by omega)
      obtain ⟨i, hi, ei⟩ := drw_by hd2 (m := T) (by omega) (by omega)
      rw [show (10 : Int32) = nI 10 from rfl, ed, ei, nI_clamp (by omega)]
      have hO1 : Okc (ud c 4 (nI d)) P T := Okc_f4 hO hP6 hT8 ⟨d, by omega, rfl⟩
      have hM1 : Mo P T c (ud c 4 (nI d)) := Mo_ud (by omega) (fun t ht _ => by omega)
      unfold anyB
      split
      · rename_i z
        refine ⟨Okc_rus hO1 hP6 hT8 hi (bn_min (hO1.2.2 i hi).2.2.1 (b := 99) (by omega) hO1.1.2.2.2.1), Dim_ud (Dim_ud hD (by omega)) (by omega), hd2, Mo_tr hM1 (Mo_ud (by omega) (fun t ht w => ⟨by omega, fun v => w (by rw [show t = i by omega]; exact z)⟩)), fun j hj => by show ud (ud c 4 (nI d)) (41 + i) _ j = _; rw [ud_ne (by omega), ud_ne (by omega)]⟩
      · exact ⟨hO1, Dim_ud hD (by omega), hd2, hM1, fun j hj => ud_ne (by omega)⟩
  · exact absurd e0 h9
  · exact absurd e0 h8
  · exact absurd e0 h7
  · exact absurd e0 h7
  · exact absurd e0 h7
end AO
section KT
variable {μ : mM} {f g P T : Nat} {c : Nat → Int32} {w : Nat → Int64}
set_option maxHeartbeats 200000 in
theorem k_draw (hL : PlanP μ g) {m : Nat} (h1 : 0 < m) (h2 : m < 1000) : fn_Pl_draw (some (13, g, 0)) (nI m) μ = some (iR (drw (m_I μ (13, g, 0) 9) / 8) (nI m), m_sI μ (13, g, 0) 9 (drw (m_I μ (13, g, 0) 9))) := by
  unfold fn_Pl_draw
  rw [c_plan_th hL, c_plan_gI hL, c_plan_pI hL, c_plan_gI (show PlanP (m_sI μ (13, g, 0) 9 (iR ((m_I μ (13, g, 0) 9 * 2971) + 10831) 65536)) g from hL), bd_nz (nI_ne0 h1 (by omega)), I_row, ud_at]
  rfl
set_option maxHeartbeats 200000 in
/-- the class does a step that is no when, loop, stop -/
theorem k_act (hL : PlanP μ g) (hP : FamP μ f) (hI : FamI μ f c w P T) (hD : Dim c P T) (hO : Okc c P T) {rnd : Int32} (hr : bn rnd 65535) (e9 : m_I μ (13, g, 0) 9 = rnd) {a e : Nat} {b : Nat → Int32} (ha : a < 30) (e10 : m_I μ (13, g, 0) 10 = nI a) (hs : StepI (m_I μ (14, g, 0) a) (m_I μ (14, g, 1) a) (m_I μ (14, g, 2) a) (m_I μ (14, g, 3) a) (m_I μ (14, g, 4) a) b a e P T) (h7 : b 0 ≠ 7) (h8 : b 0 ≠ 8) (h9 : b 0 ≠ 9) : m_e (fn_Pl_act (some (13, g, 0)) (some (7, f, 0)) μ) (fun v μ' => v = (if (act2 P T b c rnd).2.2 = true then 1 else 0) ∧ FamI μ' f (act2 P T b c rnd).1 w P T ∧ m_I μ' (13, g, 0) 9 = (act2 P T b c rnd).2.1 ∧ sm (fun x y _ k => (((x = 7 ∧ k < 7) ∨ x = 9 ∨ x = 10 ∨ x = 12) ∧ y = f) ∨ (x = 13 ∧ y = g ∧ k = 9)) μ μ') := by
  obtain ⟨hP0, hT0, hP6, hT8⟩ := id hD
  have hcz1 : ∀ (μ' : mM), m_bd (m_cz (1 : Int32)) (fun _ => m_rt (1 : Int32)) μ' = some (1, μ') := fun μ' => by
    rw [bd_cz (.inr rfl)]
    rfl
  have hcz0 : ∀ (μ' : mM), m_bd (m_cz (0 : Int32)) (fun _ => m_rt (0 : Int32)) μ' = some (0, μ') := fun μ' => by
    rw [bd_cz (.inl rfl)]
    rfl
  obtain ⟨-, -, -, hs⟩ := hs
  generalize hA : act2 P T b c rnd = A
  unfold fn_Pl_act
  unfold act2 at hA
  rw [c_plan_th hL, c_plan_r2 hL, c_plan_gI hL, e10, c_parr_a hL (by omega) ha]
  rcases hs with ⟨k0, e0, -, v, v1, v2, em, e1⟩ | ⟨k0, e0, -, i, hi, et, e1⟩ | ⟨k0, e0, -, j, i, v, hj, hi, hv, ep, e1, et, e2, em, e3⟩ | ⟨k0, e0, -, v, hv, em, e1⟩ | ⟨k0, e0, -, i, v, hi, v1, v2, et, e1, em, e2⟩ | ⟨k0, e0, -, i, hi, et, e1⟩ | ⟨k0, e0, -⟩ | ⟨-, e0, -⟩ | ⟨-, e0, -⟩ | ⟨-, e0, -⟩ | ⟨-, e0, -⟩ | ⟨e0, -⟩
  · -- year
    rw [e0, if_pos rfl, e1, nI_clamp (by omega)] at hA
    rw [k0, ap_ite, if_pos rfl, c_plan_r5 hL, c_plan_gI hL, e10, c_parr_a hL (by omega) ha, em]
    obtain ⟨y, hy, ey⟩ := hO.1.2.2.2.2
    refine e_bd (k_passYears (n := v) hP hI hD hO ey hy (by omega)) ?_
    rintro r μ' (⟨g1, rfl, g2, g3⟩ | ⟨g1, rfl, rfl⟩)
    · rw [if_pos (by rw [ey, nI_add]; exact nI_le (b := 9999) (by omega) (by omega))] at hA
      rw [← hA, hcz1]
      exact ⟨_, _, rfl, rfl, g3, by rw [sm_I g2 (by omega), e9], sm_mono g2 (by omega)⟩
    · rw [if_neg (by rw [ey, nI_add]; exact nI_ge (a := 9999) (by omega) (by omega))] at hA
      rw [← hA, hcz0]
      exact ⟨_, _, rfl, rfl, hI, e9, sm_rf⟩
  · -- oil
    have hi8 : i < 8 := by omega
    rw [e0, if_neg (by decide), if_neg (by decide), if_neg (by decide), if_neg (by decide), e1, nI_clamp (by omega), if_pos rfl] at hA
    rw [k0, ap_ite, if_neg (by decide), ap_ite, if_neg (by decide), ap_ite, if_neg (by decide), ap_ite, if_neg (by decide), c_fam_r8 hP, c_plan_r4 hL, c_plan_gI hL, e10, c_parr_a hL (by omega) ha, et, c_itm_r hP hi8, c_plan_r2 hL, c_plan_gI hL, e10, c_parr_a hL (by omega) ha, c_plan_r5 hL, c_plan_gI hL, e10, c_parr_a hL (by omega) ha, k0]
    unfold fn_Pl_actOn fn_Th_putOil
    rw [bd_bd, bd_of (k_thrT hP hI hD hi)]
    by_cases z : i_thr c i = 0
    · rw [bd_ite, if_pos z, bd_ite, if_pos rfl, bd_bd, c_thi_thb hP hi8, bd_bd, c_thi_pI hP hi8]
      rw [if_pos z] at hA
      rw [← hA]
      exact ⟨_, _, hcz1 _, rfl, FamI_upd hI hP6 hT8 (by unfold vis; omega), by rw [I_ne _ rfl, e9], sm_sI sm_rf _ (by omega)⟩
    · rw [bd_ite, if_neg z]
      rw [if_neg z] at hA
      rw [← hA]
      exact ⟨_, _, hcz0 _, rfl, hI, e9, sm_rf⟩
  · -- loves
    have hi8 : i < 8 := by omega
    have hj6 : j < 6 := by omega
    rw [e0, if_neg (by decide), if_pos rfl, e1, e2, e3, nI_clamp (by omega), nI_clamp (by omega)] at hA
    rw [k0, ap_ite, if_neg (by decide), ap_ite, if_pos rfl, c_fam_r7 hP, c_plan_r3 hL, c_plan_gI hL, e10, c_parr_a hL (by omega) ha, ep, c_pers_r hP hj6, c_plan_r4 hL, c_plan_gI hL, e10, c_parr_a hL (by omega) ha, et, c_plan_r5 hL, c_plan_gI hL, e10, c_parr_a hL (by omega) ha, em]
    unfold fn_Pl_actLove
    unfold becB at hA
    rw [bd_bd, c_per_r4 hP hj6, bd_bd, c_lov_a hP hj6 hi8, fi_lov hI hj hi8, bd_bd, bd_ite]
    by_cases z : c (57 + 8 * j + i) = nI v
    · rw [if_pos z, bd_rt, bd_bd, c_per_r4 hP hj6, bd_bd, c_lov_t hP hj6 hi8, bd_bd, bd_cz (.inl rfl)]
      rw [if_pos z] at hA
      rw [← hA]
      refine ⟨_, _, hcz0 _, rfl, ?_, by rw [I_ne _ rfl, e9], sm_sI sm_rf _ (by omega)⟩
      have := FamI_upd (x := 10) (z := j) (k := i) (n := 57 + 8 * j + i) (v := nI v) hI hP6 hT8 (by unfold vis; omega)
      rw [← z, ud_self, z] at this
      exact this
    · rw [if_neg z, bd_rt, bd_bd, c_per_r4 hP hj6, bd_bd, c_lov_t hP hj6 hi8, bd_bd, bd_cz (.inr rfl)]
      rw [if_neg z] at hA
      rw [← hA]
      exact ⟨_, _, hcz1 _, rfl, FamI_upd hI hP6 hT8 (by unfold vis; omega), by rw [I_ne _ rfl, e9], sm_sI sm_rf _ (by omega)⟩
  · -- damp
    rw [e0, if_neg (by decide), if_neg (by decide), if_pos rfl, e1] at hA
    rw [k0, ap_ite, if_neg (by decide), ap_ite, if_neg (by decide), ap_ite, if_pos rfl, c_plan_r5 hL, c_plan_gI hL, e10, c_parr_a hL (by omega) ha, em]
    unfold fn_Pl_actDamp
    unfold becB at hA
    rw [bd_bd, c_fam_gI hP, fi_4 hI, bd_bd, bd_ite]
    by_cases z : c 4 = nI v
    · rw [if_pos z, bd_rt, bd_bd, c_fam_pI hP, bd_bd, bd_cz (.inl rfl)]
      rw [if_pos z] at hA
      rw [← hA]
      refine ⟨_, _, hcz0 _, rfl, ?_, by rw [I_ne _ rfl, e9], sm_sI sm_rf _ (by omega)⟩
      have := FamI_upd (x := 7) (z := 0) (k := 4) (n := 4) (v := nI v) hI hP6 hT8 (by unfold vis; omega)
      rw [← z, ud_self, z] at this
      exact this
    · rw [if_neg z, bd_rt, bd_bd, c_fam_pI hP, bd_bd, bd_cz (.inr rfl)]
      rw [if_neg z] at hA
      rw [← hA]
      exact ⟨_, _, hcz1 _, rfl, FamI_upd (x := 7) (z := 0) (k := 4) (n := 4) hI hP6 hT8 (by unfold vis; omega), by rw [I_ne _ rfl, e9], sm_sI sm_rf _ (by omega)⟩
  · -- coat
    have hi8 : i < 8 := by omega
    rw [e0, if_neg (by decide), if_neg (by decide), if_neg (by decide), if_neg (by decide), e1, e2, nI_clamp (by omega), if_neg (show ¬ (4 : Int32) = 1 by decide), if_pos (show (4 : Int32) = 4 from rfl)] at hA
    rw [k0, ap_ite, if_neg (by decide), ap_ite, if_neg (by decide), ap_ite, if_neg (by decide), ap_ite, if_neg (by decide), c_fam_r8 hP, c_plan_r4 hL, c_plan_gI hL, e10, c_parr_a hL (by omega) ha, et, c_itm_r hP hi8, c_plan_r2 hL, c_plan_gI hL, e10, c_parr_a hL (by omega) ha, c_plan_r5 hL, c_plan_gI hL, e10, c_parr_a hL (by omega) ha, k0, em]
    unfold fn_Pl_actOn fn_Th_putCoat
    rw [bd_bd, bd_of (k_thrT hP hI hD hi)]
    by_cases z : i_thr c i = 0
    · rw [bd_ite, if_pos z, bd_ite, if_neg (by decide), bd_ite, if_pos rfl, bd_bd, c_thi_thb hP hi8, bd_bd, c_thi_gI hP hi8, bd_bd, c_thi_pI hP hi8, fi_coa hI hi]
      rw [if_pos z] at hA
      rw [← hA]
      exact ⟨_, _, hcz1 _, rfl, FamI_upd hI hP6 hT8 (by unfold vis; omega), by rw [I_ne _ rfl, e9], sm_sI sm_rf _ (by omega)⟩
    · rw [bd_ite, if_neg z]
      rw [if_neg z] at hA
      rw [← hA]
      exact ⟨_, _, hcz0 _, rfl, hI, e9, sm_rf⟩
  · -- mend
    have hi8 : i < 8 := by omega
    rw [e0, if_neg (by decide), if_neg (by decide), if_neg (by decide), if_neg (by decide), e1, nI_clamp (by omega), if_neg (show ¬ (5 : Int32) = 1 by decide), if_neg (show ¬ (5 : Int32) = 4 by decide)] at hA
    rw [k0, ap_ite, if_neg (by decide), ap_ite, if_neg (by decide), ap_ite, if_neg (by decide), ap_ite, if_neg (by decide), c_fam_r8 hP, c_plan_r4 hL, c_plan_gI hL, e10, c_parr_a hL (by omega) ha, et, c_itm_r hP hi8, c_plan_r2 hL, c_plan_gI hL, e10, c_parr_a hL (by omega) ha, c_plan_r5 hL, c_plan_gI hL, e10, c_parr_a hL (by omega) ha, k0]
    unfold fn_Pl_actOn fn_Th_halveRust
    rw [bd_bd, bd_of (k_thrT hP hI hD hi)]
    by_cases z : i_thr c i = 0
    · rw [bd_ite, if_pos z, bd_ite, if_neg (by decide), bd_ite, if_neg (by decide), bd_bd, c_thi_thb hP hi8, bd_bd, c_thi_gI hP hi8, bd_bd, c_thi_pI hP hi8, fi_rus hI hi]
      rw [if_pos z] at hA
      rw [← hA]
      exact ⟨_, _, hcz1 _, rfl, FamI_upd hI hP6 hT8 (by unfold vis; omega), by rw [I_ne _ rfl, e9], sm_sI sm_rf _ (by omega)⟩
    · rw [bd_ite, if_neg z]
      rw [if_neg z] at hA
      rw [← hA]
      exact ⟨_, _, hcz0 _, rfl, hI, e9, sm_rf⟩
  · -- any
    rw [e0, if_neg (by decide), if_neg (by decide), if_neg (by decide), if_pos rfl] at hA
    rw [k0, ap_ite, if_neg (by decide), ap_ite, if_neg (by decide), ap_ite, if_neg (by decide), ap_ite, if_pos rfl]
    unfold fn_Pl_actAny
    rw [c_plan_thb hL, bd_bd, c_fam_gI hP, fi_T hI hD, bd_ite]
    by_cases hTz : T = 0
    · rw [if_pos hTz] at hA
      rw [if_neg (by rw [hTz]; decide), ← hA]
      exact ⟨_, _, hcz0 _, rfl, hI, e9, sm_rf⟩
    · rw [if_neg hTz] at hA
      rw [if_pos (show (1 : Int32) ≤ nI T from nI_le (a := 1) (by omega) (by omega))]
      have hd1 := bn_drw hr
      have hd2 := bn_drw hd1
      obtain ⟨d, hd, ed⟩ := drw_by hd1 (m := 10) (by omega) (by omega)
      obtain ⟨i, hi, ei⟩ := drw_by hd2 (m := T) (by omega) (by omega)
      have hi8 : i < 8 := by omega
      have hk1 := k_draw hL (m := 10) (by omega) (by omega)
      rw [e9, ed] at hk1
      rw [show (10 : Int32) = nI 10 from rfl, ed, ei, nI_clamp (by omega)] at hA
      rw [show (10 : Int32) = nI 10 from rfl, bd_bd, bd_of hk1, bd_bd]
      have s1 : sm (fun x y _ k => x = 13 ∧ y = g ∧ k = 9) μ (m_sI μ (13, g, 0) 9 (drw rnd)) := sm_sI sm_rf _ ⟨rfl, rfl, rfl⟩
      have hI1 := FamI_sm hI s1 (by omega)
      have hP1 := sm_F s1 hP
      rw [c_fam_pI hP1]
      have hI2 : FamI (m_sI (m_sI μ (13, g, 0) 9 (drw rnd)) (7, f, 0) 4 (nI d)) f (ud c 4 (nI d)) w P T := FamI_upd (x := 7) (z := 0) (k := 4) (n := 4) hI1 hP6 hT8 (by unfold vis; omega)
      have s2 : sm (fun x y _ k => (((x = 7 ∧ k < 7) ∨ x = 9 ∨ x = 10 ∨ x = 12) ∧ y = f) ∨ (x = 13 ∧ y = g ∧ k = 9)) μ (m_sI (m_sI μ (13, g, 0) 9 (drw rnd)) (7, f, 0) 4 (nI d)) := sm_sI (sm_mono s1 (by omega)) _ (by omega)
      have e92 : m_I (m_sI (m_sI μ (13, g, 0) 9 (drw rnd)) (7, f, 0) 4 (nI d)) (13, g, 0) 9 = drw rnd := by rw [I_ne _ rfl, I_row, ud_at]
      generalize m_sI (m_sI μ (13, g, 0) 9 (drw rnd)) (7, f, 0) 4 (nI d) = μ2 at *
      have hP2 := sm_F s2 hP
      have hL2 := sm_P s2 hL
      have hD2 : Dim (ud c 4 (nI d)) P T := Dim_ud hD (by omega)
      have hk2 := k_draw hL2 (m := T) (by omega) (by omega)
      rw [e92, ei] at hk2
      rw [bd_bd, c_fam_r8 hP2, bd_bd, c_fam_gI hP2, fi_T hI2 hD2, bd_bd, bd_of hk2]
      have s3 : sm (fun x y _ k => x = 13 ∧ y = g ∧ k = 9) μ2 (m_sI μ2 (13, g, 0) 9 (drw (drw rnd))) := sm_sI sm_rf _ ⟨rfl, rfl, rfl⟩
      have hI3 := FamI_sm hI2 s3 (by omega)
      have hP3 := sm_F s3 hP2
      have e93 : m_I (m_sI μ2 (13, g, 0) 9 (drw (drw rnd))) (13, g, 0) 9 = drw (drw rnd) := by rw [I_row, ud_at]
      have s4 := sm_tr s2 (sm_mono s3 (K' := fun x y _ k => (((x = 7 ∧ k < 7) ∨ x = 9 ∨ x = 10 ∨ x = 12) ∧ y = f) ∨ (x = 13 ∧ y = g ∧ k = 9)) (by omega))
      generalize m_sI μ2 (13, g, 0) 9 (drw (drw rnd)) = μ3 at *
      unfold fn_Th_takeBreath
      unfold anyB at hA
      rw [bd_bd, c_itm_r hP3 hi8, bd_bd, bd_of (k_thrT hP3 hI3 hD2 hi), bd_ite]
      by_cases z : i_thr (ud c 4 (nI d)) i = 0
      · rw [if_pos z, bd_bd, c_fam_gI hP3, fi_5 hI3, bd_bd, c_thi_thb hP3 hi8, bd_bd, c_thi_gI hP3 hi8, bd_bd, c_thi_pI hP3 hi8, fi_rus hI3 hi]
        rw [if_pos z] at hA
        rw [← hA]
        exact ⟨_, _, hcz1 _, rfl, FamI_upd hI3 hP6 hT8 (by unfold vis; omega), by rw [I_ne _ rfl, e93], sm_sI s4 _ (by omega)⟩
      · rw [if_neg z]
        rw [if_neg z] at hA
        rw [← hA]
        exact ⟨_, _, hcz0 _, rfl, hI3, e93, s4⟩
  · exact absurd e0 h9
  · exact absurd e0 h8
  · exact absurd e0 h7
  · exact absurd e0 h7
  · exact absurd e0 h7
end KT
