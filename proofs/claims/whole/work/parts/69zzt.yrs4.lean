/-! Part 69zzt: a line, the class's side -/
def KL (g x y _z k : Nat) : Prop := (x = 5 ∧ 3 ≤ k) ∨ (x = 14 ∧ y = g) ∨ (x = 13 ∧ y = g ∧ k = 1)
def pOpn (u : Nat → Nat) (L p s n k : Nat) : Fl ⊕ Nat := if k = 99 then .inl (am u L p) else if s = 30 then .inl (6, tS u L p) else if 8 ≤ k ∧ 3 ≤ n then .inl (7, tS u L p) else .inr (tE u L p)
section YL
variable {μ0 μ μ' : mM} {B : Nat → Int32} {u : Nat → Nat} {L p f g s P T : Nat} {w : Nat → Int64} {y : YS}
set_option maxHeartbeats 200000 in
theorem KL_5 : ∀ x y z k, x = 5 ∧ 3 ≤ k → KL g x y z k := fun _ _ _ _ q => .inl q
set_option maxHeartbeats 200000 in
theorem yHd_E : yHd u L w P T p y = bG (pOpn u L p y.1 y.2.2.2.length (kdN u L p)) (fun p1 => bG (gRow u L w P T (kdN u L p) p1) fun q => .inr (q.1, (y.1 + 1, ud y.2.1 y.1 q.2, if 8 ≤ kdN u L p then y.2.2.1 else ud y.2.2.1 y.1 (y.1 + 1), if 8 ≤ kdN u L p then y.1 :: y.2.2.2 else y.2.2.2))) := by
  unfold yHd pOpn
  by_cases h0 : kdN u L p = 99
  · rw [if_pos h0, if_pos h0, bG_l]
  rw [if_neg h0, if_neg h0]
  by_cases h1 : y.1 = 30
  · rw [if_pos h1, if_pos h1, bG_l]
  rw [if_neg h1, if_neg h1]
  by_cases h2 : 8 ≤ kdN u L p ∧ 3 ≤ y.2.2.2.length
  · rw [if_pos h2, if_pos h2, bG_l]
  rw [if_neg h2, if_neg h2, bG_r]
set_option maxHeartbeats 200000 in
theorem k_stepKind (hC : ClsP μ) (hT : TxB μ B L) (hB : Byt B u L) (hk : TkC μ u L p) (h15 : ¬ isW u L p 15 = true) : fn_Re_stepKind (some (5, 0, 0)) μ = some (if kdN u L p = 99 then -1 else nI (kdN u L p), μ) := by
  have hx : ∀ {i j : Nat}, i < 21 → j < 21 → i ≠ j → isW u L p i = true → ¬ isW u L p j = true := fun hi hj hne q q' => hne (isW_1 hi hj q q')
  unfold fn_Re_stepKind kdN
  rw [bd_of (k_is hC hT hB hk (j := 11) (by omega)), ap_ite, iw_ite]
  by_cases h11 : isW u L p 11 = true
  · rw [if_pos h11, if_pos h11]
    rfl
  rw [if_neg h11, if_neg h11, bd_of (k_is hC hT hB hk (j := 12) (by omega)), ap_ite, iw_ite]
  by_cases h12 : isW u L p 12 = true
  · rw [if_pos h12, if_pos h12]
    rfl
  rw [if_neg h12, if_neg h12, bd_of (k_is hC hT hB hk (j := 10) (by omega)), ap_ite, iw_ite]
  by_cases h10 : isW u L p 10 = true
  · rw [if_pos h10, if_pos h10]
    rfl
  rw [if_neg h10, if_neg h10, bd_of (k_is hC hT hB hk (j := 3) (by omega)), ap_ite, iw_ite]
  by_cases h3 : isW u L p 3 = true
  · rw [if_pos h3, if_pos h3]
    rfl
  rw [if_neg h3, if_neg h3, bd_of (k_is hC hT hB hk (j := 9) (by omega)), ap_ite, iw_ite]
  by_cases h9 : isW u L p 9 = true
  · rw [if_pos h9, if_pos h9]
    rfl
  rw [if_neg h9, if_neg h9, bd_of (k_is hC hT hB hk (j := 13) (by omega)), ap_ite, iw_ite]
  by_cases h13 : isW u L p 13 = true
  · rw [if_pos h13, if_pos h13]
    rfl
  rw [if_neg h13, if_neg h13, bd_of (k_is hC hT hB hk (j := 14) (by omega)), ap_ite, iw_ite]
  by_cases h14 : isW u L p 14 = true
  · rw [if_pos h14, if_pos h14]
    rfl
  rw [if_neg h14, if_neg h14, if_neg h15, bd_of (k_is hC hT hB hk (j := 20) (by omega)), ap_ite, iw_ite]
  by_cases h20 : isW u L p 20 = true
  · rw [if_pos h20, if_neg (hx (by omega) (by omega) (by omega) h20), if_pos h20]
    rfl
  rw [if_neg h20, bd_of (k_is hC hT hB hk (j := 18) (by omega)), ap_ite, iw_ite]
  by_cases h18 : isW u L p 18 = true
  · rw [if_pos h18, if_pos h18]
    rfl
  rw [if_neg h18, if_neg h18, if_neg h20]
  rfl
set_option maxHeartbeats 200000 in
theorem kdN_15 (h : isW u L p 15 = true) : kdN u L p = 9 := by
  have hx : ∀ {j : Nat}, j < 21 → 15 ≠ j → ¬ isW u L p j = true := fun hj hne q' => hne (isW_1 (by omega) hj h q')
  unfold kdN
  rw [if_neg (hx (by omega) (by omega)), if_neg (hx (by omega) (by omega)), if_neg (hx (by omega) (by omega)), if_neg (hx (by omega) (by omega)), if_neg (hx (by omega) (by omega)), if_neg (hx (by omega) (by omega)), if_neg (hx (by omega) (by omega)), if_pos h]
set_option maxHeartbeats 200000 in
theorem kdN_n15 (h : ¬ isW u L p 15 = true) : kdN u L p ≠ 9 := by
  unfold kdN
  intro q
  split at q
  · cases q
  split at q
  · cases q
  split at q
  · cases q
  split at q
  · cases q
  split at q
  · cases q
  split at q
  · cases q
  split at q
  · cases q
  split at q
  · cases q
  split at q
  · cases q
  cases q
set_option maxHeartbeats 200000 in
/-- a step is opened -/
theorem k_openStep (h : EvY μ B u L f g w P T) (hY : CY μ g y) (hI : YI y P T) (hk : TkC μ u L p) (hp : p ≤ L) {k : Nat} {v : Int32} (hv : v = if k = 99 then -1 else nI k) (hkb : k = 99 ∨ k ≤ 9) (h4 : k ≠ 99 → ¬ tK u L p = 4) : m_e (fn_Re_openStep (some (5, 0, 0)) (some (13, g, 0)) v μ) (fun r μ' => OutY (fun x y' z k => (x = 5 ∧ 3 ≤ k) ∨ (x = 14 ∧ y' = g ∧ k = y.1) ∨ (x = 13 ∧ y' = g ∧ k = 1)) μ μ' u L (pOpn u L p y.1 y.2.2.2.length k) (fun μ' => y.1 < 30 ∧ m_I μ' (13, g, 0) 1 = nI (y.1 + 1) ∧ m_I μ' (14, g, 0) y.1 = nI k ∧ m_I μ' (14, g, 4) y.1 = if 8 ≤ k then -1 else nI (y.1 + 1)) r) := by
  obtain ⟨hC, hP, hG, hT, hB, hN⟩ := id h
  have hs30 := hI.1
  have hln := hI.2.2.1
  have e1 := hY.1
  have hE : ∀ {x : Nat} {fl : Fl}, fl = (if tK u L p = 4 then 1 else x, tS u L p) → pOpn u L p y.1 y.2.2.2.length k = .inl fl → m_e (m_bd (fn_Tx_refuse (some (5, 0, 0)) (nI x)) (fun v => m_bd (m_cz v) fun _ => m_rt v) μ) (fun r μ' => OutY (fun x y' z k => (x = 5 ∧ 3 ≤ k) ∨ (x = 14 ∧ y' = g ∧ k = y.1) ∨ (x = 13 ∧ y' = g ∧ k = 1)) μ μ' u L (pOpn u L p y.1 y.2.2.2.length k) (fun μ' => y.1 < 30 ∧ m_I μ' (13, g, 0) 1 = nI (y.1 + 1) ∧ m_I μ' (14, g, 0) y.1 = nI k ∧ m_I μ' (14, g, 4) y.1 = if 8 ≤ k then -1 else nI (y.1 + 1)) r) := by
    intro x fl hx e
    rw [e]
    refine e_mono (k_ref0 hC hk x fl hx) (fun r μ' q => ⟨sm_mono q.1 (by omega), fun p' q => (by cases q), fun fl q' => q.2.2 fl q'⟩)
  unfold fn_Re_openStep
  rw [ap_ite]
  by_cases k99 : k = 99
  · rw [if_pos (by rw [hv, if_pos k99])]
    exact hE (x := 2) (fl := am u L p) rfl (if_pos k99)
  have hk9 : k ≤ 9 := hkb.resolve_left k99
  rw [if_neg k99] at hv
  subst hv
  rw [if_neg (nI_m1 (by omega)), c_plan_gI hG, e1, ap_ite]
  by_cases s30 : y.1 = 30
  · rw [if_neg (show ¬ nI y.1 < 30 by rw [s30]; decide)]
    exact hE (x := 6) (fl := (6, tS u L p)) (by rw [if_neg (h4 k99)]) (by unfold pOpn; rw [if_neg k99, if_pos s30])
  have hs : y.1 < 30 := by omega
  rw [if_pos (show nI y.1 < 30 from nI_lt (b := 30) hs (by omega))]
  have fin : ∀ {t : Int32} {V : Int32}, (∀ {K : Int32 → mP Int32} {μ' : mM}, PlanP μ' g → m_I μ' (13, g, 0) 1 = nI y.1 → m_bd (if t = 0 then m_bd (m_gI 6 1 (some (13, g, 0))) fun v7 => m_rt (v7 + 1) else m_rt (-1)) K μ' = K V μ') → V = (if 8 ≤ k then -1 else nI (y.1 + 1)) → pOpn u L p y.1 y.2.2.2.length k = .inr (tE u L p) → m_e (m_bd (m_gR 6 2 (some (13, g, 0))) (fun v3 => m_bd (m_gI 6 1 (some (13, g, 0))) fun v4 => m_bd (m_tI 0 v3 v4 (nI k)) fun _ => m_bd (m_gR 6 6 (some (13, g, 0))) fun v5 => m_bd (m_gI 6 1 (some (13, g, 0))) fun v6 => m_bd (if t = 0 then m_bd (m_gI 6 1 (some (13, g, 0))) fun v7 => m_rt (v7 + 1) else m_rt (-1)) fun t8 => m_bd (m_tI 0 v5 v6 t8) fun _ => m_bd (m_gI 6 1 (some (13, g, 0))) fun v9 => m_bd (m_pI 6 1 (some (13, g, 0)) (v9 + 1)) fun _ => m_bd (fn_Tx_advance (some (5, 0, 0))) fun _ => m_rt 1) μ) (fun r μ' => OutY (fun x y' z k => (x = 5 ∧ 3 ≤ k) ∨ (x = 14 ∧ y' = g ∧ k = y.1) ∨ (x = 13 ∧ y' = g ∧ k = 1)) μ μ' u L (pOpn u L p y.1 y.2.2.2.length k) (fun μ' => y.1 < 30 ∧ m_I μ' (13, g, 0) 1 = nI (y.1 + 1) ∧ m_I μ' (14, g, 0) y.1 = nI k ∧ m_I μ' (14, g, 4) y.1 = if 8 ≤ k then -1 else nI (y.1 + 1)) r) := by
    intro t V ht hV er
    have s1 : sm (fun x y' z k => (x = 14 ∧ y' = g ∧ k = y.1) ∨ (x = 13 ∧ y' = g ∧ k = 1)) μ (m_sI μ (14, g, 0) y.1 (nI k)) := sm_sI sm_rf _ (by omega)
    have s2 := sm_sI (x := 14) (y := g) (z := 4) (k := y.1) s1 V (by omega)
    have s3 := sm_sI (x := 13) (y := g) (z := 0) (k := 1) s2 (nI (y.1 + 1)) (by omega)
    have hG1 : PlanP (m_sI μ (14, g, 0) y.1 (nI k)) g := hG
    have hG2 : PlanP (m_sI (m_sI μ (14, g, 0) y.1 (nI k)) (14, g, 4) y.1 V) g := hG
    have d1 : m_I (m_sI μ (14, g, 0) y.1 (nI k)) (13, g, 0) 1 = nI y.1 := by rw [I_ne _ rfl, e1]
    have d2 : m_I (m_sI (m_sI μ (14, g, 0) y.1 (nI k)) (14, g, 4) y.1 V) (13, g, 0) 1 = nI y.1 := by rw [I_ne _ rfl, I_ne _ rfl, e1]
    rw [er, c_plan_r2 hG, c_plan_gI hG, e1, c_parr_t hG (by omega) hs, c_plan_r6 hG1, c_plan_gI hG1, d1, ht hG1 d1, c_parr_t hG1 (by omega) hs, c_plan_gI hG2, d2, nI_1, c_plan_pI hG2]
    have g0 : m_I (m_sI (m_sI (m_sI μ (14, g, 0) y.1 (nI k)) (14, g, 4) y.1 V) (13, g, 0) 1 (nI (y.1 + 1))) (14, g, 0) y.1 = nI k := by
      rw [I_ne _ rfl, I_sI, if_neg (fun q => by cases q.1), I_row, ud_at]
    have g4 : m_I (m_sI (m_sI (m_sI μ (14, g, 0) y.1 (nI k)) (14, g, 4) y.1 V) (13, g, 0) 1 (nI (y.1 + 1))) (14, g, 4) y.1 = V := by
      rw [I_ne _ rfl, I_row, ud_at]
    have g1 : m_I (m_sI (m_sI (m_sI μ (14, g, 0) y.1 (nI k)) (14, g, 4) y.1 V) (13, g, 0) 1 (nI (y.1 + 1))) (13, g, 0) 1 = nI (y.1 + 1) := by
      rw [I_row, ud_at]
    generalize m_sI (m_sI (m_sI μ (14, g, 0) y.1 (nI k)) (14, g, 4) y.1 V) (13, g, 0) 1 (nI (y.1 + 1)) = μ1 at *
    refine e_bd (k_adv (sm_C s3 hC) (TxB_sm hT s3 (by omega) (by omega)) hB (TkC_sm hk s3 (by omega)) hp) ?_
    rintro - μ2 q
    obtain ⟨-, c1, c2, c3, c4⟩ := q.2.1 _ rfl
    have t2 : sm (fun x y' z k => (x = 5 ∧ 3 ≤ k) ∨ (x = 14 ∧ y' = g ∧ k = y.1) ∨ (x = 13 ∧ y' = g ∧ k = 1)) μ μ2 := sm_tr (sm_mono s3 (by omega)) (sm_mono q.1 (by omega))
    refine ⟨_, _, rfl, t2, fun p'' q' => ?_, fun fl' q => (by cases q)⟩
    cases q'
    exact ⟨rfl, c1, c2, ⟨t2, by rw [c3, sm_I s3 (by omega)], by rw [c4, sm_I s3 (by omega)]⟩, hs, by rw [sm_I q.1 (by omega), g1], by rw [sm_I q.1 (by omega), g0], by rw [sm_I q.1 (by omega), g4, hV]⟩
  rw [bd_ite, bd_rt, bd_rt]
  by_cases k8 : 8 ≤ k
  · rw [if_neg (show ¬ nI k < 8 from nI_nlt (b := 8) k8 (by omega)), ap_ite, if_neg (by decide), bd_of (k_openBlocks hG hY hI), ap_ite]
    by_cases n3 : 3 ≤ y.2.2.2.length
    · rw [if_neg (show ¬ nI y.2.2.2.length < 3 from nI_nlt (b := 3) n3 (by omega))]
      exact hE (x := 7) (fl := (7, tS u L p)) (by rw [if_neg (h4 k99)]) (by unfold pOpn; rw [if_neg k99, if_neg s30, if_pos ⟨k8, n3⟩])
    · rw [if_pos (show nI y.2.2.2.length < 3 from nI_lt (b := 3) (by omega) (by omega))]
      refine fin (t := 1) (V := -1) (fun _ _ => ?_) (by rw [if_pos k8]) (by unfold pOpn; rw [if_neg k99, if_neg s30, if_neg (fun q => n3 q.2)])
      rw [bd_ite, if_neg (by decide), bd_rt]
  · rw [if_pos (show nI k < 8 from nI_lt (b := 8) (by omega) (by omega)), ap_ite, if_pos rfl]
    refine fin (t := 0) (V := nI (y.1 + 1)) (fun hG' e' => ?_) (by rw [if_neg k8]) (by unfold pOpn; rw [if_neg k99, if_neg s30, if_neg (fun q => k8 q.1)])
    rw [bd_ite, if_pos rfl, bd_bd, c_plan_gI hG', e', bd_rt, nI_1]
end YL
