/-! Part 69zzh: the class reads a rule; a clause -/
section KS
variable {μ : mM} {B : Nat → Int32} {u : Nat → Nat} {L p f P T M : Nat} {c : Nat → Int32} {w : Nat → Int64}
set_option maxHeartbeats 200000 in
theorem FmC_rule {μ' : mM} (h : FmC μ f c w P T M) {j v : Nat} (hj : 2 ≤ j) (hj6 : j < 6) (hs : sm (fun x y _ k => x = 7 ∧ y = f ∧ k = j) μ μ') (hv : m_I μ' (7, f, 0) j = nI v) : FmC μ' f (ud c j (nI v)) w P T (M ||| 2 ^ j) := by
  obtain ⟨⟨a1, a2, a3, a4, a5, a6⟩, h2, h3⟩ := h
  refine ⟨⟨?_, ?_, ?_, a4, a5, fun k k1 k2 => ?_⟩, fun p hp => ?_, fun t ht => ?_⟩
  · rw [sm_I hs (by omega), a1]
  · rw [sm_I hs (by omega), a2]
  · rw [sm_I hs (by omega), a3]
  · by_cases z : k = j
    · subst z
      rw [hv, ud_at, if_pos (by rw [Nat.testBit_or, Nat.testBit_two_pow_self, Bool.or_true])]
    · rw [sm_I hs (by omega), a6 k k1 k2, ud_ne z, Nat.testBit_or, Nat.testBit_two_pow_of_ne (fun q => z q.symm), Bool.or_false]
  · obtain ⟨b1, b2, b3, b4, b5⟩ := h2 p hp
    refine ⟨?_, ?_, ?_, ?_, fun t ht => ?_⟩
    · rw [sm_I hs (by omega), b1, ud_ne (by omega)]
    · rw [sm_I hs (by omega), b2, ud_ne (by omega)]
    · rw [sm_I hs (by omega), b3, ud_ne (by omega)]
    · rw [sm_J hs (by omega), b4]
    · rw [sm_I hs (by omega), b5 t ht, ud_ne (by omega)]
  · obtain ⟨b1, b2, b3, b4, b5⟩ := h3 t ht
    refine ⟨?_, ?_, ?_, ?_, ?_⟩
    · rw [sm_I hs (by omega), b1, ud_ne (by omega)]
    · rw [sm_I hs (by omega), b2, ud_ne (by omega)]
    · rw [sm_I hs (by omega), b3, ud_ne (by omega)]
    · rw [sm_I hs (by omega), b4, ud_ne (by omega)]
    · rw [sm_J hs (by omega), b5]
set_option maxHeartbeats 200000 in
theorem gRul_E {j a b : Nat} : bG (gRul u L p P T M c w j a b) (wE u L) = bG (bF (pOnce u L p (M.testBit j) a b) (pEnd u L)) (fun p' => .inr (p', (P, T, M ||| 2 ^ j, ud c j (nI (tV u L (tE u L p))), w))) := by
  unfold gRul wE
  cases pOnce u L p (M.testBit j) a b <;> rfl
set_option maxHeartbeats 200000 in
theorem k_rule (h : EvC μ B u L f c w P T M) (hk : TkC μ u L p) (hp : p ≤ L) (h4 : ¬ tK u L p = 4) {j a b : Nat} (hj : 2 ≤ j) (hj6 : j < 6) (hc : ¬ c j = -1) (ha : a < 2 ^ 31) (hb : b < 2 ^ 31) : m_e (m_bd (m_gI 3 j (some (7, f, 0))) (fun v => m_bd (fn_Re_takeOnce (some (5, 0, 0)) v (nI a) (nI b)) fun r => m_bd (m_gI 2 9 (some (5, 0, 0))) fun v8 => m_bd (m_pI 3 j (some (7, f, 0)) v8) fun _ => m_bd (m_cz r) fun _ => m_rt r) μ) (QK μ f u L (bG (gRul u L p P T M c w j a b) (wE u L)) (SC f)) := by
  obtain ⟨hC, hP, hT, hB, hF⟩ := id h
  obtain ⟨⟨a1, a2, a3, a4, a5, a6⟩, hF2, hF3⟩ := id hF
  have hv : decide ((if M.testBit j = true then c j else -1) ≠ -1) = M.testBit j := by
    cases M.testBit j
    · rw [if_neg (by decide)]
      decide
    · rw [if_pos rfl]
      exact decide_eq_true hc
  rw [c_fam_gI hP, a6 j hj hj6, gRul_E]
  refine e_bd (k_takeOnce hC hT hB hk hp h4 (seen := M.testBit j) hv ha hb) ?_
  rintro r μ1 ⟨s1, g1, g2⟩
  rw [c_text_gI (sm_C s1 hC), c_fam_pI (sm_F s1 hP)]
  have s2 : sm (fun x y _ k => x = 7 ∧ y = f ∧ k = j) μ1 (m_sI μ1 (7, f, 0) j (m_I μ1 (5, 0, 0) 9)) := sm_sI sm_rf _ ⟨rfl, rfl, rfl⟩
  have hs : sm (KF f) μ (m_sI μ1 (7, f, 0) j (m_I μ1 (5, 0, 0) 9)) := sm_tr (sm_mono s1 (fun _ _ _ _ q => .inl q)) (sm_mono s2 (by unfold KF; omega))
  cases hr : bF (pOnce u L p (M.testBit j) a b) (pEnd u L) with
  | inl fl =>
    obtain ⟨rfl, e1, e2⟩ := g2 fl hr
    rw [bd_cz (.inl rfl)]
    refine ⟨_, _, rfl, hs, fun p' s q => (by cases q), fun fl' q => ?_⟩
    cases q
    exact ⟨rfl, by rw [sm_I s2 (by omega), e1], by rw [sm_I s2 (by omega), e2]⟩
  | inr p' =>
    obtain ⟨rfl, k1, l1, e9, e10, e11⟩ := g1 p' hr
    rw [bd_cz (.inr rfl)]
    refine ⟨_, _, rfl, hs, fun p' s q => ?_, fun fl' q => (by cases q)⟩
    cases q
    refine ⟨rfl, ?_, l1, by rw [sm_I s2 (by omega), e10], by rw [sm_I s2 (by omega), e11], ?_⟩
    · unfold TkC at k1 ⊢
      rw [sm_I s2 (by omega), sm_I s2 (by omega), sm_I s2 (by omega), sm_I s2 (by omega), sm_J s2 (by omega), sm_I s2 (by omega)]
      exact k1
    · exact FmC_rule (FmC_sm hF s1 (by omega)) hj hj6 s2 (by rw [I_row, ud_at, e9])
set_option maxHeartbeats 200000 in
theorem k_takeRule (h : EvC μ B u L f c w P T M) (hk : TkC μ u L p) (hp : p ≤ L) (hc : ∀ k, 2 ≤ k → k < 6 → ¬ c k = -1) : m_e (fn_Re_takeRule (some (5, 0, 0)) (some (7, f, 0)) μ) (QK μ f u L (bG (if isW u L p 1 = true then gRul u L p P T M c w 2 0 99 else if isW u L p 2 = true then gRul u L p P T M c w 3 1 120 else if isW u L p 3 = true then gRul u L p P T M c w 4 0 9
  else if isW u L p 4 = true then gRul u L p P T M c w 5 0 99 else .inl (am u L p)) (wE u L)) (SC f)) := by
  obtain ⟨hC, hP, hT, hB, hF⟩ := id h
  have hne : ∀ {j : Nat}, isW u L p j = true → ¬ tK u L p = 4 := fun q e => by
    rw [isW_K q] at e
    exact absurd e (by decide)
  unfold fn_Re_takeRule
  rw [bd_of (k_is hC hT hB hk (j := 1) (by omega)), ap_ite, iw_ite]
  by_cases h1 : isW u L p 1 = true
  · rw [if_pos h1, if_pos h1]
    exact k_rule (j := 2) (a := 0) (b := 99) h hk hp (hne h1) (by omega) (by omega) (hc 2 (by omega) (by omega)) (by omega) (by omega)
  rw [if_neg h1, if_neg h1, bd_of (k_is hC hT hB hk (j := 2) (by omega)), ap_ite, iw_ite]
  by_cases h2 : isW u L p 2 = true
  · rw [if_pos h2, if_pos h2]
    exact k_rule (j := 3) (a := 1) (b := 120) h hk hp (hne h2) (by omega) (by omega) (hc 3 (by omega) (by omega)) (by omega) (by omega)
  rw [if_neg h2, if_neg h2, bd_of (k_is hC hT hB hk (j := 3) (by omega)), ap_ite, iw_ite]
  by_cases h3 : isW u L p 3 = true
  · rw [if_pos h3, if_pos h3]
    exact k_rule (j := 4) (a := 0) (b := 9) h hk hp (hne h3) (by omega) (by omega) (hc 4 (by omega) (by omega)) (by omega) (by omega)
  rw [if_neg h3, if_neg h3, bd_of (k_is hC hT hB hk (j := 4) (by omega)), ap_ite, iw_ite]
  by_cases h4 : isW u L p 4 = true
  · rw [if_pos h4, if_pos h4]
    exact k_rule (j := 5) (a := 0) (b := 99) h hk hp (hne h4) (by omega) (by omega) (hc 5 (by omega) (by omega)) (by omega) (by omega)
  rw [if_neg h4, if_neg h4, bG_l]
  exact e_mono (k_ref0 hC hk 2 (am u L p) rfl) (fun r μ' q => QK_O St5_rf q)
set_option maxHeartbeats 200000 in
/-- a clause -/
theorem k_clause (h : EvC μ B u L f c w P T M) (hk : TkC μ u L p) (hp : p ≤ L) (hc : ∀ k, 2 ≤ k → k < 6 → ¬ c k = -1) (hz1 : P < 6 → ∀ t, t < 8 → c (57 + 8 * P + t) = 0) (hz2 : ∀ t, T ≤ t → t < 8 → c (41 + t) = 0 ∧ c (49 + t) = 0) : m_e ((if iw u L p 0 = 0 then m_bd (fn_Tx_is (some (5, 0, 0)) (some (0, 7, 0))) fun v4 => if v4 = 0 then m_bd (fn_Tx_is (some (5, 0, 0)) (some (0, 10, 0))) fun v5 => if v5 = 0 then m_bd (fn_Re_takeRule (some (5, 0, 0)) (some (7, f, 0))) fun v6 => m_rt v6 else m_bd (fn_Re_takeLove (some (5, 0, 0)) (some (7, f, 0))) fun v7 => m_rt v7 else m_bd (fn_Re_takeThing (some (5, 0, 0)) (some (7, f, 0))) fun v8 => m_rt v8 else m_bd (fn_Re_takePerson (some (5, 0, 0)) (some (7, f, 0))) fun v9 => m_rt v9) μ) (QK μ f u L (bG (gCl u L p P T M c w) (wE u L)) (SC f)) := by
  obtain ⟨hC, hP, hT, hB, hF⟩ := id h
  have hne : ∀ {j : Nat}, isW u L p j = true → ¬ tK u L p = 4 := fun q e => by
    rw [isW_K q] at e
    exact absurd e (by decide)
  have hrt : ∀ {x : mP Int32} {Q : Int32 → mM → Prop}, m_e (x μ) Q → m_e (m_bd x (fun v => m_rt v) μ) Q := fun q => e_bd q (fun a μ' q => ⟨_, _, rfl, q⟩)
  unfold gCl
  rw [ap_ite, iw_ite]
  by_cases h0 : isW u L p 0 = true
  · rw [if_pos h0, if_pos h0]
    exact hrt (k_takePerson h hk hp (hne h0) hz1)
  rw [if_neg h0, if_neg h0, bd_of (k_is hC hT hB hk (j := 7) (by omega)), ap_ite, iw_ite]
  by_cases h7 : isW u L p 7 = true
  · rw [if_pos h7, if_pos h7]
    exact hrt (k_takeThing h hk hp (hne h7) hz2)
  rw [if_neg h7, if_neg h7, bd_of (k_is hC hT hB hk (j := 10) (by omega)), ap_ite, iw_ite]
  by_cases h10 : isW u L p 10 = true
  · rw [if_pos h10, if_pos h10]
    exact hrt (k_takeLove h hk hp)
  rw [if_neg h10, if_neg h10]
  exact hrt (k_takeRule h hk hp hc)
end KS
