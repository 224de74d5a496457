/-! Part 69zzc: rules told once; new names on the class's side -/
set_option maxHeartbeats 200000 in
theorem has_nM : ∀ M, M < 64 → ∀ j, j < 6 → decide (((nI M >>> (nI j &&& 31)) &&& 1) = 1) = M.testBit j := by decide +kernel
set_option maxHeartbeats 200000 in
theorem or_n : ∀ M, M < 64 → ∀ j, j < 6 → nI M ||| ((1 : Int32) <<< (nI j &&& 31)) = nI (M ||| 2 ^ j) ∧ M ||| 2 ^ j < 64 := by decide +kernel
def bF (r : Fl ⊕ Nat) (g : Nat → Fl ⊕ Nat) : Fl ⊕ Nat := match r with
  | .inl f => .inl f
  | .inr p => g p
def pOnce (u : Nat → Nat) (L p : Nat) (seen : Bool) (a b : Nat) : Fl ⊕ Nat := if seen = true then .inl (5, tS u L p) else pNum u L (tE u L p) a b
section RO
variable {ν : mM} {B : Nat → Int32} {u : Nat → Nat} {L p : Nat}
set_option maxHeartbeats 200000 in
theorem r_readOnce0 (hR : RefP ν) (hT : RxB ν B L) (hB : Byt B u L) (hk : TkR ν u L p) (hp : p ≤ L) (h0 : m_I ν (40, 0, 0) 12 = 0) {M j a b : Nat} (hM : M < 64) (hj : j < 6) (h25 : m_I ν (40, 0, 0) 25 = nI M) (ha : a < 2 ^ 31) (hb : b < 2 ^ 31) : m_e (fn_M_readOnce (some (40, 0, 0)) (nI j) (nI a) (nI b) ν) (fun _ ν' => sm (fun x _ _ k => (x = 40 ∧ (12 ≤ k ∧ k ≤ 19 ∨ k = 25)) ∨ (x = 45 ∧ k = 1508 + j)) ν ν' ∧ (∀ p', pOnce u L p (M.testBit j) a b = .inr p' → m_I ν' (40, 0, 0) 12 = 0 ∧ TkR ν' u L p' ∧ p' ≤ L ∧ m_I ν' (40, 0, 0) 25 = nI (M ||| 2 ^ j) ∧ m_I ν' (45, 0, 0) (1508 + j) = nI (tV u L (tE u L p))) ∧ ∀ f, pOnce u L p (M.testBit j) a b = .inl f → Er ν' f) := by
  obtain ⟨k3, k4, k5, k6, k7, k8⟩ := id hk
  have hhas : fn_M_has (nI M) (nI j) ν = some (if M.testBit j = true then 1 else 0, ν) := by
    have h := has_nM M hM j hj
    unfold fn_M_has
    rw [ap_ite]
    by_cases z : M.testBit j = true
    · rw [z] at h
      rw [if_pos (of_decide_eq_true h), if_pos z]
      rfl
    · rw [if_neg (fun q => z (by rw [← h]; exact decide_eq_true q)), if_neg z]
      rfl
  unfold fn_M_readOnce
  rw [r_th hR, r_gI hR, h25, bd_of hhas, bd_ite]
  by_cases z : M.testBit j = true
  · have hr : pOnce u L p (M.testBit j) a b = .inl (5, tS u L p) := if_pos z
    have hE : Er (m_sI (m_sI ν (40, 0, 0) 12 5) (40, 0, 0) 13 (nI (tS u L p))) (5, tS u L p) := ⟨by rw [I_row, ud_ne (by decide), I_row, ud_at]; rfl, by rw [I_row, ud_at], by show 1 ≤ 5; omega, by show 5 ≤ 9; omega⟩
    have hR2 : RefP (m_sI (m_sI ν (40, 0, 0) 12 5) (40, 0, 0) 13 (nI (tS u L p))) := hR
    rw [if_pos z, if_neg (by decide), bd_bd, r_gI hR, k5, bd_bd, bd_of (r_fail0 hR h0 _ _), bd_rt, r_gI hR2, ap_ite, if_neg (Er_0 hE).2.1, hr]
    exact ⟨_, _, rfl, sm_sI (sm_sI sm_rf _ (by omega)) _ (by omega), fun p' q => (by cases q), fun f q => by cases q; exact hE⟩
  · have hr : pOnce u L p (M.testBit j) a b = pNum u L (tE u L p) a b := if_neg z
    obtain ⟨o1, o2⟩ := or_n M hM j hj
    have s1 : sm (fun x _ _ k => x = 40 ∧ k = 25) ν (m_sI ν (40, 0, 0) 25 (nI (M ||| 2 ^ j))) := sm_sI sm_rf _ ⟨rfl, rfl⟩
    have hR1 := sm_R s1 hR
    have ek : TkR (m_sI ν (40, 0, 0) 25 (nI (M ||| 2 ^ j))) u L p := by
      unfold TkR at hk ⊢
      rw [sm_I s1 (by omega), sm_I s1 (by omega), sm_I s1 (by omega), sm_I s1 (by omega), sm_I s1 (by omega), sm_J s1 (by omega)]
      exact hk
    rw [if_neg z, if_pos rfl, bd_rt, r_gI hR, h0, ap_ite, if_pos (show (0 : Int32) ≤ 0 by decide), r_gI hR, h25, o1, r_pI hR, hr]
    refine e_bd (r_adv1 hR1 (RxB_sm hT s1 (by omega) (by omega)) hB ek hp (by rw [sm_I s1 (by omega), h0])) ?_
    rintro - ν2 ⟨s2, g, -⟩
    obtain ⟨e0, ek2, ep⟩ := g _ rfl
    have hR2 := sm_R s2 hR1
    rw [r_g45 hR2]
    refine e_bd (r_count0 hR2 (RxB_sm (RxB_sm hT s1 (by omega) (by omega)) s2 (by omega) (by omega)) hB ek2 ep e0 ha hb) ?_
    rintro v ν3 ⟨⟨s3, c1, c2⟩, c3, c4⟩
    have hR3 := sm_R s3 hR2
    have s4 : sm (fun x _ _ k => x = 45 ∧ k = 1508 + j) ν3 (m_sI ν3 (45, 0, 0) (1508 + j) v) := sm_sI sm_rf _ ⟨rfl, rfl⟩
    rw [show (1508 : Int32) = nI 1508 from rfl, nI_add, r_t45 hR3 (by omega)]
    refine ⟨_, _, rfl, sm_tr (sm_tr (sm_tr (sm_mono s1 (by omega)) (sm_mono s2 (by omega))) (sm_mono s3 (by omega))) (sm_mono s4 (by omega)), fun p' q => ?_, fun f q => ?_⟩
    · obtain ⟨a0, ak, ap⟩ := c1 p' q
      refine ⟨by rw [sm_I s4 (by omega), a0], ?_, ap, ?_, ?_⟩
      · unfold TkR at ak ⊢
        rw [sm_I s4 (by omega), sm_I s4 (by omega), sm_I s4 (by omega), sm_I s4 (by omega), sm_I s4 (by omega), sm_J s4 (by omega)]
        exact ak
      · rw [sm_I s4 (by omega), sm_I s3 (by omega), sm_I s2 (by omega), I_row, ud_at]
      · rw [I_row, ud_at, c3 p' q]
    · exact Er_sm (c2 f q) s4 (by omega) (by omega)
end RO
section KO
variable {μ : mM} {B : Nat → Int32} {u : Nat → Nat} {L p f P T : Nat} {w : Nat → Int64}
set_option maxHeartbeats 200000 in
theorem OutC_tr {μ' μ'' : mM} {p2 : Nat} {res : Fl ⊕ Nat} {r r' : Int32} (h : OutC μ μ' u L (.inr p2) r) (h' : OutC μ' μ'' u L res r') : OutC μ μ'' u L res r' := by
  obtain ⟨-, -, -, a1, a2⟩ := h.2.1 p2 rfl
  refine ⟨sm_tr h.1 h'.1, fun p' q => ?_, h'.2.2⟩
  obtain ⟨b1, b2, b3, b4, b5⟩ := h'.2.1 p' q
  exact ⟨b1, b2, b3, b4.trans a1, b5.trans a2⟩
set_option maxHeartbeats 200000 in
theorem k_adv (hC : ClsP μ) (hT : TxB μ B L) (hB : Byt B u L) (hk : TkC μ u L p) (hp : p ≤ L) : m_e (fn_Tx_advance (some (5, 0, 0)) μ) (fun _ μ' => OutC μ μ' u L (.inr (tE u L p)) 1) := by
  obtain ⟨h1, h2⟩ := tE_le (u := u) hp
  refine e_mono (k_advance hC hT hB h2 hk.1) ?_
  rintro - μ' ⟨g1, g2⟩
  refine ⟨sm_mono g2 (by omega), fun p' q => ?_, fun f q => (by cases q)⟩
  cases q
  exact ⟨rfl, g1, h2, by rw [sm_I g2 (by omega)], by rw [sm_I g2 (by omega)]⟩
set_option maxHeartbeats 200000 in
theorem k_isNew (hP : FamP μ f) (h0 : m_I μ (7, f, 0) 0 = nI P) (hP6 : P ≤ 6) (hw : ∀ i, i < P → m_J μ (9, f, i) 0 = w i) (h1 : m_I μ (7, f, 0) 1 = nI T) (hT8 : T ≤ 8) (hw' : ∀ i, i < T → m_J μ (12, f, i) 0 = w (6 + i)) (x : Int64) : fn_Re_isNew (some (7, f, 0)) x μ = some (if (decide (fnd w x P 0 = -1) && decide (fnd (fun i => w (6 + i)) x T 0 = -1)) = true then 1 else 0, μ) := by
  unfold fn_Re_isNew
  rw [bd_of (k_personNamed hP h0 hP6 hw x), ap_ite]
  by_cases z : fnd w x P 0 = -1
  · rw [if_pos z, bd_of (k_thingNamed (w := fun i => w (6 + i)) hP h1 hT8 hw' x), ap_ite]
    by_cases y : fnd (fun i => w (6 + i)) x T 0 = -1
    · rw [if_pos y, if_pos (by simp [z, y])]
      rfl
    · rw [if_neg y, if_neg (by simp [y])]
      rfl
  · rw [if_neg z, if_neg (by simp [z])]
    rfl
set_option maxHeartbeats 200000 in
theorem k_takeOnce (hC : ClsP μ) (hT : TxB μ B L) (hB : Byt B u L) (hk : TkC μ u L p) (hp : p ≤ L) (h4 : ¬ tK u L p = 4) {seen : Bool} {v : Int32} (hv : decide (v ≠ -1) = seen) {a b : Nat} (ha : a < 2 ^ 31) (hb : b < 2 ^ 31) : m_e (fn_Re_takeOnce (some (5, 0, 0)) v (nI a) (nI b) μ) (fun r μ' => sm (fun x _ _ k => x = 5 ∧ 3 ≤ k) μ μ' ∧ (∀ p', bF (pOnce u L p seen a b) (pEnd u L) = .inr p' → r = 1 ∧ TkC μ' u L p' ∧ p' ≤ L ∧ m_I μ' (5, 0, 0) 9 = nI (tV u L (tE u L p)) ∧ m_I μ' (5, 0, 0) 10 = m_I μ (5, 0, 0) 10 ∧ m_I μ' (5, 0, 0) 11 = m_I μ (5, 0, 0) 11) ∧ ∀ f, bF (pOnce u L p seen a b) (pEnd u L) = .inl f → r = 0 ∧ FtC μ' f) := by
  unfold fn_Re_takeOnce
  rw [ap_ite]
  by_cases z : v = -1
  · have hs : seen = false := by
      rw [← hv, z]
      decide
    subst hs
    have hr : pOnce u L p false a b = pNum u L (tE u L p) a b := if_neg (show ¬ false = true by decide)
    rw [if_pos z, hr]
    refine e_bd (k_adv hC hT hB hk hp) ?_
    rintro - μ1 g1
    obtain ⟨-, ek, ep, -⟩ := g1.2.1 _ rfl
    have hC1 := sm_C g1.1 hC
    have hT1 := TxB_sm hT g1.1 (by omega) (by omega)
    refine e_bd (k_takeNumber hC1 hT1 hB ek ep ha hb) ?_
    rintro r1 μ2 ⟨g2, g3⟩
    cases hq : pNum u L (tE u L p) a b with
    | inl f =>
      have h2 := g2 f hq
      obtain ⟨rfl, hF⟩ := h2.2.2 f rfl
      rw [ap_ite, if_pos rfl]
      refine ⟨_, _, rfl, sm_tr (sm_mono g1.1 (by omega)) (sm_mono h2.1 (by omega)), fun p' q => (by cases q), fun f' q => ?_⟩
      cases q
      exact ⟨rfl, hF⟩
    | inr p2 =>
      have h2 := g3 p2 hq
      obtain ⟨rfl, ek2, ep2, t10, t11⟩ := h2.2.1 p2 rfl
      have s9 : sm (fun x _ _ k => x = 5 ∧ k = 9) μ1 (m_sI μ1 (5, 0, 0) 9 (nI (tV u L (tE u L p)))) := sm_sI sm_rf _ ⟨rfl, rfl⟩
      have hC2 := sm_C h2.1 (sm_C s9 hC1)
      have hT2 := TxB_sm (TxB_sm hT1 s9 (by omega) (by omega)) h2.1 (by omega) (by omega)
      have e9 : m_I μ2 (5, 0, 0) 9 = nI (tV u L (tE u L p)) := by rw [sm_I h2.1 (by omega), I_row, ud_at]
      rw [ap_ite, if_neg (by decide)]
      refine e_bd (k_takeEndSign hC2 hT2 hB ek2 ep2) ?_
      rintro r2 μ3 g4
      have hs : sm (fun x _ _ k => x = 5 ∧ 3 ≤ k) μ μ3 := sm_tr (sm_tr (sm_tr (sm_mono g1.1 (by omega)) (sm_mono s9 (by omega))) (sm_mono h2.1 (by omega))) (sm_mono g4.1 (by omega))
      cases hq2 : pEnd u L p2 with
      | inl f =>
        obtain ⟨rfl, hF⟩ := g4.2.2 f hq2
        rw [ap_ite, if_pos rfl]
        refine ⟨_, _, rfl, hs, fun p' q => ?_, fun f' q => ?_⟩
        · change pEnd u L p2 = .inr p' at q
          rw [hq2] at q
          cases q
        · change pEnd u L p2 = .inl f' at q
          rw [hq2] at q
          cases q
          exact ⟨rfl, hF⟩
      | inr p3 =>
        obtain ⟨rfl, ek3, ep3, t10', t11'⟩ := g4.2.1 p3 hq2
        rw [ap_ite, if_neg (by decide)]
        refine ⟨_, _, rfl, hs, fun p' q => ?_, fun f' q => ?_⟩
        · change pEnd u L p2 = .inr p' at q
          rw [hq2] at q
          cases q
          refine ⟨rfl, ek3, ep3, by rw [sm_I g4.1 (by omega), e9], ?_, ?_⟩
          · obtain ⟨-, -, -, a1, -⟩ := g1.2.1 _ rfl
            rw [t10', t10, I_row, ud_ne (by decide), a1]
          · obtain ⟨-, -, -, -, a2⟩ := g1.2.1 _ rfl
            rw [t11', t11, I_row, ud_ne (by decide), a2]
        · change pEnd u L p2 = .inl f' at q
          rw [hq2] at q
          cases q
  · have hs : seen = true := by
      rw [← hv]
      exact decide_eq_true z
    subst hs
    have hr : pOnce u L p true a b = .inl (5, tS u L p) := if_pos rfl
    rw [if_neg z, hr]
    refine e_mono (k_ref0 hC hk 5 (5, tS u L p) (by rw [if_neg h4])) (fun r μ' h => ⟨sm_mono h.1 (by omega), fun p' q => (by cases q), fun f q => h.2.2 f q⟩)
end KO
