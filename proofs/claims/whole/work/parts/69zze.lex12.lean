/-! Part 69zze: a family that is being read, on the class's side -/
/-- the spare family: who and what is told so far; M: which rules -/
def FmC (μ : mM) (f : Nat) (c : Nat → Int32) (w : Nat → Int64) (P T M : Nat) : Prop :=
  (m_I μ (7, f, 0) 0 = nI P ∧ m_I μ (7, f, 0) 1 = nI T ∧ m_I μ (7, f, 0) 6 = 0 ∧ P ≤ 6 ∧ T ≤ 8 ∧ ∀ k, 2 ≤ k → k < 6 → m_I μ (7, f, 0) k = if M.testBit k = true then c k else -1)
  ∧ (∀ p, p < P → m_I μ (9, f, p) 1 = c (7 + p) ∧ m_I μ (9, f, p) 2 = c (13 + p) ∧ m_I μ (9, f, p) 3 = c (19 + p) ∧ m_J μ (9, f, p) 0 = w p ∧ ∀ t, t < 8 → m_I μ (10, f, p) t = c (57 + 8 * p + t))
  ∧ ∀ t, t < T → m_I μ (12, f, t) 1 = c (25 + t) ∧ m_I μ (12, f, t) 2 = c (33 + t) ∧ m_I μ (12, f, t) 3 = c (41 + t) ∧ m_I μ (12, f, t) 4 = c (49 + t) ∧ m_J μ (12, f, t) 0 = w (6 + t)
set_option maxHeartbeats 200000 in
theorem FmC_sm {K : Nat → Nat → Nat → Nat → Prop} {μ μ' : mM} {f P T M : Nat} {c : Nat → Int32} {w : Nat → Int64} (h : FmC μ f c w P T M) (hs : sm K μ μ') (hk : ∀ x z k, x = 7 ∨ x = 9 ∨ x = 10 ∨ x = 12 → ¬ K x f z k) : FmC μ' f c w P T M := by
  obtain ⟨⟨a1, a2, a3, a4, a5, a6⟩, h2, h3⟩ := h
  refine ⟨⟨?_, ?_, ?_, a4, a5, fun k k1 k2 => ?_⟩, fun p hp => ?_, fun t ht => ?_⟩
  · rw [sm_I hs (hk 7 0 0 (by omega)), a1]
  · rw [sm_I hs (hk 7 0 1 (by omega)), a2]
  · rw [sm_I hs (hk 7 0 6 (by omega)), a3]
  · rw [sm_I hs (hk 7 0 k (by omega)), a6 k k1 k2]
  · obtain ⟨b1, b2, b3, b4, b5⟩ := h2 p hp
    exact ⟨by rw [sm_I hs (hk 9 p 1 (by omega)), b1], by rw [sm_I hs (hk 9 p 2 (by omega)), b2], by rw [sm_I hs (hk 9 p 3 (by omega)), b3], by rw [sm_J hs (hk 9 p 0 (by omega)), b4], fun t ht => by rw [sm_I hs (hk 10 p t (by omega)), b5 t ht]⟩
  · obtain ⟨b1, b2, b3, b4, b5⟩ := h3 t ht
    exact ⟨by rw [sm_I hs (hk 12 t 1 (by omega)), b1], by rw [sm_I hs (hk 12 t 2 (by omega)), b2], by rw [sm_I hs (hk 12 t 3 (by omega)), b3], by rw [sm_I hs (hk 12 t 4 (by omega)), b4], by rw [sm_J hs (hk 12 t 0 (by omega)), b5]⟩
set_option maxHeartbeats 200000 in
theorem FmC_thing {μ μ' : mM} {f P T M : Nat} {c c' : Nat → Int32} {w w' : Nat → Int64} (h : FmC μ f c w P T M) (hT : T < 8) (hs : sm (fun x y z k => (x = 12 ∧ y = f ∧ z = T) ∨ (x = 7 ∧ y = f ∧ k = 1)) μ μ') (h1 : m_I μ' (7, f, 0) 1 = nI (T + 1)) (hc : ∀ k, 2 ≤ k → k ≠ 25 + T → k ≠ 33 + T → k ≠ 41 + T → k ≠ 49 + T → c' k = c k) (hw : ∀ k, k ≠ 6 + T → w' k = w k) (ht : m_I μ' (12, f, T) 1 = c' (25 + T) ∧ m_I μ' (12, f, T) 2 = c' (33 + T) ∧ m_I μ' (12, f, T) 3 = c' (41 + T) ∧ m_I μ' (12, f, T) 4 = c' (49 + T) ∧ m_J μ' (12, f, T) 0 = w' (6 + T)) : FmC μ' f c' w' P (T + 1) M := by
  obtain ⟨⟨a1, a2, a3, a4, a5, a6⟩, h2, h3⟩ := h
  refine ⟨⟨?_, h1, ?_, a4, by omega, fun k k1 k2 => ?_⟩, fun p hp => ?_, fun t ht' => ?_⟩
  · rw [sm_I hs (by omega), a1]
  · rw [sm_I hs (by omega), a3]
  · rw [sm_I hs (by omega), a6 k k1 k2, hc k k1 (by omega) (by omega) (by omega) (by omega)]
  · obtain ⟨b1, b2, b3, b4, b5⟩ := h2 p hp
    refine ⟨?_, ?_, ?_, ?_, fun t ht => ?_⟩
    · rw [sm_I hs (by omega), b1, hc _ (by omega) (by omega) (by omega) (by omega) (by omega)]
    · rw [sm_I hs (by omega), b2, hc _ (by omega) (by omega) (by omega) (by omega) (by omega)]
    · rw [sm_I hs (by omega), b3, hc _ (by omega) (by omega) (by omega) (by omega) (by omega)]
    · rw [sm_J hs (by omega), b4, hw _ (by omega)]
    · rw [sm_I hs (by omega), b5 t ht, hc _ (by omega) (by omega) (by omega) (by omega) (by omega)]
  · by_cases z : t = T
    · rw [z]
      exact ht
    · obtain ⟨b1, b2, b3, b4, b5⟩ := h3 t (by omega)
      refine ⟨?_, ?_, ?_, ?_, ?_⟩
      · rw [sm_I hs (by omega), b1, hc _ (by omega) (by omega) (by omega) (by omega) (by omega)]
      · rw [sm_I hs (by omega), b2, hc _ (by omega) (by omega) (by omega) (by omega) (by omega)]
      · rw [sm_I hs (by omega), b3, hc _ (by omega) (by omega) (by omega) (by omega) (by omega)]
      · rw [sm_I hs (by omega), b4, hc _ (by omega) (by omega) (by omega) (by omega) (by omega)]
      · rw [sm_J hs (by omega), b5, hw _ (by omega)]
set_option maxHeartbeats 200000 in
theorem FmC_person {μ μ' : mM} {f P T M : Nat} {c c' : Nat → Int32} {w w' : Nat → Int64} (h : FmC μ f c w P T M) (hP : P < 6) (hs : sm (fun x y z k => ((x = 9 ∨ x = 10) ∧ y = f ∧ z = P) ∨ (x = 7 ∧ y = f ∧ k = 0)) μ μ') (h1 : m_I μ' (7, f, 0) 0 = nI (P + 1)) (hc : ∀ k, 2 ≤ k → k ≠ 7 + P → k ≠ 13 + P → k ≠ 19 + P → (k < 57 + 8 * P ∨ 65 + 8 * P ≤ k) → c' k = c k) (hw : ∀ k, k ≠ P → w' k = w k) (hp' : m_I μ' (9, f, P) 1 = c' (7 + P) ∧ m_I μ' (9, f, P) 2 = c' (13 + P) ∧ m_I μ' (9, f, P) 3 = c' (19 + P) ∧ m_J μ' (9, f, P) 0 = w' P ∧ ∀ t, t < 8 → m_I μ' (10, f, P) t = c' (57 + 8 * P + t)) : FmC μ' f c' w' (P + 1) T M := by
  obtain ⟨⟨a1, a2, a3, a4, a5, a6⟩, h2, h3⟩ := h
  refine ⟨⟨h1, ?_, ?_, by omega, a5, fun k k1 k2 => ?_⟩, fun p hp => ?_, fun t ht => ?_⟩
  · rw [sm_I hs (by omega), a2]
  · rw [sm_I hs (by omega), a3]
  · rw [sm_I hs (by omega), a6 k k1 k2, hc k k1 (by omega) (by omega) (by omega) (by omega)]
  · by_cases z : p = P
    · rw [z]
      exact hp'
    · obtain ⟨b1, b2, b3, b4, b5⟩ := h2 p (by omega)
      refine ⟨?_, ?_, ?_, ?_, fun t ht => ?_⟩
      · rw [sm_I hs (by omega), b1, hc _ (by omega) (by omega) (by omega) (by omega) (by omega)]
      · rw [sm_I hs (by omega), b2, hc _ (by omega) (by omega) (by omega) (by omega) (by omega)]
      · rw [sm_I hs (by omega), b3, hc _ (by omega) (by omega) (by omega) (by omega) (by omega)]
      · rw [sm_J hs (by omega), b4, hw _ (by omega)]
      · rw [sm_I hs (by omega), b5 t ht, hc _ (by omega) (by omega) (by omega) (by omega) (by omega)]
  · obtain ⟨b1, b2, b3, b4, b5⟩ := h3 t ht
    refine ⟨?_, ?_, ?_, ?_, ?_⟩
    · rw [sm_I hs (by omega), b1, hc _ (by omega) (by omega) (by omega) (by omega) (by omega)]
    · rw [sm_I hs (by omega), b2, hc _ (by omega) (by omega) (by omega) (by omega) (by omega)]
    · rw [sm_I hs (by omega), b3, hc _ (by omega) (by omega) (by omega) (by omega) (by omega)]
    · rw [sm_I hs (by omega), b4, hc _ (by omega) (by omega) (by omega) (by omega) (by omega)]
    · rw [sm_J hs (by omega), b5, hw _ (by omega)]
