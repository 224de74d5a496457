/-! Part 69zzy: the reference reads a step's line -/
def KX (x _y _z k : Nat) : Prop := (x = 40 ∧ (12 ≤ k ∧ k ≤ 19 ∨ k = 26)) ∨ (x = 45 ∧ 1615 ≤ k)
def RY (ν : mM) (y : YS) : Prop := m_I ν (40, 0, 0) 26 = nI y.1 ∧ (∀ i, i < y.1 → RfS ν (1615 + 9 * i) (y.2.1 i)) ∧ ∀ i, i < y.1 → i ∉ y.2.2.2 → m_I ν (45, 0, 0) (1615 + 9 * i + 8) = nI (y.2.2.1 i)
/-- a step's line was read, its end isn't kept yet -/
def RH (ν : mM) (y : YS) (r : Row) : Prop := m_I ν (40, 0, 0) 26 = nI (y.1 + 1) ∧ (∀ i, i < y.1 → RfS ν (1615 + 9 * i) (y.2.1 i)) ∧ RfS ν (1615 + 9 * y.1) r ∧ ∀ i, i < y.1 → i ∉ y.2.2.2 → m_I ν (45, 0, 0) (1615 + 9 * i + 8) = nI (y.2.2.1 i)
def yNx (u : Nat → Nat) (L p : Nat) (y : YS) (r : Row) : YS := (y.1 + 1, ud y.2.1 y.1 r, if 8 ≤ kdN u L p then y.2.2.1 else ud y.2.2.1 y.1 (y.1 + 1), if 8 ≤ kdN u L p then y.1 :: y.2.2.2 else y.2.2.2)
section YH
variable {ν ν0 ν' : mM} {B : Nat → Int32} {u : Nat → Nat} {L p b P T : Nat} {w : Nat → Int64} {y : YS}
set_option maxHeartbeats 200000 in
theorem RfS_sm {K : Nat → Nat → Nat → Nat → Prop} {r : Row} (h : RfS ν b r) (hs : sm K ν ν') (hk : ∀ k, b ≤ k → k < b + 8 → ¬ K 45 0 0 k) : RfS ν' b r := by
  have hm : mm r.1 ≤ 3 := by
    unfold mm
    repeat' split
    all_goals omega
  obtain ⟨a1, a2, a3, a4, a5, a6, a7⟩ := h
  refine ⟨?_, fun q => ?_, fun q => ?_, fun q => ?_, fun q => ?_, fun q => ?_, fun q => ?_⟩
  · rw [sm_I hs (hk _ (by omega) (by omega)), a1]
  · rw [sm_I hs (hk _ (by omega) (by omega)), a2 q]
  · rw [sm_I hs (hk _ (by omega) (by omega)), a3 q]
  · rw [sm_I hs (hk (b + 6) (by omega) (by omega)), sm_I hs (hk (b + 7) (by omega) (by omega))]
    exact a4 q
  · rw [sm_I hs (hk _ (by omega) (by omega)), a5 q]
  · rw [sm_I hs (hk _ (by omega) (by split <;> omega)), a6 q]
  · rw [sm_I hs (hk _ (by omega) (by omega)), a7 q]
set_option maxHeartbeats 200000 in
theorem RY_sm {K : Nat → Nat → Nat → Nat → Prop} (h : RY ν y) (hs : sm K ν ν') (h1 : ¬ K 40 0 0 26) (h2 : ∀ k, ¬ K 45 0 0 k) : RY ν' y := ⟨by rw [sm_I hs h1, h.1], fun i hi => RfS_sm (h.2.1 i hi) hs (fun k _ _ => h2 k), fun i hi q => by rw [sm_I hs (h2 _), h.2.2 i hi q]⟩
set_option maxHeartbeats 200000 in
theorem stW_kd : stW u L p = if kdN u L p = 99 then -1 else nI (rk (kdN u L p)) := by
  unfold stW kdN
  by_cases h1 : isW u L p 11 = true
  · rw [if_pos h1, if_pos h1]; rfl
  rw [if_neg h1, if_neg h1]
  by_cases h2 : isW u L p 12 = true
  · rw [if_pos h2, if_pos h2]; rfl
  rw [if_neg h2, if_neg h2]
  by_cases h3 : isW u L p 10 = true
  · rw [if_pos h3, if_pos h3]; rfl
  rw [if_neg h3, if_neg h3]
  by_cases h4 : isW u L p 3 = true
  · rw [if_pos h4, if_pos h4]; rfl
  rw [if_neg h4, if_neg h4]
  by_cases h5 : isW u L p 9 = true
  · rw [if_pos h5, if_pos h5]; rfl
  rw [if_neg h5, if_neg h5]
  by_cases h6 : isW u L p 13 = true
  · rw [if_pos h6, if_pos h6]; rfl
  rw [if_neg h6, if_neg h6]
  by_cases h7 : isW u L p 14 = true
  · rw [if_pos h7, if_pos h7]; rfl
  rw [if_neg h7, if_neg h7]
  by_cases h8 : isW u L p 15 = true
  · rw [if_pos h8, if_pos h8]; rfl
  rw [if_neg h8, if_neg h8]
  by_cases h9 : isW u L p 18 = true
  · rw [if_pos h9, if_pos h9]; rfl
  rw [if_neg h9, if_neg h9]
  by_cases h10 : isW u L p 20 = true
  · rw [if_pos h10, if_pos h10]; rfl
  rw [if_neg h10, if_neg h10]
  rfl
set_option maxHeartbeats 200000 in
theorem kdN_19 (h : isW u L p 19 = true) : kdN u L p = 99 := by
  have hx : ∀ {j : Nat}, j < 21 → 19 ≠ j → ¬ isW u L p j = true := fun hj hne q' => hne (isW_1 (by omega) hj h q')
  unfold kdN
  rw [if_neg (hx (by omega) (by omega)), if_neg (hx (by omega) (by omega)), if_neg (hx (by omega) (by omega)), if_neg (hx (by omega) (by omega)), if_neg (hx (by omega) (by omega)), if_neg (hx (by omega) (by omega)), if_neg (hx (by omega) (by omega)), if_neg (hx (by omega) (by omega)), if_neg (hx (by omega) (by omega)), if_neg (hx (by omega) (by omega))]
set_option maxHeartbeats 200000 in
theorem yLn_99 (h19 : isW u L p 19 = true → y.2.2.2 = []) (h : kdN u L p = 99) : yLn u L w P T p y = .inl (am u L p) := by
  unfold yLn
  by_cases z : isW u L p 19 = true
  · rw [if_pos z]
    unfold yCl
    rw [h19 z]
    rfl
  · rw [if_neg z]
    unfold yHd
    rw [if_pos h]
    rfl
set_option maxHeartbeats 200000 in
theorem yLn_hd (h : kdN u L p ≠ 99) : yLn u L w P T p y = bG (yHd u L w P T p y) (yE u L) := by
  unfold yLn
  rw [if_neg (fun z => h (kdN_19 z))]
set_option maxHeartbeats 200000 in
theorem yLn_30 (h : kdN u L p ≠ 99) (h30 : y.1 = 30) : yLn u L w P T p y = .inl (6, tS u L p) := by
  rw [yLn_hd h]
  unfold yHd
  rw [if_neg h, if_pos h30, bG_l]
set_option maxHeartbeats 200000 in
theorem yLn_3 (h : kdN u L p ≠ 99) (h30 : y.1 ≠ 30) (h3 : 8 ≤ kdN u L p ∧ 3 ≤ y.2.2.2.length) : yLn u L w P T p y = .inl (7, tS u L p) := by
  rw [yLn_hd h]
  unfold yHd
  rw [if_neg h, if_neg h30, if_pos h3, bG_l]
set_option maxHeartbeats 200000 in
theorem yLn_r (h : kdN u L p ≠ 99) (h30 : y.1 ≠ 30) (h3 : ¬ (8 ≤ kdN u L p ∧ 3 ≤ y.2.2.2.length)) : yLn u L w P T p y = bG (gRow u L w P T (kdN u L p) (tE u L p)) (fun q => bG (pEnd u L q.1) fun p' => .inr (p', yNx u L p y q.2)) := by
  rw [yLn_hd h]
  unfold yHd
  rw [if_neg h, if_neg h30, if_neg h3, bG_bG]
  rfl
set_option maxHeartbeats 200000 in
/-- a step's line, but for what is asked ahead -/
theorem r_head {K : Unit → mP Unit} {Q : Unit → mM → Prop} (h : EvN ν B u L w P T) (h0 : m_I ν (40, 0, 0) 12 = 0) (hk : TkR ν u L p) (hp : p ≤ L) (hY : RY ν y) (hI : YI y P T) (h99 : kdN u L p ≠ 99) (h30 : y.1 ≠ 30) (h3 : ¬ (8 ≤ kdN u L p ∧ 3 ≤ y.2.2.2.length))
    (hE : ∀ ν' fl, yLn u L w P T p y = .inl fl → sm KX ν ν' → Er ν' fl → m_e (K () ν') Q)
    (hO : ∀ ν' p' r, yLn u L w P T p y = .inr (p', yNx u L p y r) → sm KX ν ν' → m_I ν' (40, 0, 0) 12 = 0 → TkR ν' u L p' → p' ≤ L → RH ν' y r → (8 ≤ kdN u L p ↔ 8 ≤ r.1) → m_e (K () ν') Q) :
    m_e (m_bd (m_pI 11 26 (some (40, 0, 0)) (nI y.1 + 1)) (fun _ => m_bd (fn_M_advance (some (40, 0, 0))) fun _ => m_bd (m_gR 11 20 (some (40, 0, 0))) fun v14 => m_bd (m_tI 0 v14 (1615 + 9 * nI y.1) (nI (rk (kdN u L p)))) fun _ => m_bd (fn_M_readRest (some (40, 0, 0)) (1615 + 9 * nI y.1)) fun _ => m_bd (fn_M_isSign (some (40, 0, 0)) 59) fun v15 => m_bd (fn_M_must (some (40, 0, 0)) v15) K) ν) Q := by
  obtain ⟨hR, hT, hB, -⟩ := id h
  obtain ⟨y1, y2, y3⟩ := hY
  have hs30 : y.1 < 30 := by have := hI.1; omega
  have hkl := kdN_le (u := u) (L := L) (p := p)
  have eb : (1615 : Int32) + 9 * nI y.1 = nI (1615 + 9 * y.1) := by rw [show (9 : Int32) = nI 9 from rfl, pk_mul, show (1615 : Int32) = nI 1615 from rfl, nI_add]
  have s1 : sm (fun x _ _ k => x = 40 ∧ k = 26) ν (m_sI ν (40, 0, 0) 26 (nI (y.1 + 1))) := sm_sI sm_rf _ ⟨rfl, rfl⟩
  have e26 : m_I (m_sI ν (40, 0, 0) 26 (nI (y.1 + 1))) (40, 0, 0) 26 = nI (y.1 + 1) := by rw [I_row, ud_at]
  rw [nI_1, r_pI hR]
  generalize m_sI ν (40, 0, 0) 26 (nI (y.1 + 1)) = ν1 at *
  have hR1 := sm_R s1 hR
  refine e_bd (r_adv1 hR1 (RxB_sm hT s1 (by omega) (by omega)) hB (TkR_sm hk s1 (by omega)) hp (by rw [sm_I s1 (by omega), h0])) ?_
  rintro - ν2 ⟨s2, g2, -⟩
  obtain ⟨z2, k2, l2⟩ := g2 _ rfl
  have hR2 := sm_R s2 hR1
  have s3 : sm (fun x _ _ k => x = 45 ∧ k = 1615 + 9 * y.1) ν2 (m_sI ν2 (45, 0, 0) (1615 + 9 * y.1) (nI (rk (kdN u L p)))) := sm_sI sm_rf _ ⟨rfl, rfl⟩
  have e3 : m_I (m_sI ν2 (45, 0, 0) (1615 + 9 * y.1) (nI (rk (kdN u L p)))) (45, 0, 0) (1615 + 9 * y.1) = nI (rk (kdN u L p)) := by rw [I_row, ud_at]
  rw [r_g45 hR2, eb, r_t45 hR2 (by omega)]
  generalize m_sI ν2 (45, 0, 0) (1615 + 9 * y.1) (nI (rk (kdN u L p))) = ν3 at *
  have t3 : sm KX ν ν3 := sm_tr (sm_tr (sm_mono s1 (by unfold KX; omega)) (sm_mono s2 (by unfold KX; omega))) (sm_mono s3 (by unfold KX; omega))
  have E3 := EvN_sm h t3 (by unfold KX; omega) (by unfold KX; omega) (by unfold KX; omega) (by unfold KX; omega)
  refine e_bd (r_readRest (k := kdN u L p) E3 (by rw [sm_I s3 (by omega), z2]) (TkR_sm k2 s3 (by omega)) l2 (by omega) (by omega) (by omega) e3) ?_
  rintro - ν4 ⟨s4, c1, c2⟩
  have t4 : sm KX ν ν4 := sm_tr t3 (sm_mono s4 (by unfold KW KX; omega))
  have hR4 := sm_R t4 hR
  have eln := yLn_r (w := w) (P := P) (T := T) h99 h30 h3
  cases hr : gRow u L w P T (kdN u L p) (tE u L p) with
  | inl fl =>
    have hEr := c2 fl hr
    obtain ⟨x1, e1⟩ := r_signE hR4 59
    rw [bd_of e1, bd_of (r_mustE hR4 hEr x1)]
    exact hE ν4 fl (by rw [eln, hr, bG_l]) t4 hEr
  | inr q =>
    obtain ⟨p1, r⟩ := q
    obtain ⟨z4, k4, l4, f4⟩ := c1 p1 r hr
    have hi := gRow_i (by omega) h.2.2.2.2.2.1 h.2.2.2.2.2.2.1 l2 hr
    have hT4 := RxB_sm hT t4 (by unfold KX; omega) (by unfold KX; omega)
    have hb : m_bd (fn_M_isSign (some (40, 0, 0)) 59) (fun v5 => m_bd (fn_M_must (some (40, 0, 0)) v5) K) ν4 = m_bd (m_bd (fn_M_isSign (some (40, 0, 0)) 59) (fun v => fn_M_must (some (40, 0, 0)) v)) K ν4 := by rw [bd_bd]
    rw [hb]
    refine e_bd (r_end0 hR4 hT4 hB k4 l4 z4) ?_
    rintro - ν5 ⟨s5, d1, d2⟩
    have t5 : sm KX ν ν5 := sm_tr t4 (sm_mono s5 (by unfold KX; omega))
    cases hr2 : pEnd u L p1 with
    | inl fl => exact hE ν5 fl (by rw [eln, hr, bG_r, hr2, bG_l]) t5 (d2 fl hr2)
    | inr p2 =>
      obtain ⟨z5, k5, l5⟩ := d1 p2 hr2
      refine hO ν5 p2 r (by rw [eln, hr, bG_r, hr2, bG_r]) t5 z5 k5 l5 ⟨?_, fun i hi => ?_, ?_, fun i hi q => ?_⟩ ?_
      · rw [sm_I s5 (by omega), sm_I s4 (by unfold KW; omega), sm_I s3 (by omega), sm_I s2 (by omega), e26]
      · exact RfS_sm (RfS_sm (RfS_sm (RfS_sm (RfS_sm (y2 i hi) s1 (by omega)) s2 (by omega)) s3 (by omega)) s4 (by unfold KW; omega)) s5 (by omega)
      · exact RfS_sm f4 s5 (by omega)
      · rw [sm_I s5 (by omega), sm_I s4 (by unfold KW; omega), sm_I s3 (by omega), sm_I s2 (by omega), sm_I s1 (by omega), y3 i hi q]
      · obtain ⟨-, -, -, v1, v2⟩ := hi
        constructor
        · intro k8
          by_cases k9 : kdN u L p = 9
          · have := v2 k9
            omega
          · have := v1 (by omega)
            omega
        · intro k8
          by_cases k9 : kdN u L p = 9
          · omega
          · have := v1 (by omega)
            omega
end YH
