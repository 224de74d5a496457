/-! Part 69zzx: the reference reads a row; laid by yrs8.py -/
section YQ
variable {ν ν0 ν' : mM} {B : Nat → Int32} {u : Nat → Nat} {L p b P T : Nat} {w : Nat → Int64}
set_option maxHeartbeats 200000 in
theorem r_readRest {k : Nat} (h : EvN ν B u L w P T) (h0 : m_I ν (40, 0, 0) 12 = 0) (hk : TkR ν u L p) (hp : p ≤ L) (hb : 1615 ≤ b) (hb2 : b + 9 ≤ 1885) (hk9 : k ≤ 9) (eb : m_I ν (45, 0, 0) b = nI (rk k)) : m_e (fn_M_readRest (some (40, 0, 0)) (nI b) ν) (QN (KW b) ν u L (gRow u L w P T k p) (fun row ν' => RfS ν' b row)) := by
  have hR := h.1
  unfold fn_M_readRest
  rw [r_th hR, r_g45 hR, r_a45 hR (by omega), eb]
  obtain rfl | rfl | rfl | rfl | rfl | rfl | rfl | rfl | rfl | rfl : k = 0 ∨ k = 1 ∨ k = 2 ∨ k = 3 ∨ k = 4 ∨ k = 5 ∨ k = 6 ∨ k = 7 ∨ k = 8 ∨ k = 9 := by omega
  · have er : nI (rk 0) = nI 0 := rfl
    have eg : gRow u L w P T 0 p = bG (pNum u L p 1 20) fun p1 => .inr (p1, (0, 0, 0, tV u L p)) := rfl
    rw [er, ap_ite, if_pos (by decide), r_g45 hR, eg]
    rw [nb1]
    refine r_cnt (j := b + 1) (a := 1) (a' := 20) h h0 hk hp (by omega) (by omega) (by omega) (fun ν1 fl hr1 s1 hE => ?_) (fun ν1 p1 hr1 s1 z1 k1 l1 e1 => ?_)
    · rw [hr1, bG_l]
      have hRn := sm_R s1 hR
      exact QN_E (sm_mono s1 (KJ_W (by omega) (by omega))) hE
    · rw [hr1, bG_r]
      have t1 : sm (KW b) ν ν1 := sm_mono s1 (KJ_W (by omega) (by omega))
      have hR1 := sm_R s1 hR
      have E1 := EvN_J h s1 (by omega)
      refine QN_O t1 z1 k1 l1 ⟨?_, fun q => absurd q (by dsimp only; omega), fun q => absurd q (by dsimp only; omega), fun q => absurd q (by dsimp only; omega), fun q => ?_, fun q => ?_, fun q => ?_⟩
      · rw [sm_I s1 (by unfold KJ; omega), eb]
      · unfold uP at q
        dsimp only at q
        omega
      · unfold uT at q
        dsimp only at q
        omega
      · show m_I ν1 (45, 0, 0) (b + 1) = _
        rw [e1]
  · have er : nI (rk 1) = nI 1 := rfl
    have eg : gRow u L w P T 1 p = bG (pTold u L p (wT w) T) fun p1 => .inr (p1, (1, 0, iF u L p (wT w) T, 0)) := rfl
    rw [er, ap_ite, if_neg (by decide), ap_ite, if_neg (by decide), ap_ite, if_neg (by decide), ap_ite, if_neg (by decide), ap_ite, if_neg (by decide), ap_ite, if_neg (by decide), r_g45 hR, eg]
    rw [nb1]
    refine r_tldT (j := b + 1) h h0 hk hp (by omega) (fun ν1 fl hr1 s1 hE => ?_) (fun ν1 p1 hr1 s1 z1 k1 l1 e1 => ?_)
    · rw [hr1, bG_l]
      have hRn := sm_R s1 hR
      rw [ap_ite, if_neg (by decide)]
      exact QN_E (sm_mono s1 (KJ_W (by omega) (by omega))) hE
    · rw [hr1, bG_r]
      have t1 : sm (KW b) ν ν1 := sm_mono s1 (KJ_W (by omega) (by omega))
      have hR1 := sm_R s1 hR
      have E1 := EvN_J h s1 (by omega)
      rw [ap_ite, if_neg (by decide)]
      refine QN_O t1 z1 k1 l1 ⟨?_, fun q => absurd q (by dsimp only; omega), fun q => absurd q (by dsimp only; omega), fun q => absurd q (by dsimp only; omega), fun q => ?_, fun q => ?_, fun q => ?_⟩
      · rw [sm_I s1 (by unfold KJ; omega), eb]
      · unfold uP at q
        dsimp only at q
        omega
      · show m_I ν1 (45, 0, 0) (b + 1) = _
        rw [e1]
      · unfold uM at q
        dsimp only at q
        omega
  · have er : nI (rk 2) = nI 2 := rfl
    have eg : gRow u L w P T 2 p = bG (pTold u L p w P) fun p1 => bG (pTold u L p1 (wT w) T) fun p2 => bG (pNum u L p2 0 9) fun p3 => .inr (p3, (2, iF u L p w P, iF u L p1 (wT w) T, tV u L p2)) := rfl
    rw [er, ap_ite, if_neg (by decide), ap_ite, if_neg (by decide), ap_ite, if_neg (by decide), ap_ite, if_neg (by decide), ap_ite, if_pos (by decide), r_g45 hR, eg]
    rw [nb1]
    refine r_tldP (j := b + 1) h h0 hk hp (by omega) (fun ν1 fl hr1 s1 hE => ?_) (fun ν1 p1 hr1 s1 z1 k1 l1 e1 => ?_)
    · rw [hr1, bG_l]
      have hRn := sm_R s1 hR
      rw [r_g45 hRn, nb2, r_tldE hRn (by omega) hE]
      have hR2_ : RefP (m_sI (ν1) (45, 0, 0) (b + 2) 0) := hRn
      rw [r_g45 hR2_, nb3, r_cntE hR2_ (by omega) (Er_w hE)]
      have hR3_ : RefP (m_sI (m_sI (ν1) (45, 0, 0) (b + 2) 0) (45, 0, 0) (b + 3) 0) := hRn
      exact QN_E (KW_w (KW_w (sm_mono s1 (KJ_W (by omega) (by omega))) (by omega) (by omega)) (by omega) (by omega)) (Er_w (Er_w hE))
    · rw [hr1, bG_r]
      have t1 : sm (KW b) ν ν1 := sm_mono s1 (KJ_W (by omega) (by omega))
      have hR1 := sm_R s1 hR
      have E1 := EvN_J h s1 (by omega)
      rw [r_g45 hR1]
      rw [nb2]
      refine r_tldT (j := b + 2) E1 z1 k1 l1 (by omega) (fun ν2 fl hr2 s2 hE => ?_) (fun ν2 p2 hr2 s2 z2 k2 l2 e2 => ?_)
      · rw [hr2, bG_l]
        have hRn := sm_R s2 hR1
        rw [r_g45 hRn, nb3, r_cntE hRn (by omega) hE]
        have hR3_ : RefP (m_sI (ν2) (45, 0, 0) (b + 3) 0) := hRn
        exact QN_E (KW_w (sm_tr t1 (sm_mono s2 (KJ_W (by omega) (by omega)))) (by omega) (by omega)) (Er_w hE)
      · rw [hr2, bG_r]
        have t2 : sm (KW b) ν ν2 := sm_tr t1 (sm_mono s2 (KJ_W (by omega) (by omega)))
        have hR2 := sm_R s2 hR1
        have E2 := EvN_J E1 s2 (by omega)
        rw [r_g45 hR2]
        rw [nb3]
        refine r_cnt (j := b + 3) (a := 0) (a' := 9) E2 z2 k2 l2 (by omega) (by omega) (by omega) (fun ν3 fl hr3 s3 hE => ?_) (fun ν3 p3 hr3 s3 z3 k3 l3 e3 => ?_)
        · rw [hr3, bG_l]
          have hRn := sm_R s3 hR2
          exact QN_E (sm_tr t2 (sm_mono s3 (KJ_W (by omega) (by omega)))) hE
        · rw [hr3, bG_r]
          have t3 : sm (KW b) ν ν3 := sm_tr t2 (sm_mono s3 (KJ_W (by omega) (by omega)))
          have hR3 := sm_R s3 hR2
          have E3 := EvN_J E2 s3 (by omega)
          refine QN_O t3 z3 k3 l3 ⟨?_, fun q => absurd q (by dsimp only; omega), fun q => absurd q (by dsimp only; omega), fun q => absurd q (by dsimp only; omega), fun q => ?_, fun q => ?_, fun q => ?_⟩
          · rw [sm_I s3 (by unfold KJ; omega), sm_I s2 (by unfold KJ; omega), sm_I s1 (by unfold KJ; omega), eb]
          · show m_I ν3 (45, 0, 0) (b + 1) = _
            rw [sm_I s3 (by unfold KJ; omega), sm_I s2 (by unfold KJ; omega), e1]
          · show m_I ν3 (45, 0, 0) (b + 2) = _
            rw [sm_I s3 (by unfold KJ; omega), e2]
          · show m_I ν3 (45, 0, 0) (b + 3) = _
            rw [e3]
  · have er : nI (rk 3) = nI 3 := rfl
    have eg : gRow u L w P T 3 p = bG (pNum u L p 0 9) fun p1 => .inr (p1, (3, 0, 0, tV u L p)) := rfl
    rw [er, ap_ite, if_neg (by decide), ap_ite, if_pos (by decide), r_g45 hR, eg]
    rw [nb1]
    refine r_cnt (j := b + 1) (a := 0) (a' := 9) h h0 hk hp (by omega) (by omega) (by omega) (fun ν1 fl hr1 s1 hE => ?_) (fun ν1 p1 hr1 s1 z1 k1 l1 e1 => ?_)
    · rw [hr1, bG_l]
      have hRn := sm_R s1 hR
      exact QN_E (sm_mono s1 (KJ_W (by omega) (by omega))) hE
    · rw [hr1, bG_r]
      have t1 : sm (KW b) ν ν1 := sm_mono s1 (KJ_W (by omega) (by omega))
      have hR1 := sm_R s1 hR
      have E1 := EvN_J h s1 (by omega)
      refine QN_O t1 z1 k1 l1 ⟨?_, fun q => absurd q (by dsimp only; omega), fun q => absurd q (by dsimp only; omega), fun q => absurd q (by dsimp only; omega), fun q => ?_, fun q => ?_, fun q => ?_⟩
      · rw [sm_I s1 (by unfold KJ; omega), eb]
      · unfold uP at q
        dsimp only at q
        omega
      · unfold uT at q
        dsimp only at q
        omega
      · show m_I ν1 (45, 0, 0) (b + 1) = _
        rw [e1]
  · have er : nI (rk 4) = nI 4 := rfl
    have eg : gRow u L w P T 4 p = bG (pTold u L p (wT w) T) fun p1 => bG (pNum u L p1 1 99) fun p2 => .inr (p2, (4, 0, iF u L p (wT w) T, tV u L p1)) := rfl
    rw [er, ap_ite, if_neg (by decide), ap_ite, if_neg (by decide), ap_ite, if_neg (by decide), ap_ite, if_neg (by decide), ap_ite, if_neg (by decide), ap_ite, if_neg (by decide), r_g45 hR, eg]
    rw [nb1]
    refine r_tldT (j := b + 1) h h0 hk hp (by omega) (fun ν1 fl hr1 s1 hE => ?_) (fun ν1 p1 hr1 s1 z1 k1 l1 e1 => ?_)
    · rw [hr1, bG_l]
      have hRn := sm_R s1 hR
      rw [ap_ite, if_pos (by decide)]
      rw [r_g45 hRn, nb2, r_cntE hRn (by omega) hE]
      have hR2_ : RefP (m_sI (ν1) (45, 0, 0) (b + 2) 0) := hRn
      exact QN_E (KW_w (sm_mono s1 (KJ_W (by omega) (by omega))) (by omega) (by omega)) (Er_w hE)
    · rw [hr1, bG_r]
      have t1 : sm (KW b) ν ν1 := sm_mono s1 (KJ_W (by omega) (by omega))
      have hR1 := sm_R s1 hR
      have E1 := EvN_J h s1 (by omega)
      rw [ap_ite, if_pos (by decide)]
      rw [r_g45 hR1]
      rw [nb2]
      refine r_cnt (j := b + 2) (a := 1) (a' := 99) E1 z1 k1 l1 (by omega) (by omega) (by omega) (fun ν2 fl hr2 s2 hE => ?_) (fun ν2 p2 hr2 s2 z2 k2 l2 e2 => ?_)
      · rw [hr2, bG_l]
        have hRn := sm_R s2 hR1
        exact QN_E (sm_tr t1 (sm_mono s2 (KJ_W (by omega) (by omega)))) hE
      · rw [hr2, bG_r]
        have t2 : sm (KW b) ν ν2 := sm_tr t1 (sm_mono s2 (KJ_W (by omega) (by omega)))
        have hR2 := sm_R s2 hR1
        have E2 := EvN_J E1 s2 (by omega)
        refine QN_O t2 z2 k2 l2 ⟨?_, fun q => absurd q (by dsimp only; omega), fun q => absurd q (by dsimp only; omega), fun q => absurd q (by dsimp only; omega), fun q => ?_, fun q => ?_, fun q => ?_⟩
        · rw [sm_I s2 (by unfold KJ; omega), sm_I s1 (by unfold KJ; omega), eb]
        · unfold uP at q
          dsimp only at q
          omega
        · show m_I ν2 (45, 0, 0) (b + 1) = _
          rw [sm_I s2 (by unfold KJ; omega), e1]
        · show m_I ν2 (45, 0, 0) (b + 2) = _
          rw [e2]
  · have er : nI (rk 5) = nI 5 := rfl
    have eg : gRow u L w P T 5 p = bG (pTold u L p (wT w) T) fun p1 => .inr (p1, (5, 0, iF u L p (wT w) T, 0)) := rfl
    rw [er, ap_ite, if_neg (by decide), ap_ite, if_neg (by decide), ap_ite, if_neg (by decide), ap_ite, if_neg (by decide), ap_ite, if_neg (by decide), ap_ite, if_neg (by decide), r_g45 hR, eg]
    rw [nb1]
    refine r_tldT (j := b + 1) h h0 hk hp (by omega) (fun ν1 fl hr1 s1 hE => ?_) (fun ν1 p1 hr1 s1 z1 k1 l1 e1 => ?_)
    · rw [hr1, bG_l]
      have hRn := sm_R s1 hR
      rw [ap_ite, if_neg (by decide)]
      exact QN_E (sm_mono s1 (KJ_W (by omega) (by omega))) hE
    · rw [hr1, bG_r]
      have t1 : sm (KW b) ν ν1 := sm_mono s1 (KJ_W (by omega) (by omega))
      have hR1 := sm_R s1 hR
      have E1 := EvN_J h s1 (by omega)
      rw [ap_ite, if_neg (by decide)]
      refine QN_O t1 z1 k1 l1 ⟨?_, fun q => absurd q (by dsimp only; omega), fun q => absurd q (by dsimp only; omega), fun q => absurd q (by dsimp only; omega), fun q => ?_, fun q => ?_, fun q => ?_⟩
      · rw [sm_I s1 (by unfold KJ; omega), eb]
      · unfold uP at q
        dsimp only at q
        omega
      · show m_I ν1 (45, 0, 0) (b + 1) = _
        rw [e1]
      · unfold uM at q
        dsimp only at q
        omega
  · have er : nI (rk 6) = nI 6 := rfl
    have eg : gRow u L w P T 6 p = .inr (p, (6, 0, 0, 0)) := rfl
    rw [er, ap_ite, if_neg (by decide), ap_ite, if_neg (by decide), ap_ite, if_neg (by decide), ap_ite, if_neg (by decide), ap_ite, if_neg (by decide), ap_ite, if_pos (by decide), eg]
    refine QN_O sm_rf h0 hk hp ⟨eb, fun q => absurd q (by dsimp only; omega), fun q => absurd q (by dsimp only; omega), fun q => absurd q (by dsimp only; omega), fun q => ?_, fun q => ?_, fun q => ?_⟩
    · unfold uP at q
      dsimp only at q
      omega
    · unfold uT at q
      dsimp only at q
      omega
    · unfold uM at q
      dsimp only at q
      omega
  · have er : nI (rk 7) = nI 9 := rfl
    have eg : gRow u L w P T 7 p = .inr (p, (7, 0, 0, 0)) := rfl
    rw [er, ap_ite, if_neg (by decide), ap_ite, if_neg (by decide), ap_ite, if_neg (by decide), ap_ite, if_neg (by decide), ap_ite, if_neg (by decide), ap_ite, if_pos (by decide), eg]
    refine QN_O sm_rf h0 hk hp ⟨eb, fun q => absurd q (by dsimp only; omega), fun q => absurd q (by dsimp only; omega), fun q => absurd q (by dsimp only; omega), fun q => ?_, fun q => ?_, fun q => ?_⟩
    · unfold uP at q
      dsimp only at q
      omega
    · unfold uT at q
      dsimp only at q
      omega
    · unfold uM at q
      dsimp only at q
      omega
  · have er : nI (rk 8) = nI 8 := rfl
    have eg : gRow u L w P T 8 p = bG (pNum u L p 1 99) fun p1 => .inr (p1, (8, 0, 0, tV u L p)) := rfl
    rw [er, ap_ite, if_neg (by decide), ap_ite, if_neg (by decide), ap_ite, if_pos (by decide), r_g45 hR, eg]
    rw [nb1]
    refine r_cnt (j := b + 1) (a := 1) (a' := 99) h h0 hk hp (by omega) (by omega) (by omega) (fun ν1 fl hr1 s1 hE => ?_) (fun ν1 p1 hr1 s1 z1 k1 l1 e1 => ?_)
    · rw [hr1, bG_l]
      have hRn := sm_R s1 hR
      exact QN_E (sm_mono s1 (KJ_W (by omega) (by omega))) hE
    · rw [hr1, bG_r]
      have t1 : sm (KW b) ν ν1 := sm_mono s1 (KJ_W (by omega) (by omega))
      have hR1 := sm_R s1 hR
      have E1 := EvN_J h s1 (by omega)
      refine QN_O t1 z1 k1 l1 ⟨?_, fun q => absurd q (by dsimp only; omega), fun q => absurd q (by dsimp only; omega), fun q => absurd q (by dsimp only; omega), fun q => ?_, fun q => ?_, fun q => ?_⟩
      · rw [sm_I s1 (by unfold KJ; omega), eb]
      · unfold uP at q
        dsimp only at q
        omega
      · unfold uT at q
        dsimp only at q
        omega
      · show m_I ν1 (45, 0, 0) (b + 1) = _
        rw [e1]
  · have er : nI (rk 9) = nI 7 := rfl
    rw [er, ap_ite, if_neg (by decide), ap_ite, if_neg (by decide), ap_ite, if_neg (by decide), ap_ite, if_pos (by decide)]
    exact e_bd (r_readTest h h0 hk hp hb hb2 eb) (fun a ν' q => ⟨_, _, rfl, q⟩)
end YQ
