/-! Part 69zzj: the reference reads a love; a clause; all clauses -/
section RG
variable {ν ν0 ν' : mM} {B : Nat → Int32} {u : Nat → Nat} {L p P T M : Nat} {c : Nat → Int32} {w : Nat → Int64}
set_option maxHeartbeats 200000 in
theorem r_readLoves (h : EvR ν B u L c w P T M) (hk : TkR ν u L p) (hp : p ≤ L) : m_e (fn_M_readLoves (some (40, 0, 0)) ν) (QG ν u L (gLov u L p P T M c w) SR) := by
  obtain ⟨hR, hT, hB, hF, hD, h25, hM, h0⟩ := id h
  obtain ⟨hD1, hD2, hP6, hT8⟩ := id hD
  unfold fn_M_readLoves gLov
  rw [r_th hR]
  refine e_bd (r_adv1 hR hT hB hk hp h0) ?_
  rintro - ν1 ⟨s1, g1, -⟩
  obtain ⟨z1, k1, l1⟩ := g1 _ rfl
  have hR1 := sm_R s1 hR
  have hT1 := RxB_sm hT s1 (by omega) (by omega)
  have t1 : sm KG ν ν1 := sm_mono s1 (by unfold KG; omega)
  have f1 := FmR_sm hF s1 (by omega) (by omega)
  refine e_bd (r_readTold0 (k := 4) (j := 0) (N := P) (w := w) hR1 hT1 hB k1 l1 z1 (by omega) (by omega) (by rw [← hD1, ← f1.1 0 (by omega)]) (by omega) (fun i hi => f1.2 i (by omega))) ?_
  rintro v1 ν2 ⟨⟨s2, b1, b2⟩, b3⟩
  have hR2 := sm_R s2 hR1
  have hT2 := RxB_sm hT1 s2 (by omega) (by omega)
  have t2 : sm KG ν ν2 := sm_tr t1 (sm_mono s2 (by unfold KG; omega))
  have f2 := FmR_sm f1 s2 (by omega) (by omega)
  cases hr : pTold u L (tE u L p) w P with
  | inl fl =>
    have hE := b2 fl hr
    rw [bd_of (r_readToldE hR2 hE 4 1), bd_of (r_countE hR2 hE 0 9), r_gI hR2, ap_ite, if_neg (Er_0 hE).1]
    exact ⟨_, _, rfl, QG_E t2 hE⟩
  | inr p1 =>
    obtain ⟨z2, k2, l2⟩ := b1 p1 hr
    obtain ⟨e1, j, hj, ej⟩ := b3 p1 hr
    rw [bG_r]
    refine e_bd (r_readTold0 (k := 4) (j := 1) (N := T) (w := fun i => w (6 + i)) hR2 hT2 hB k2 l2 z2 (by omega) (by omega) (by rw [← hD2, ← f2.1 1 (by omega)]) (by omega) (fun i hi => by
      rw [← f2.2 (6 + i) (by omega)]
      congr 1
      omega)) ?_
    rintro v2 ν3 ⟨⟨s3, c1, c2⟩, c3⟩
    have hR3 := sm_R s3 hR2
    have hT3 := RxB_sm hT2 s3 (by omega) (by omega)
    have t3 : sm KG ν ν3 := sm_tr t2 (sm_mono s3 (by unfold KG; omega))
    have f3 := FmR_sm f2 s3 (by omega) (by omega)
    cases hr2 : pTold u L p1 (fun i => w (6 + i)) T with
    | inl fl =>
      have hE := c2 fl hr2
      rw [bd_of (r_countE hR3 hE 0 9), r_gI hR3, ap_ite, if_neg (Er_0 hE).1]
      exact ⟨_, _, rfl, QG_E t3 hE⟩
    | inr p2 =>
      obtain ⟨z3, k3, l3⟩ := c1 p2 hr2
      obtain ⟨e2, i, hi, ei⟩ := c3 p2 hr2
      rw [bG_r]
      refine e_bd (r_count0 (a := 0) (b := 9) hR3 hT3 hB k3 l3 z3 (by omega) (by omega)) ?_
      rintro v3 ν4 ⟨⟨s4, d1, d2⟩, d3, d4⟩
      have hR4 := sm_R s4 hR3
      have t4 : sm KG ν ν4 := sm_tr t3 (sm_mono s4 (by unfold KG; omega))
      have f4 := FmR_sm f3 s4 (by omega) (by omega)
      cases hr3 : pNum u L p2 0 9 with
      | inl fl =>
        have hE := d2 fl hr3
        rw [r_gI hR4, ap_ite, if_neg (Er_0 hE).1]
        exact ⟨_, _, rfl, QG_E t4 hE⟩
      | inr p3 =>
        obtain ⟨z4, k4, l4⟩ := d1 p3 hr3
        have n1 : (1565 : Int32) + 8 * nI j + nI i = nI (1508 + (57 + 8 * j + i)) := by
          rw [show (8 : Int32) = nI 8 from rfl, pk_mul, show (1565 : Int32) = nI 1565 from rfl, nI_add, nI_add]
          congr 1
          omega
        have f5 := FmR_upd f4 (57 + 8 * j + i) v3
        have s5 : sm (fun x _ _ k => x = 45 ∧ 1508 ≤ k) ν4 (m_sI ν4 (45, 0, 0) (1508 + (57 + 8 * j + i)) v3) := sm_sI sm_rf _ (by omega)
        rw [r_gI hR4, z4, ap_ite, if_pos rfl, r_g45 hR4, ej, ei, n1, r_t45 hR4 (by omega), bG_r]
        refine ⟨_, _, rfl, sm_tr t4 (sm_mono s5 (by unfold KG; omega)), fun p' a q => ?_, fun fl q => (by cases q)⟩
        cases q
        refine ⟨by rw [sm_I s5 (by omega), z4], TkR_sm k4 s5 (by omega), l4, ?_, by
          show m_I (m_sI ν4 (45, 0, 0) (1508 + (57 + 8 * j + i)) v3) (40, 0, 0) 25 = nI M
          rw [sm_I s5 (by omega), sm_I s4 (by omega), sm_I s3 (by omega), sm_I s2 (by omega), sm_I s1 (by omega), h25]⟩
        show FmR _ (ud c (57 + 8 * iN (fnd w (xw u L (tE u L p)) P 0) + iN (fnd (fun i => w (6 + i)) (xw u L p1) T 0)) (nI (tV u L p2))) w
        rw [← e1, ← e2, ej, ei, iN_n (by omega), iN_n (by omega), ← d3 p3 hr3]
        exact f5
set_option maxHeartbeats 200000 in
theorem r_rule (h : EvR ν B u L c w P T M) (hk : TkR ν u L p) (hp : p ≤ L) {j a b : Nat} (hj : j < 6) (ha : a < 2 ^ 31) (hb : b < 2 ^ 31) : m_e (m_bd (fn_M_readOnce (some (40, 0, 0)) (nI j) (nI a) (nI b)) (fun _ => m_rt ()) ν) (QG ν u L (gRul u L p P T M c w j a b) SR) := by
  obtain ⟨hR, hT, hB, hF, hD, h25, hM, h0⟩ := id h
  unfold gRul
  refine e_bd (r_readOnce0 hR hT hB hk hp h0 hM hj h25 ha hb) ?_
  rintro - ν1 ⟨s1, g1, g2⟩
  have t1 : sm KG ν ν1 := sm_mono s1 (by unfold KG; omega)
  cases hr : pOnce u L p (M.testBit j) a b with
  | inl fl => exact ⟨_, _, rfl, QG_E t1 (g2 fl hr)⟩
  | inr p1 =>
    obtain ⟨z1, k1, l1, e25, e45⟩ := g1 p1 hr
    refine ⟨_, _, rfl, t1, fun p' s q => ?_, fun fl q => (by cases q)⟩
    cases q
    refine ⟨z1, k1, l1, ⟨fun k hk => ?_, fun k hk => ?_⟩, e25⟩
    · show _ = ud c j (nI (tV u L (tE u L p))) k
      unfold ud
      by_cases z : k = j
      · rw [z, if_pos rfl, e45]
      · rw [if_neg z, sm_I s1 (by omega), hF.1 k hk]
    · rw [sm_J s1 (by omega), hF.2 k hk]
set_option maxHeartbeats 200000 in
theorem r_readPart (h : EvR ν B u L c w P T M) (hk : TkR ν u L p) (hp : p ≤ L) : m_e (fn_M_readPart (some (40, 0, 0)) ν) (QG ν u L (gCl u L p P T M c w) SR) := by
  obtain ⟨hR, hT, hB, hF, hD, h25, hM, h0⟩ := id h
  have hrt : ∀ {x : mP Unit} {Q : Unit → mM → Prop}, m_e (x ν) Q → m_e (m_bd x (fun _ => m_rt ()) ν) Q := fun q => e_bd q (fun a μ' q => ⟨_, _, rfl, q⟩)
  have hx : ∀ {i j : Nat}, i < 21 → j < 21 → i ≠ j → isW u L p i = true → ¬ isW u L p j = true := fun hi hj hne q q' => hne (isW_1 hi hj q q')
  unfold fn_M_readPart gCl
  rw [r_th hR, bd_of (r_isShows hR hk), ap_ite, iw_ite]
  by_cases h1 : isW u L p 1 = true
  · rw [if_pos h1, if_neg (hx (by omega) (by omega) (by omega) h1), if_neg (hx (by omega) (by omega) (by omega) h1), if_neg (hx (by omega) (by omega) (by omega) h1), if_pos h1]
    exact r_rule (j := 2) (a := 0) (b := 99) h hk hp (by omega) (by omega) (by omega)
  rw [if_neg h1, bd_of (r_isLife hR hk), ap_ite, iw_ite]
  by_cases h2 : isW u L p 2 = true
  · rw [if_pos h2, if_neg (hx (by omega) (by omega) (by omega) h2), if_neg (hx (by omega) (by omega) (by omega) h2), if_neg (hx (by omega) (by omega) (by omega) h2), if_neg h1, if_pos h2]
    exact r_rule (j := 3) (a := 1) (b := 120) h hk hp (by omega) (by omega) (by omega)
  rw [if_neg h2, bd_of (r_isDamp hR hk), ap_ite, iw_ite]
  by_cases h3 : isW u L p 3 = true
  · rw [if_pos h3, if_neg (hx (by omega) (by omega) (by omega) h3), if_neg (hx (by omega) (by omega) (by omega) h3), if_neg (hx (by omega) (by omega) (by omega) h3), if_neg h1, if_neg h2, if_pos h3]
    exact r_rule (j := 4) (a := 0) (b := 9) h hk hp (by omega) (by omega) (by omega)
  rw [if_neg h3, bd_of (r_isBreath hR hk), ap_ite, iw_ite]
  by_cases h4 : isW u L p 4 = true
  · rw [if_pos h4, if_neg (hx (by omega) (by omega) (by omega) h4), if_neg (hx (by omega) (by omega) (by omega) h4), if_neg (hx (by omega) (by omega) (by omega) h4), if_neg h1, if_neg h2, if_neg h3, if_pos h4]
    exact r_rule (j := 5) (a := 0) (b := 99) h hk hp (by omega) (by omega) (by omega)
  rw [if_neg h4, bd_of (r_isPerson hR hk), ap_ite, iw_ite]
  by_cases h0 : isW u L p 0 = true
  · rw [if_pos h0, if_pos h0]
    exact hrt (r_readPerson h hk hp)
  rw [if_neg h0, if_neg h0, bd_of (r_isThing hR hk), ap_ite, iw_ite]
  by_cases h7 : isW u L p 7 = true
  · rw [if_pos h7, if_pos h7]
    exact hrt (r_readThing h hk hp)
  rw [if_neg h7, if_neg h7, bd_of (r_isLoves hR hk), ap_ite, iw_ite]
  by_cases h10 : isW u L p 10 = true
  · rw [if_pos h10, if_pos h10]
    exact hrt (r_readLoves h hk hp)
  rw [if_neg h10, if_neg h10, if_neg h1, if_neg h2, if_neg h3, if_neg h4, bd_of (r_amiss0 hR (h.2.2.2.2.2.2.2) hk)]
  exact ⟨_, _, rfl, QG_E (sm_sI (sm_sI sm_rf _ (by unfold KG; omega)) _ (by unfold KG; omega)) ⟨by rw [I_row, ud_ne (by decide), I_row, ud_at], by rw [I_row, ud_at], am_b⟩⟩
set_option maxHeartbeats 200000 in
/-- a clause and the sign behind it -/
theorem r_clause (h : EvR ν B u L c w P T M) (hk : TkR ν u L p) (hp : p ≤ L) : m_e (m_bd (fn_M_readPart (some (40, 0, 0))) (fun _ => m_bd (fn_M_isSign (some (40, 0, 0)) 59) fun v5 => m_bd (fn_M_must (some (40, 0, 0)) v5) fun _ => m_rt (.inl () : Unit ⊕ Unit)) ν) (fun r ν' => r = .inl () ∧ QG ν u L (bG (gCl u L p P T M c w) (wE u L)) SR () ν') := by
  obtain ⟨hR, hT, hB, hF, hD, h25, hM, h0⟩ := id h
  refine e_bd (r_readPart h hk hp) ?_
  rintro - ν1 ⟨s1, g1, g2⟩
  have hR1 := sm_R s1 hR
  cases hr : gCl u L p P T M c w with
  | inl fl =>
    have hE := g2 fl hr
    obtain ⟨x1, e1⟩ := r_signE hR1 59
    rw [bd_of e1, bd_of (r_mustE hR1 hE x1)]
    exact ⟨_, _, rfl, rfl, QG_E s1 hE⟩
  | inr q =>
    obtain ⟨p1, s⟩ := q
    obtain ⟨z1, k1, l1, f1, e1⟩ := g1 p1 s hr
    have hT1 := RxB_sm hT s1 (by unfold KG; omega) (by unfold KG; omega)
    have he := r_end0 hR1 hT1 hB k1 l1 z1
    have hb : ∀ {K : Unit → mP (Unit ⊕ Unit)}, m_bd (fn_M_isSign (some (40, 0, 0)) 59) (fun v5 => m_bd (fn_M_must (some (40, 0, 0)) v5) K) ν1 = m_bd (m_bd (fn_M_isSign (some (40, 0, 0)) 59) (fun v => fn_M_must (some (40, 0, 0)) v)) K ν1 := fun {K} => by rw [bd_bd]
    rw [hb]
    refine e_bd he ?_
    rintro - ν2 ⟨s2, b1, b2⟩
    have t2 : sm KG ν ν2 := sm_tr s1 (sm_mono s2 (by unfold KG; omega))
    rw [bG_r]
    unfold wE
    refine ⟨_, _, rfl, rfl, ?_⟩
    dsimp only
    cases hr2 : pEnd u L p1 with
    | inl fl => exact QG_E t2 (b2 fl hr2)
    | inr p2 =>
      obtain ⟨z2, k2, l2⟩ := b1 p2 hr2
      refine ⟨t2, fun p' a q => ?_, fun fl q => (by cases q)⟩
      cases q
      exact ⟨z2, k2, l2, FmR_sm f1 s2 (by omega) (by omega), by rw [sm_I s2 (by omega), e1]⟩
end RG
