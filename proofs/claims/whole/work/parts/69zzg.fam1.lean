/-! Part 69zzg: the class reads a person, a thing, a love, a rule -/
section KP
variable {μ : mM} {B : Nat → Int32} {u : Nat → Nat} {L p f P T M : Nat} {c : Nat → Int32} {w : Nat → Int64}
/-- a family so far, as a clause leaves it -/
def SC (f : Nat) (s : FS) (μ' : mM) : Prop := FmC μ' f s.2.2.2.1 s.2.2.2.2 s.1 s.2.1 s.2.2.1
set_option maxHeartbeats 200000 in
theorem k_takePerson (h : EvC μ B u L f c w P T M) (hk : TkC μ u L p) (hp : p ≤ L) (h4 : ¬ tK u L p = 4) (hz : P < 6 → ∀ t, t < 8 → c (57 + 8 * P + t) = 0) : m_e (fn_Re_takePerson (some (5, 0, 0)) (some (7, f, 0)) μ) (QK μ f u L (bG (gPer u L p P T M c w) (wE u L)) (SC f)) := by
  obtain ⟨hC, hP, hT, hB, hF⟩ := id h
  obtain ⟨⟨a1, a2, a3, a4, a5, a6⟩, hF2, hF3⟩ := id hF
  unfold fn_Re_takePerson gPer pNew
  rw [c_fam_gI hP, a1, ap_ite]
  by_cases z : P = 6
  · subst z
    rw [if_neg (show ¬ nI 6 < 6 by decide), if_pos rfl, bG_l, bG_l]
    exact e_mono (k_ref0 hC hk 6 (6, tS u L p) (by rw [if_neg h4])) (fun r μ' q => QK_O St5_rf q)
  · have hP6 : P < 6 := by omega
    rw [if_pos (show nI P < 6 from nI_lt (b := 6) hP6 (by omega)), if_neg z]
    refine e_bd (k_adv hC hT hB hk hp) ?_
    rintro - μ1 g1
    have h1 : St5 μ μ1 := St5_O St5_rf g1
    obtain ⟨-, k1, l1, -⟩ := g1.2.1 _ rfl
    obtain ⟨hC1, hP1, hT1, -, hF1⟩ := EvC_sm h h1.1
    obtain ⟨⟨b1, b2, b3, b4, b5, b6⟩, hG2, hG3⟩ := hF1
    have en : pName u L (tE u L p) (nw u L (tE u L p) w P T) = pName u L (tE u L p) (decide (fnd w (m_J μ1 (5, 0, 0) 7) P 0 = -1) && decide (fnd (fun i => w (6 + i)) (m_J μ1 (5, 0, 0) 7) T 0 = -1)) := pName_c (fun y => by
      rw [k_7 k1 y]
      rfl)
    rw [c_text_gJ hC1, bd_of (k_isNew (w := w) hP1 b1 a4 (fun i hi => (hG2 i hi).2.2.2.1) b2 a5 (fun i hi => (hG3 i hi).2.2.2.2) (m_J μ1 (5, 0, 0) 7)), en, bG_bG]
    refine k_ch h1 (k_takeName hC1 hT1 hB k1 l1) ?_
    intro μ2 p2 r2 h2 k2 l2 _
    have e7 := k_7 k1 (pName_n r2).1
    obtain ⟨hC2, hP2, hT2, -, hF2'⟩ := EvC_sm h h2.1
    rw [pBeh_w, bG_bG, bG_bG]
    refine k_ch h2 (k_takeWord hC2 hT2 hB k2 l2 (j := 5) (by omega)) ?_
    intro μ3 p3 r3 h3 k3 l3 _
    have e3 : p3 = tE u L p2 := by
      unfold pWord at r3
      split at r3 <;> cases r3
      rfl
    obtain ⟨hC3, hP3, hT3, -, hF3'⟩ := EvC_sm h h3.1
    refine k_chn (a := 0) (b := 119) h3 hC3 hT3 hB k3 l3 (by omega) (by omega) ?_
    intro μ4 p4 r4 h4 k4 l4 e9
    obtain ⟨hC4, hP4, hT4, -, hF4'⟩ := EvC_sm h h4.1
    have fin : ∀ μ5 p5, St5 μ μ5 → TkC μ5 u L p5 → p5 ≤ L → m_I μ5 (5, 0, 0) 9 = nI (tV u L p3) → m_e (m_bd (fn_Tx_takeEndSign (some (5, 0, 0))) (fun v9 => if v9 = 0 then m_rt 0 else m_bd (m_gI 2 9 (some (5, 0, 0))) fun v10 => m_bd (fn_Fa_addPerson (some (7, f, 0)) (m_J μ1 (5, 0, 0) 7) v10 (iw u L p4 6)) fun _ => m_rt 1) μ5) (QK μ f u L (bG (pEnd u L p5) fun p' => .inr (p', (P + 1, T, M, cPer c P (tV u L (tE u L p2)) (isW u L p4 6), ud w P (xw u L (tE u L p))))) (SC f)) := by
      intro μ5 p5 h5 k5 l5 e9'
      obtain ⟨hC5, hP5, hT5, -, hF5⟩ := EvC_sm h h5.1
      refine k_ch h5 (k_takeEndSign hC5 hT5 hB k5 l5) ?_
      intro μ6 p6 r6 h6 k6 l6 e9''
      obtain ⟨hC6, hP6', hT6, -, hF6⟩ := EvC_sm h h6.1
      rw [c_text_gI hC6, e9'', e9', e7]
      refine e_bd (k_addPerson hP6' hF6.1.1 hP6 _ _ (iw_01 u L p4 6)) ?_
      rintro - μ7 ⟨s7, d1, d2, d3, d4, d5, d6⟩
      refine ⟨_, _, rfl, sm_tr (sm_mono h6.1 (fun _ _ _ _ q => .inl q)) (sm_mono s7 (by unfold KF; omega)), fun p' a q => ?_, fun fl q => (by cases q)⟩
      cases q
      refine ⟨rfl, ?_, l6, by rw [sm_I s7 (by omega)]; exact h6.2.1, by rw [sm_I s7 (by omega)]; exact h6.2.2, ?_⟩
      · unfold TkC at k6 ⊢
        rw [sm_I s7 (by omega), sm_I s7 (by omega), sm_I s7 (by omega), sm_I s7 (by omega), sm_J s7 (by omega), sm_I s7 (by omega)]
        exact k6
      · show FmC μ7 f (cPer c P (tV u L (tE u L p2)) (isW u L p4 6)) (ud w P (xw u L (tE u L p))) (P + 1) T M
        refine FmC_person hF6 hP6 s7 d1 (fun k k1 k2 k3 k4 k5 => ?_) (fun k hk => ud_ne hk) ⟨?_, ?_, ?_, ?_, fun t ht => ?_⟩
        · unfold cPer
          rw [ud_ne (by omega), ud_ne (by omega), ud_ne (by omega), ud_ne (by omega)]
        · rw [d2, e3]
          unfold cPer
          rw [ud_ne (by omega), ud_ne (by omega), ud_ne (by omega), ud_at]
        · rw [d3]
          unfold cPer iw
          rw [ud_ne (by omega), ud_ne (by omega), ud_at]
        · rw [d4]
          unfold cPer
          rw [ud_ne (by omega), ud_at]
        · rw [d6, ud_at]
        · rw [d5 t ht]
          unfold cPer
          rw [ud_ne (by omega), ud_ne (by omega), ud_ne (by omega), ud_ne (by omega), hz hP6 t ht]
    rw [bd_of (k_is hC4 hT4 hB k4 (j := 6) (by omega)), bd_ite, iw_ite, bG_r]
    by_cases y : isW u L p4 6 = true
    · rw [if_pos y, bd_bd, if_pos y]
      refine e_bd (k_adv hC4 hT4 hB k4 l4) ?_
      rintro - μ5 g5
      obtain ⟨-, k5, l5, -⟩ := g5.2.1 _ rfl
      rw [bd_rt]
      exact fin μ5 _ (St5_O h4 g5) k5 l5 (by rw [sm_I g5.1 (by omega), e9])
    · rw [if_neg y, bd_rt, if_neg y]
      exact fin μ4 p4 h4 k4 l4 e9
set_option maxHeartbeats 200000 in
theorem k_takeThing (h : EvC μ B u L f c w P T M) (hk : TkC μ u L p) (hp : p ≤ L) (h4 : ¬ tK u L p = 4) (hz : ∀ t, T ≤ t → t < 8 → c (41 + t) = 0 ∧ c (49 + t) = 0) : m_e (fn_Re_takeThing (some (5, 0, 0)) (some (7, f, 0)) μ) (QK μ f u L (bG (gThi u L p P T M c w) (wE u L)) (SC f)) := by
  obtain ⟨hC, hP, hT, hB, hF⟩ := id h
  obtain ⟨⟨a1, a2, a3, a4, a5, a6⟩, hF2, hF3⟩ := id hF
  unfold fn_Re_takeThing gThi pNew
  rw [c_fam_gI hP, a2, ap_ite]
  by_cases z : T = 8
  · subst z
    rw [if_neg (show ¬ nI 8 < 8 by decide), if_pos rfl, bG_l, bG_l]
    exact e_mono (k_ref0 hC hk 6 (6, tS u L p) (by rw [if_neg h4])) (fun r μ' q => QK_O St5_rf q)
  · have hT8 : T < 8 := by omega
    rw [if_pos (show nI T < 8 from nI_lt (b := 8) hT8 (by omega)), if_neg z]
    refine e_bd (k_adv hC hT hB hk hp) ?_
    rintro - μ1 g1
    have h1 : St5 μ μ1 := St5_O St5_rf g1
    obtain ⟨-, k1, l1, -⟩ := g1.2.1 _ rfl
    obtain ⟨hC1, hP1, hT1, -, hF1⟩ := EvC_sm h h1.1
    obtain ⟨⟨b1, b2, b3, b4, b5, b6⟩, hG2, hG3⟩ := hF1
    have en : pName u L (tE u L p) (nw u L (tE u L p) w P T) = pName u L (tE u L p) (decide (fnd w (m_J μ1 (5, 0, 0) 7) P 0 = -1) && decide (fnd (fun i => w (6 + i)) (m_J μ1 (5, 0, 0) 7) T 0 = -1)) := pName_c (fun y => by
      rw [k_7 k1 y]
      rfl)
    rw [c_text_gJ hC1, bd_of (k_isNew (w := w) hP1 b1 a4 (fun i hi => (hG2 i hi).2.2.2.1) b2 a5 (fun i hi => (hG3 i hi).2.2.2.2) (m_J μ1 (5, 0, 0) 7)), en, bG_bG]
    refine k_ch h1 (k_takeName hC1 hT1 hB k1 l1) ?_
    intro μ2 p2 r2 h2 k2 l2 _
    have e7 := k_7 k1 (pName_n r2).1
    obtain ⟨hC2, hP2, hT2, -, hF2'⟩ := EvC_sm h h2.1
    rw [pBeh_w, bG_bG, bG_bG]
    refine k_ch h2 (k_takeWord hC2 hT2 hB k2 l2 (j := 8) (by omega)) ?_
    intro μ3 p3 r3 h3 k3 l3 _
    have e3 : p3 = tE u L p2 := by
      unfold pWord at r3
      split at r3 <;> cases r3
      rfl
    obtain ⟨hC3, hP3, hT3, -, hF3'⟩ := EvC_sm h h3.1
    refine k_chn (a := 1) (b := 999) h3 hC3 hT3 hB k3 l3 (by omega) (by omega) ?_
    intro μ4 p4 r4 h4 k4 l4 e9
    obtain ⟨hC4, hP4, hT4, -, hF4'⟩ := EvC_sm h h4.1
    have fin : ∀ μ5 p5 ct, St5 μ μ5 → TkC μ5 u L p5 → p5 ≤ L → m_e (m_bd (fn_Tx_takeEndSign (some (5, 0, 0))) (fun v9 => if v9 = 0 then m_rt 0 else m_bd (fn_Fa_addThing (some (7, f, 0)) (m_J μ1 (5, 0, 0) 7) (nI (tV u L p3)) (nI ct)) fun _ => m_rt 1) μ5) (QK μ f u L (bG (pEnd u L p5) fun p' => .inr (p', (P, T + 1, M, cThi c T (tV u L (tE u L p2)) ct, ud w (6 + T) (xw u L (tE u L p))))) (SC f)) := by
      intro μ5 p5 ct h5 k5 l5
      obtain ⟨hC5, hP5, hT5, -, hF5⟩ := EvC_sm h h5.1
      refine k_ch h5 (k_takeEndSign hC5 hT5 hB k5 l5) ?_
      intro μ6 p6 r6 h6 k6 l6 e9''
      obtain ⟨hC6, hP6', hT6, -, hF6⟩ := EvC_sm h h6.1
      rw [e7]
      refine e_bd (k_addThing hP6' hF6.1.2.1 hT8 _ _ _) ?_
      rintro - μ7 ⟨s7, d1, d2, d3, d4, d5, d6⟩
      refine ⟨_, _, rfl, sm_tr (sm_mono h6.1 (fun _ _ _ _ q => .inl q)) (sm_mono s7 (by unfold KF; omega)), fun p' a q => ?_, fun fl q => (by cases q)⟩
      cases q
      refine ⟨rfl, ?_, l6, by rw [sm_I s7 (by omega)]; exact h6.2.1, by rw [sm_I s7 (by omega)]; exact h6.2.2, ?_⟩
      · unfold TkC at k6 ⊢
        rw [sm_I s7 (by omega), sm_I s7 (by omega), sm_I s7 (by omega), sm_I s7 (by omega), sm_J s7 (by omega), sm_I s7 (by omega)]
        exact k6
      · show FmC μ7 f (cThi c T (tV u L (tE u L p2)) ct) (ud w (6 + T) (xw u L (tE u L p))) P (T + 1) M
        refine FmC_thing hF6 hT8 s7 d1 (fun k k1 k2 k3 k4 k5 => ?_) (fun k hk => ud_ne hk) ⟨?_, ?_, ?_, ?_, ?_⟩
        · unfold cThi
          rw [ud_ne (by omega), ud_ne (by omega), ud_ne (by omega)]
        · rw [d2, e3]
          unfold cThi
          rw [ud_ne (by omega), ud_ne (by omega), ud_at]
        · rw [d3]
          unfold cThi
          rw [ud_ne (by omega), ud_at]
        · rw [d4]
          unfold cThi
          rw [ud_ne (by omega), ud_ne (by omega), ud_ne (by omega), (hz T (Nat.le_refl T) hT8).1]
        · rw [d5]
          unfold cThi
          rw [ud_ne (by omega), ud_ne (by omega), ud_ne (by omega), (hz T (Nat.le_refl T) hT8).2]
        · rw [d6, ud_at]
    rw [c_text_gI hC4, e9, bd_of (k_is hC4 hT4 hB k4 (j := 9) (by omega)), ap_ite, iw_ite]
    by_cases y : isW u L p4 9 = true
    · rw [if_pos y, if_pos y, bG_bG]
      refine e_bd (k_adv hC4 hT4 hB k4 l4) ?_
      rintro - μ5 g5
      obtain ⟨-, k5, l5, -⟩ := g5.2.1 _ rfl
      have h5 := St5_O h4 g5
      obtain ⟨hC5, hP5, hT5, -, hF5⟩ := EvC_sm h h5.1
      refine k_chn (a := 0) (b := 999) h5 hC5 hT5 hB k5 l5 (by omega) (by omega) ?_
      intro μ6 p6 r6 h6 k6 l6 e9'
      rw [c_text_gI (EvC_sm h h6.1).1, e9', bG_r]
      exact fin μ6 p6 _ h6 k6 l6
    · rw [if_neg y, if_neg y, bG_r]
      exact fin μ4 p4 0 h4 k4 l4
set_option maxHeartbeats 200000 in
theorem iN_n {n : Nat} (h : n < 2 ^ 31) : iN (nI n) = n := nI_clamp h
set_option maxHeartbeats 200000 in
theorem k_takeLove (h : EvC μ B u L f c w P T M) (hk : TkC μ u L p) (hp : p ≤ L) : m_e (fn_Re_takeLove (some (5, 0, 0)) (some (7, f, 0)) μ) (QK μ f u L (bG (gLov u L p P T M c w) (wE u L)) (SC f)) := by
  obtain ⟨hC, hP, hT, hB, hF⟩ := id h
  obtain ⟨⟨a1, a2, a3, a4, a5, a6⟩, hF2, hF3⟩ := id hF
  unfold fn_Re_takeLove gLov pTold
  refine e_bd (k_adv hC hT hB hk hp) ?_
  rintro - μ1 g1
  have h1 : St5 μ μ1 := St5_O St5_rf g1
  obtain ⟨-, k1, l1, -⟩ := g1.2.1 _ rfl
  obtain ⟨hC1, hP1, hT1, -, hF1⟩ := EvC_sm h h1.1
  have en : pName u L (tE u L p) (decide (fnd w (xw u L (tE u L p)) P 0 ≠ -1)) = pName u L (tE u L p) (decide (fnd w (m_J μ1 (5, 0, 0) 7) P 0 ≠ -1)) := pName_c (fun y => by rw [k_7 k1 y])
  have ei : ∀ x : Int32, (if x = -1 then (0 : Int32) else 1) = if decide (x ≠ -1) = true then 1 else 0 := fun x => by
    by_cases q : x = -1
    · rw [if_pos q, if_neg (by simp [q])]
    · rw [if_neg q, if_pos (by simp [q])]
  rw [c_text_gJ hC1, bd_of (k_personNamed (w := w) hP1 hF1.1.1 a4 (fun i hi => (hF1.2.1 i hi).2.2.2.1) _), bd_ite, bd_rt, bd_rt, en, bG_bG]
  have ew : ∀ {x : Int32} {K : Int32 → mP Int32} {μ' : mM}, (if x = -1 then K 0 μ' else K 1 μ') = K (if decide (x ≠ -1) = true then 1 else 0) μ' := fun {x K μ'} => by
    rw [← ei]
    split <;> rfl
  rw [ew (K := fun t3 => m_bd (fn_Tx_takeName (some (5, 0, 0)) t3) _)]
  refine k_ch h1 (k_takeName hC1 hT1 hB k1 l1) ?_
  intro μ2 p2 r2 h2 k2 l2 _
  have e7 := k_7 k1 (pName_n r2).1
  have v1 : ∃ j, j < P ∧ fnd w (xw u L (tE u L p)) P 0 = nI j := by
    have q := (pName_n r2).2.1
    rw [e7] at q
    rcases fnd_is (w := w) (x := xw u L (tE u L p)) P 0 with e | ⟨j, -, hj, e⟩
    · rw [e] at q
      exact absurd q (by decide)
    · exact ⟨j, by omega, e⟩
  obtain ⟨j, hj, ej⟩ := v1
  obtain ⟨hC2, hP2, hT2, -, hF2'⟩ := EvC_sm h h2.1
  have en2 : pName u L p2 (decide (fnd (fun i => w (6 + i)) (xw u L p2) T 0 ≠ -1)) = pName u L p2 (decide (fnd (fun i => w (6 + i)) (m_J μ2 (5, 0, 0) 7) T 0 ≠ -1)) := pName_c (fun y => by rw [k_7 k2 y])
  rw [c_text_gJ hC2, bd_of (k_thingNamed (w := fun i => w (6 + i)) hP2 hF2'.1.2.1 a5 (fun i hi => (hF2'.2.2 i hi).2.2.2.2) _), bd_ite, bd_rt, bd_rt, en2, bG_bG, ew (K := fun t3 => m_bd (fn_Tx_takeName (some (5, 0, 0)) t3) _)]
  refine k_ch h2 (k_takeName hC2 hT2 hB k2 l2) ?_
  intro μ3 p3 r3 h3 k3 l3 _
  have e7' := k_7 k2 (pName_n r3).1
  have v2 : ∃ i, i < T ∧ fnd (fun i => w (6 + i)) (xw u L p2) T 0 = nI i := by
    have q := (pName_n r3).2.1
    rw [e7'] at q
    rcases fnd_is (w := fun i => w (6 + i)) (x := xw u L p2) T 0 with e | ⟨j, -, hj, e⟩
    · rw [e] at q
      exact absurd q (by decide)
    · exact ⟨j, by omega, e⟩
  obtain ⟨i, hi, ei2⟩ := v2
  obtain ⟨hC3, hP3, hT3, -, hF3'⟩ := EvC_sm h h3.1
  rw [bG_bG, e7, e7', ej, ei2]
  refine k_chn (a := 0) (b := 9) h3 hC3 hT3 hB k3 l3 (by omega) (by omega) ?_
  intro μ4 p4 r4 h4 k4 l4 e9
  obtain ⟨hC4, hP4, hT4, -, hF4'⟩ := EvC_sm h h4.1
  rw [bG_r]
  show m_e _ (QK μ f u L (bG (pEnd u L p4) fun p' => .inr (p', _)) (SC f))
  refine k_ch h4 (k_takeEndSign hC4 hT4 hB k4 l4) ?_
  intro μ5 p5 r5 h5 k5 l5 e9'
  obtain ⟨hC5, hP5, hT5, -, hF5⟩ := EvC_sm h h5.1
  rw [c_fam_r7 hP5, c_pers_r hP5 (show j < 6 by omega), c_per_r4 hP5 (show j < 6 by omega), c_text_gI hC5, e9', e9, c_lov_t hP5 (show j < 6 by omega) (show i < 8 by omega)]
  have s6 : sm (fun x y z k => x = 10 ∧ y = f ∧ z = j ∧ k = i) μ5 (m_sI μ5 (10, f, j) i (nI (tV u L p3))) := sm_sI sm_rf _ ⟨rfl, rfl, rfl, rfl⟩
  refine ⟨_, _, rfl, sm_tr (sm_mono h5.1 (fun _ _ _ _ q => .inl q)) (sm_mono s6 (by unfold KF; omega)), fun p' a q => ?_, fun fl q => (by cases q)⟩
  cases q
  refine ⟨rfl, ?_, l5, by rw [sm_I s6 (by omega)]; exact h5.2.1, by rw [sm_I s6 (by omega)]; exact h5.2.2, ?_⟩
  · unfold TkC at k5 ⊢
    rw [sm_I s6 (by omega), sm_I s6 (by omega), sm_I s6 (by omega), sm_I s6 (by omega), sm_J s6 (by omega), sm_I s6 (by omega)]
    exact k5
  · obtain ⟨⟨b1, b2, b3, b4, b5, b6⟩, hG2, hG3⟩ := hF5
    show FmC (m_sI μ5 (10, f, j) i (nI (tV u L p3))) f (ud c (57 + 8 * iN (nI j) + iN (nI i)) (nI (tV u L p3))) w P T M
    rw [iN_n (by omega), iN_n (by omega)]
    refine ⟨⟨?_, ?_, ?_, a4, a5, fun k k1 k2 => ?_⟩, fun q hq => ?_, fun t ht => ?_⟩
    · rw [sm_I s6 (by omega), b1]
    · rw [sm_I s6 (by omega), b2]
    · rw [sm_I s6 (by omega), b3]
    · rw [sm_I s6 (by omega), b6 k k1 k2, ud_ne (by omega)]
    · obtain ⟨c1, c2, c3, c4, c5⟩ := hG2 q hq
      refine ⟨?_, ?_, ?_, ?_, fun t ht => ?_⟩
      · rw [sm_I s6 (by omega), c1, ud_ne (by omega)]
      · rw [sm_I s6 (by omega), c2, ud_ne (by omega)]
      · rw [sm_I s6 (by omega), c3, ud_ne (by omega)]
      · rw [sm_J s6 (by omega), c4]
      · by_cases y : q = j ∧ t = i
        · rw [y.1, y.2, I_row, ud_at, ud_at]
        · rw [sm_I s6 (by omega), c5 t ht, ud_ne (by omega)]
    · obtain ⟨c1, c2, c3, c4, c5⟩ := hG3 t ht
      refine ⟨?_, ?_, ?_, ?_, ?_⟩
      · rw [sm_I s6 (by omega), c1, ud_ne (by omega)]
      · rw [sm_I s6 (by omega), c2, ud_ne (by omega)]
      · rw [sm_I s6 (by omega), c3, ud_ne (by omega)]
      · rw [sm_I s6 (by omega), c4, ud_ne (by omega)]
      · rw [sm_J s6 (by omega), c5]
end KP
