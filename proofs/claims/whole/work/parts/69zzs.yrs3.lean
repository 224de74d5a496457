/-! Part 69zzs: the class reads a step's row -/
section YR
variable {μ0 μ μ' : mM} {B : Nat → Int32} {u : Nat → Nat} {L p f g s P T : Nat} {w : Nat → Int64}
set_option maxHeartbeats 200000 in
theorem EvY_KY (h : EvY μ B u L f g w P T) (hs : sm (KY g s) μ μ') : EvY μ' B u L f g w P T := EvY_sm h hs (by unfold KY; omega) (by unfold KY; omega) (by unfold KY; omega)
set_option maxHeartbeats 200000 in
theorem k_takeRest {k : Nat} (h : EvY μ B u L f g w P T) (hs : s < 30) (e1 : m_I μ (13, g, 0) 1 = nI (s + 1)) (ek : m_I μ (14, g, 0) s = nI k) (hk9 : k ≤ 8) (hk : TkC μ u L p) (hp : p ≤ L) : m_e (fn_Re_takeRest (some (5, 0, 0)) (some (7, f, 0)) (some (13, g, 0)) μ) (QY (KY g s) μ u L (gRow u L w P T k p) (fun row μ' => ClS μ' g s row)) := by
  have hG := h.2.2.1
  unfold fn_Re_takeRest
  rw [c_plan_r2 hG, c_plan_gI hG, e1, s_m1, c_parr_a hG (by omega) hs, ek]
  obtain rfl | rfl | rfl | rfl | rfl | rfl | rfl | rfl | rfl : k = 0 ∨ k = 1 ∨ k = 2 ∨ k = 3 ∨ k = 4 ∨ k = 5 ∨ k = 6 ∨ k = 7 ∨ k = 8 := by omega
  · rw [ap_ite, if_pos (by decide)]
    refine y_last (a := ((0, 0, 0, tV u L p) : Row)) St_rf (k_takeMuch (a := 1) (b := 20) h hs e1 hk hp (by omega) (by omega)) (fun μ' p' _ z => ⟨by rw [z.2 0 (by omega), ek], fun q => ?_, fun q => ?_, fun _ => z.1⟩)
    · unfold uP at q
      dsimp only at q
      omega
    · unfold uT at q
      dsimp only at q
      omega
  · rw [ap_ite, if_neg (by decide), ap_ite, if_pos (by decide)]
    refine y_last (a := ((1, 0, iF u L p (wT w) T, 0) : Row)) St_rf (k_thingName h hs e1 hk hp) (fun μ' p' _ z => ⟨by rw [z.2 0 (by omega), ek], fun q => ?_, fun _ => z.1, fun q => ?_⟩)
    · unfold uP at q
      dsimp only at q
      omega
    · unfold uM at q
      dsimp only at q
      omega
  · rw [ap_ite, if_neg (by decide), ap_ite, if_neg (by decide), ap_ite, if_pos (by decide)]
    refine y_ch (g := fun p1 => bG (pTold u L p1 (wT w) T) fun p2 => bG (pNum u L p2 0 9) fun p3 => .inr (p3, ((2, iF u L p w P, iF u L p1 (wT w) T, tV u L p2) : Row))) St_rf (k_personName h hs e1 hk hp) ?_
    intro μ1 p1 r1 h1 k1 l1 z1
    have E1 := EvY_KY h h1.1
    refine y_ch h1 (k_thingName E1 hs (by rw [sm_I h1.1 (by unfold KY; omega), e1]) k1 l1) ?_
    intro μ2 p2 r2 h2 k2 l2 z2
    have E2 := EvY_KY h h2.1
    refine y_ch h2 (k_takeMuch (a := 0) (b := 9) E2 hs (by rw [sm_I h2.1 (by unfold KY; omega), e1]) k2 l2 (by omega) (by omega)) ?_
    intro μ3 p3 r3 h3 k3 l3 z3
    exact QY_fin h3 k3 l3 ⟨by rw [z3.2 0 (by omega), z2.2 0 (by omega), z1.2 0 (by omega), ek], fun _ => by rw [z3.2 1 (by omega), z2.2 1 (by omega), z1.1], fun _ => by rw [z3.2 2 (by omega), z2.1], fun _ => z3.1⟩
  · rw [ap_ite, if_neg (by decide), ap_ite, if_neg (by decide), ap_ite, if_neg (by decide), ap_ite, if_pos (by decide)]
    refine y_last (a := ((3, 0, 0, tV u L p) : Row)) St_rf (k_takeMuch (a := 0) (b := 9) h hs e1 hk hp (by omega) (by omega)) (fun μ' p' _ z => ⟨by rw [z.2 0 (by omega), ek], fun q => ?_, fun q => ?_, fun _ => z.1⟩)
    · unfold uP at q
      dsimp only at q
      omega
    · unfold uT at q
      dsimp only at q
      omega
  · rw [ap_ite, if_neg (by decide), ap_ite, if_neg (by decide), ap_ite, if_neg (by decide), ap_ite, if_neg (by decide), ap_ite, if_pos (by decide)]
    refine y_ch (g := fun p1 => bG (pNum u L p1 1 99) fun p2 => .inr (p2, ((4, 0, iF u L p (wT w) T, tV u L p1) : Row))) St_rf (k_thingName h hs e1 hk hp) ?_
    intro μ1 p1 r1 h1 k1 l1 z1
    have E1 := EvY_KY h h1.1
    refine y_ch h1 (k_takeMuch (a := 1) (b := 99) E1 hs (by rw [sm_I h1.1 (by unfold KY; omega), e1]) k1 l1 (by omega) (by omega)) ?_
    intro μ2 p2 r2 h2 k2 l2 z2
    refine QY_fin h2 k2 l2 ⟨by rw [z2.2 0 (by omega), z1.2 0 (by omega), ek], fun q => ?_, fun _ => by rw [z2.2 2 (by omega), z1.1], fun _ => z2.1⟩
    unfold uP at q
    dsimp only at q
    omega
  · rw [ap_ite, if_neg (by decide), ap_ite, if_neg (by decide), ap_ite, if_neg (by decide), ap_ite, if_neg (by decide), ap_ite, if_neg (by decide), ap_ite, if_pos (by decide)]
    refine y_last (a := ((5, 0, iF u L p (wT w) T, 0) : Row)) St_rf (k_thingName h hs e1 hk hp) (fun μ' p' _ z => ⟨by rw [z.2 0 (by omega), ek], fun q => ?_, fun _ => z.1, fun q => ?_⟩)
    · unfold uP at q
      dsimp only at q
      omega
    · unfold uM at q
      dsimp only at q
      omega
  · rw [ap_ite, if_neg (by decide), ap_ite, if_neg (by decide), ap_ite, if_neg (by decide), ap_ite, if_neg (by decide), ap_ite, if_neg (by decide), ap_ite, if_neg (by decide), ap_ite, if_neg (by decide)]
    refine QY_fin (a := ((6, 0, 0, 0) : Row)) St_rf hk hp ⟨ek, fun q => ?_, fun q => ?_, fun q => ?_⟩
    · unfold uP at q
      dsimp only at q
      omega
    · unfold uT at q
      dsimp only at q
      omega
    · unfold uM at q
      dsimp only at q
      omega
  · rw [ap_ite, if_neg (by decide), ap_ite, if_neg (by decide), ap_ite, if_neg (by decide), ap_ite, if_neg (by decide), ap_ite, if_neg (by decide), ap_ite, if_neg (by decide), ap_ite, if_neg (by decide)]
    refine QY_fin (a := ((7, 0, 0, 0) : Row)) St_rf hk hp ⟨ek, fun q => ?_, fun q => ?_, fun q => ?_⟩
    · unfold uP at q
      dsimp only at q
      omega
    · unfold uT at q
      dsimp only at q
      omega
    · unfold uM at q
      dsimp only at q
      omega
  · rw [ap_ite, if_neg (by decide), ap_ite, if_neg (by decide), ap_ite, if_neg (by decide), ap_ite, if_neg (by decide), ap_ite, if_neg (by decide), ap_ite, if_neg (by decide), ap_ite, if_pos (by decide)]
    refine y_last (a := ((8, 0, 0, tV u L p) : Row)) St_rf (k_takeMuch (a := 1) (b := 99) h hs e1 hk hp (by omega) (by omega)) (fun μ' p' _ z => ⟨by rw [z.2 0 (by omega), ek], fun q => ?_, fun q => ?_, fun _ => z.1⟩)
    · unfold uP at q
      dsimp only at q
      omega
    · unfold uT at q
      dsimp only at q
      omega
set_option maxHeartbeats 200000 in
theorem St_O {K : Nat → Nat → Nat → Nat → Prop} {p' : Nat} {r : Int32} (hK : ∀ x y z k, x = 5 ∧ 3 ≤ k → K x y z k) (h : OutC μ μ' u L (.inr p') r) : St K μ μ' := by
  obtain ⟨-, -, -, a, b⟩ := h.2.1 p' rfl
  exact ⟨sm_mono h.1 (fun x y z k q => hK x y z k (by omega)), a, b⟩
set_option maxHeartbeats 200000 in
theorem k_takeTest (h : EvY μ B u L f g w P T) (hs : s < 30) (e1 : m_I μ (13, g, 0) 1 = nI (s + 1)) (ek : m_I μ (14, g, 0) s = nI 9) (hk : TkC μ u L p) (hp : p ≤ L) : m_e (fn_Re_takeTest (some (5, 0, 0)) (some (7, f, 0)) (some (13, g, 0)) μ) (QY (KY g s) μ u L (gRow u L w P T 9 p) (fun row μ' => ClS μ' g s row)) := by
  obtain ⟨hC, hP, hG, hT, hB, hN⟩ := id h
  unfold fn_Re_takeTest gRow
  rw [bd_of (k_is hC hT hB hk (j := 16) (by omega)), ap_ite, iw_ite]
  simp only [if_neg (show ¬ (9 : Nat) = 0 by decide), if_neg (show ¬ (9 : Nat) = 1 by decide), if_neg (show ¬ (9 : Nat) = 2 by decide), if_neg (show ¬ (9 : Nat) = 3 by decide), if_neg (show ¬ (9 : Nat) = 4 by decide), if_neg (show ¬ (9 : Nat) = 5 by decide), if_neg (show ¬ (9 : Nat) = 8 by decide), if_pos (show (9 : Nat) = 9 from rfl)]
  by_cases h16 : isW u L p 16 = true
  · rw [if_pos h16, if_pos h16]
    refine e_bd (k_adv hC hT hB hk hp) ?_
    rintro - μ1 q
    have h1 : St (KY g s) μ μ1 := St_O KY_5 q
    obtain ⟨-, k1, l1, -⟩ := q.2.1 _ rfl
    have E1 := EvY_KY h h1.1
    refine y_last (a := ((9, 0, iF u L (tE u L p) (wT w) T, 0) : Row)) h1 (k_thingName E1 hs (by rw [sm_I h1.1 (by unfold KY; omega), e1]) k1 l1) (fun μ' p' _ z => ⟨by rw [z.2 0 (by omega), sm_I q.1 (by omega), ek], fun q => ?_, fun _ => z.1, fun q => ?_⟩)
    · unfold uP at q
      dsimp only at q
      omega
    · unfold uM at q
      dsimp only at q
      omega
  rw [if_neg h16, if_neg h16, bd_of (k_is hC hT hB hk (j := 1) (by omega)), ap_ite, iw_ite]
  by_cases h1 : isW u L p 1 = true
  · rw [if_pos h1, if_pos h1]
    refine e_bd (k_adv hC hT hB hk hp) ?_
    rintro - μ1 q
    have h1 : St (KY g s) μ μ1 := St_O KY_5 q
    obtain ⟨-, k1, l1, -⟩ := q.2.1 _ rfl
    have hG1 := sm_P h1.1 hG
    have s2 : sm (fun x y z k => x = 14 ∧ y = g ∧ z = 0 ∧ k = s) μ1 (m_sI μ1 (14, g, 0) s 10) := sm_sI sm_rf _ ⟨rfl, rfl, rfl, rfl⟩
    have h2 : St (KY g s) μ (m_sI μ1 (14, g, 0) s 10) := ⟨sm_tr h1.1 (sm_mono s2 (by unfold KY; omega)), by rw [sm_I s2 (by omega), h1.2.1], by rw [sm_I s2 (by omega), h1.2.2]⟩
    have E2 := EvY_KY h h2.1
    rw [c_plan_r2 hG1, c_plan_gI hG1, sm_I h1.1 (by unfold KY; omega), e1, s_m1, c_parr_t hG1 (by omega) hs]
    refine y_last (a := ((10, iF u L (tE u L p) w P, 0, 0) : Row)) h2 (k_personName E2 hs (by rw [sm_I h2.1 (by unfold KY; omega), e1]) (TkC_sm k1 s2 (by omega)) l1) (fun μ' p' _ z => ⟨by rw [z.2 0 (by omega), I_row, ud_at]; rfl, fun _ => z.1, fun q => ?_, fun q => ?_⟩)
    · unfold uT at q
      dsimp only at q
      omega
    · unfold uM at q
      dsimp only at q
      omega
  rw [if_neg h1, if_neg h1, bd_of (k_is hC hT hB hk (j := 17) (by omega)), ap_ite, iw_ite]
  by_cases h17 : isW u L p 17 = true
  · rw [if_pos h17, if_pos h17]
    refine e_bd (k_adv hC hT hB hk hp) ?_
    rintro - μ1 q
    have h1 : St (KY g s) μ μ1 := St_O KY_5 q
    obtain ⟨-, k1, l1, -⟩ := q.2.1 _ rfl
    have E1 := EvY_KY h h1.1
    refine y_ch h1 (k_thingName E1 hs (by rw [sm_I h1.1 (by unfold KY; omega), e1]) k1 l1) ?_
    intro μ2 p2 r2 h2 k2 l2 z2
    have E2 := EvY_KY h h2.1
    refine y_ch h2 (k_takeCompares E2 hs (by rw [sm_I h2.1 (by unfold KY; omega), e1]) k2 l2) ?_
    intro μ3 p3 r3 h3 k3 l3 z3
    have E3 := EvY_KY h h3.1
    refine y_ch h3 (k_takeMuch (a := 0) (b := 999) E3 hs (by rw [sm_I h3.1 (by unfold KY; omega), e1]) k3 l3 (by omega) (by omega)) ?_
    intro μ4 p4 r4 h4 k4 l4 z4
    have hb := kCmp_b (u := u) (L := L) (p := p2)
    refine QY_fin h4 k4 l4 ⟨by rw [z4.2 0 (by omega), z3.1], fun q => ?_, fun _ => by rw [z4.2 2 (by omega), z3.2 2 (by omega), z2.1], fun _ => z4.1⟩
    unfold uP at q
    dsimp only at q
    omega
  rw [if_neg h17, if_neg h17]
  exact e_mono (k_ref0 hC hk 2 (am u L p) rfl) (fun r μ' q => QY_E sm_rf KY_5 q)
end YR
