/-! Part 69zzr: the class takes what stands behind a step's word -/
def KY (g s x y z k : Nat) : Prop := (x = 5 ∧ 3 ≤ k) ∨ (x = 14 ∧ y = g ∧ z < 4 ∧ k = s)
def NmC (μ : mM) (f : Nat) (w : Nat → Int64) (P T : Nat) : Prop := m_I μ (7, f, 0) 0 = nI P ∧ m_I μ (7, f, 0) 1 = nI T ∧ P ≤ 6 ∧ T ≤ 8 ∧ (∀ i, i < P → m_J μ (9, f, i) 0 = w i) ∧ ∀ i, i < T → m_J μ (12, f, i) 0 = wT w i
def EvY (μ : mM) (B : Nat → Int32) (u : Nat → Nat) (L f g : Nat) (w : Nat → Int64) (P T : Nat) : Prop := ClsP μ ∧ FamP μ f ∧ PlanP μ g ∧ TxB μ B L ∧ Byt B u L ∧ NmC μ f w P T
section YC
variable {μ0 μ μ' : mM} {B : Nat → Int32} {u : Nat → Nat} {L p f g s P T : Nat} {w : Nat → Int64}
set_option maxHeartbeats 200000 in
theorem EvY_sm {K : Nat → Nat → Nat → Nat → Prop} (h : EvY μ B u L f g w P T) (hs : sm K μ μ') (h1 : ∀ x z k, x = 7 ∨ x = 9 ∨ x = 12 → ¬ K x f z k) (h2 : ∀ k, ¬ K 6 0 0 k) (h3 : ¬ K 5 0 0 2) : EvY μ' B u L f g w P T := by
  obtain ⟨a1, a2, a3, a4, a5, b1, b2, b3, b4, b5, b6⟩ := h
  exact ⟨sm_C hs a1, sm_F hs a2, sm_P hs a3, TxB_sm a4 hs h2 h3, a5, by rw [sm_I hs (h1 7 0 0 (by omega)), b1], by rw [sm_I hs (h1 7 0 1 (by omega)), b2], b3, b4, fun i hi => by rw [sm_J hs (h1 9 i 0 (by omega)), b5 i hi], fun i hi => by rw [sm_J hs (h1 12 i 0 (by omega)), b6 i hi]⟩
def St (K : Nat → Nat → Nat → Nat → Prop) (μ0 μ : mM) : Prop := sm K μ0 μ ∧ m_I μ (5, 0, 0) 10 = m_I μ0 (5, 0, 0) 10 ∧ m_I μ (5, 0, 0) 11 = m_I μ0 (5, 0, 0) 11
set_option maxHeartbeats 200000 in
theorem St_tr {K : Nat → Nat → Nat → Nat → Prop} {μ1 μ2 μ3 : mM} (h : St K μ1 μ2) (h' : St K μ2 μ3) : St K μ1 μ3 := ⟨sm_tr h.1 h'.1, h'.2.1.trans h.2.1, h'.2.2.trans h.2.2⟩
set_option maxHeartbeats 200000 in
theorem St_rf {K : Nat → Nat → Nat → Nat → Prop} : St K μ μ := ⟨sm_rf, rfl, rfl⟩
def OutY (K : Nat → Nat → Nat → Nat → Prop) (μ μ' : mM) (u : Nat → Nat) (L : Nat) (res : Fl ⊕ Nat) (Z : mM → Prop) (r : Int32) : Prop := sm K μ μ' ∧ (∀ p', res = .inr p' → r = 1 ∧ TkC μ' u L p' ∧ p' ≤ L ∧ St K μ μ' ∧ Z μ') ∧ ∀ fl, res = .inl fl → r = 0 ∧ FtC μ' fl
def QY {α : Type} (K : Nat → Nat → Nat → Nat → Prop) (μ0 : mM) (u : Nat → Nat) (L : Nat) (res : Fl ⊕ (Nat × α)) (S : α → mM → Prop) (r : Int32) (μ' : mM) : Prop := sm K μ0 μ' ∧ (∀ p' a, res = .inr (p', a) → r = 1 ∧ TkC μ' u L p' ∧ p' ≤ L ∧ St K μ0 μ' ∧ S a μ') ∧ ∀ fl, res = .inl fl → r = 0 ∧ FtC μ' fl
set_option maxHeartbeats 200000 in
theorem QY_fin {α : Type} {K : Nat → Nat → Nat → Nat → Prop} {S : α → mM → Prop} {a : α} (h : St K μ0 μ) (hk : TkC μ u L p) (hp : p ≤ L) (hS : S a μ) : m_e (m_rt (1 : Int32) μ) (QY K μ0 u L (.inr (p, a)) S) := by
  refine ⟨_, _, rfl, h.1, fun p' a' q => ?_, fun fl q => (by cases q)⟩
  cases q
  exact ⟨rfl, hk, hp, h, hS⟩
set_option maxHeartbeats 200000 in
theorem QY_E {α : Type} {K : Nat → Nat → Nat → Nat → Prop} {S : α → mM → Prop} {fl : Fl} {r : Int32} (h0 : sm K μ0 μ) (hK : ∀ x y z k, x = 5 ∧ 3 ≤ k → K x y z k) (h : OutC μ μ' u L (.inl fl) r) : QY K μ0 u L (.inl fl) S r μ' := by
  obtain ⟨rfl, hF⟩ := h.2.2 fl rfl
  exact ⟨sm_tr h0 (sm_mono h.1 (fun x y z k q => hK x y z k (by omega))), fun p' a q => (by cases q), fun fl' q => by cases q; exact ⟨rfl, hF⟩⟩
set_option maxHeartbeats 200000 in
theorem y_ch {α : Type} {K : Nat → Nat → Nat → Nat → Prop} {S : α → mM → Prop} {Z : mM → Prop} {x : mP Int32} {K' : mP Int32} {r1 : Fl ⊕ Nat} {g : Nat → Fl ⊕ (Nat × α)} (h0 : St K μ0 μ) (h : m_e (x μ) (fun r μ' => OutY K μ μ' u L r1 Z r)) (hO : ∀ μ' p', r1 = .inr p' → St K μ0 μ' → TkC μ' u L p' → p' ≤ L → Z μ' → m_e (K' μ') (QY K μ0 u L (g p') S)) : m_e (m_bd x (fun v => if v = 0 then m_rt 0 else K') μ) (QY K μ0 u L (bG r1 g) S) := by
  refine e_bd h ?_
  rintro r μ' ⟨q1, q2, q3⟩
  cases r1 with
  | inl fl =>
    obtain ⟨rfl, hF⟩ := q3 fl rfl
    rw [ap_ite, if_pos rfl]
    exact ⟨_, _, rfl, sm_tr h0.1 q1, fun p' a q => (by cases q), fun fl' q => by cases q; exact ⟨rfl, hF⟩⟩
  | inr p' =>
    obtain ⟨rfl, a, b, c, d⟩ := q2 p' rfl
    rw [ap_ite, if_neg (by decide)]
    exact hO μ' p' rfl (St_tr h0 c) a b d
set_option maxHeartbeats 200000 in
theorem y_last {α : Type} {K : Nat → Nat → Nat → Nat → Prop} {S : α → mM → Prop} {Z : mM → Prop} {x : mP Int32} {r1 : Fl ⊕ Nat} {a : α} (h0 : St K μ0 μ) (h : m_e (x μ) (fun r μ' => OutY K μ μ' u L r1 Z r)) (hS : ∀ μ' p', r1 = .inr p' → Z μ' → S a μ') : m_e (m_bd x (fun v => m_bd (m_cz v) fun _ => m_rt v) μ) (QY K μ0 u L (bG r1 fun p' => .inr (p', a)) S) := by
  refine e_bd h ?_
  rintro r μ' ⟨q1, q2, q3⟩
  cases r1 with
  | inl fl =>
    obtain ⟨rfl, hF⟩ := q3 fl rfl
    rw [bd_cz (.inl rfl)]
    exact ⟨_, _, rfl, sm_tr h0.1 q1, fun p' a q => (by cases q), fun fl' q => by cases q; exact ⟨rfl, hF⟩⟩
  | inr p' =>
    obtain ⟨rfl, b1, b2, b3, b4⟩ := q2 p' rfl
    rw [bd_cz (.inr rfl)]
    exact QY_fin (St_tr h0 b3) b1 b2 (hS μ' p' rfl b4)
set_option maxHeartbeats 200000 in
theorem KY_5 : ∀ x y z k, x = 5 ∧ 3 ≤ k → KY g s x y z k := fun _ _ _ _ q => .inl q
set_option maxHeartbeats 200000 in
theorem t_fine {α : Type} {x : Int32} {K : Int32 → mP α} {μ : mM} : m_bd (if x = -1 then m_rt 0 else m_rt 1) K μ = K (if decide (x ≠ -1) = true then 1 else 0) μ := by
  rw [bd_ite]
  by_cases q : x = -1
  · rw [if_pos q, if_neg (by simp [q]), bd_rt]
  · rw [if_neg q, if_pos (by simp [q]), bd_rt]
set_option maxHeartbeats 200000 in
theorem s_m1 (s : Nat) : nI (s + 1) - 1 = nI s := by
  rw [show (1 : Int32) = nI 1 from rfl, pk_sub (by omega)]
  rfl
set_option maxHeartbeats 200000 in
/-- a name is taken, of which is known already who bears it -/
theorem k_nameY {z : Nat} (hz : z < 4) {v : Int32} (hC : ClsP μ) (hT : TxB μ B L) (hB : Byt B u L) (hk : TkC μ u L p) (hp : p ≤ L) {res : Fl ⊕ Nat} (en : res = pName u L p (decide (v ≠ -1))) : m_e (m_bd (fn_Tx_takeName (some (5, 0, 0)) (if decide (v ≠ -1) = true then 1 else 0)) (fun v6 => m_bd (m_cz v6) fun _ => m_rt v6) (m_sI μ (14, g, z) s v)) (fun r μ' => OutY (KY g s) μ μ' u L res (fun μ' => m_I μ' (14, g, z) s = v ∧ ∀ z', z' ≠ z → m_I μ' (14, g, z') s = m_I μ (14, g, z') s) r) := by
  have s1 : sm (fun x y z' k => x = 14 ∧ y = g ∧ z' = z ∧ k = s) μ (m_sI μ (14, g, z) s v) := sm_sI sm_rf _ ⟨rfl, rfl, rfl, rfl⟩
  refine e_bd (k_takeName (sm_C s1 hC) (TxB_sm hT s1 (by omega) (by omega)) hB (TkC_sm hk s1 (by omega)) hp) ?_
  rintro r μ2 q
  have t : sm (KY g s) μ μ2 := sm_tr (sm_mono s1 (by unfold KY; omega)) (sm_mono q.1 (by unfold KY; omega))
  rw [en]
  cases hr : pName u L p (decide (v ≠ -1)) with
  | inl fl =>
    obtain ⟨rfl, hF⟩ := q.2.2 fl hr
    rw [bd_cz (.inl rfl)]
    exact ⟨_, _, rfl, t, fun p' q => (by cases q), fun fl' q => by cases q; exact ⟨rfl, hF⟩⟩
  | inr p' =>
    obtain ⟨rfl, a, b, c, d⟩ := q.2.1 p' hr
    rw [bd_cz (.inr rfl)]
    refine ⟨_, _, rfl, t, fun p'' q' => ?_, fun fl' q => (by cases q)⟩
    cases q'
    refine ⟨rfl, a, b, ⟨t, by rw [c, sm_I s1 (by omega)], by rw [d, sm_I s1 (by omega)]⟩, ?_, fun z' hz' => ?_⟩
    · rw [sm_I q.1 (by omega), I_row, ud_at]
    · rw [sm_I q.1 (by omega), sm_I s1 (by omega)]
set_option maxHeartbeats 200000 in
theorem fnd_iF {N : Nat} (hN : N ≤ 8) {p' : Nat} (h : pTold u L p w N = .inr p') : fnd w (xw u L p) N 0 = nI (iF u L p w N) := (pTold_f (by omega) h).2.2
set_option maxHeartbeats 200000 in
theorem k_thingName (h : EvY μ B u L f g w P T) (hs : s < 30) (e1 : m_I μ (13, g, 0) 1 = nI (s + 1)) (hk : TkC μ u L p) (hp : p ≤ L) : m_e (fn_Re_takeThingName (some (5, 0, 0)) (some (7, f, 0)) (some (13, g, 0)) μ) (fun r μ' => OutY (KY g s) μ μ' u L (pTold u L p (wT w) T) (fun μ' => m_I μ' (14, g, 2) s = nI (iF u L p (wT w) T) ∧ ∀ z', z' ≠ 2 → m_I μ' (14, g, z') s = m_I μ (14, g, z') s) r) := by
  obtain ⟨hC, hP, hG, hT, hB, b1, b2, b3, b4, b5, b6⟩ := id h
  have en : pTold u L p (wT w) T = pName u L p (decide (fnd (wT w) (m_J μ (5, 0, 0) 7) T 0 ≠ -1)) := pName_c (fun y => by rw [k_7 hk y])
  unfold fn_Re_takeThingName
  rw [c_text_gJ hC, bd_of (k_thingNamed (w := wT w) hP b2 b4 b6 _), c_plan_r4 hG, c_plan_gI hG, e1, s_m1, c_parr_t hG (by omega) hs, t_fine]
  refine e_mono (k_nameY (by omega) hC hT hB hk hp en) ?_
  rintro r μ' ⟨q1, q2, q3⟩
  refine ⟨q1, fun p' q => ?_, q3⟩
  obtain ⟨a1, a2, a3, a4, a5, a6⟩ := q2 p' q
  refine ⟨a1, a2, a3, a4, ?_, a6⟩
  rw [en] at q
  rw [a5, k_7 hk (pName_n q).1]
  rw [← en] at q
  exact fnd_iF b4 q
set_option maxHeartbeats 200000 in
theorem k_personName (h : EvY μ B u L f g w P T) (hs : s < 30) (e1 : m_I μ (13, g, 0) 1 = nI (s + 1)) (hk : TkC μ u L p) (hp : p ≤ L) : m_e (fn_Re_takePersonName (some (5, 0, 0)) (some (7, f, 0)) (some (13, g, 0)) μ) (fun r μ' => OutY (KY g s) μ μ' u L (pTold u L p w P) (fun μ' => m_I μ' (14, g, 1) s = nI (iF u L p w P) ∧ ∀ z', z' ≠ 1 → m_I μ' (14, g, z') s = m_I μ (14, g, z') s) r) := by
  obtain ⟨hC, hP, hG, hT, hB, b1, b2, b3, b4, b5, b6⟩ := id h
  have en : pTold u L p w P = pName u L p (decide (fnd w (m_J μ (5, 0, 0) 7) P 0 ≠ -1)) := pName_c (fun y => by rw [k_7 hk y])
  unfold fn_Re_takePersonName
  rw [c_text_gJ hC, bd_of (k_personNamed (w := w) hP b1 b3 b5 _), c_plan_r3 hG, c_plan_gI hG, e1, s_m1, c_parr_t hG (by omega) hs, t_fine]
  refine e_mono (k_nameY (by omega) hC hT hB hk hp en) ?_
  rintro r μ' ⟨q1, q2, q3⟩
  refine ⟨q1, fun p' q => ?_, q3⟩
  obtain ⟨a1, a2, a3, a4, a5, a6⟩ := q2 p' q
  refine ⟨a1, a2, a3, a4, ?_, a6⟩
  rw [en] at q
  rw [a5, k_7 hk (pName_n q).1]
  rw [← en] at q
  exact fnd_iF (by omega) q
set_option maxHeartbeats 200000 in
theorem k_takeMuch (h : EvY μ B u L f g w P T) (hs : s < 30) (e1 : m_I μ (13, g, 0) 1 = nI (s + 1)) (hk : TkC μ u L p) (hp : p ≤ L) {a b : Nat} (ha : a < 2 ^ 31) (hb : b < 2 ^ 31) : m_e (fn_Re_takeMuch (some (5, 0, 0)) (some (13, g, 0)) (nI a) (nI b) μ) (fun r μ' => OutY (KY g s) μ μ' u L (pNum u L p a b) (fun μ' => m_I μ' (14, g, 3) s = nI (tV u L p) ∧ ∀ z', z' ≠ 3 → m_I μ' (14, g, z') s = m_I μ (14, g, z') s) r) := by
  obtain ⟨hC, hP, hG, hT, hB, b1, b2, b3, b4, b5, b6⟩ := id h
  unfold fn_Re_takeMuch
  refine e_bd (k_takeNumber hC hT hB hk hp ha hb) ?_
  rintro r μ1 ⟨q1, q2⟩
  cases hr : pNum u L p a b with
  | inl fl =>
    have q := q1 fl hr
    obtain ⟨rfl, hF⟩ := q.2.2 fl rfl
    have hG1 := sm_P q.1 hG
    have s2 : sm (fun x y z k => x = 14 ∧ y = g ∧ z = 3 ∧ k = s) μ1 (m_sI μ1 (14, g, 3) s (m_I μ1 (5, 0, 0) 9)) := sm_sI sm_rf _ ⟨rfl, rfl, rfl, rfl⟩
    rw [c_plan_r5 hG1, c_plan_gI hG1, sm_I q.1 (by omega), e1, s_m1, c_text_gI (sm_C q.1 hC), c_parr_t hG1 (by omega) hs, bd_cz (.inl rfl)]
    refine ⟨_, _, rfl, sm_tr (sm_mono q.1 (by unfold KY; omega)) (sm_mono s2 (by unfold KY; omega)), fun p' q => (by cases q), fun fl' q => ?_⟩
    cases q
    exact ⟨rfl, by rw [sm_I s2 (by omega), hF.1], by rw [sm_I s2 (by omega), hF.2]⟩
  | inr p' =>
    have q := q2 p' hr
    have s9 : sm (fun x _ _ k => x = 5 ∧ k = 9) μ (m_sI μ (5, 0, 0) 9 (nI (tV u L p))) := sm_sI sm_rf _ ⟨rfl, rfl⟩
    obtain ⟨rfl, c1, c2, c3, c4⟩ := q.2.1 p' rfl
    have t1 : sm (fun x _ _ k => x = 5 ∧ 3 ≤ k) μ μ1 := sm_tr (sm_mono s9 (by omega)) (sm_mono q.1 (by omega))
    have hG1 := sm_P t1 hG
    have e9 : m_I μ1 (5, 0, 0) 9 = nI (tV u L p) := by rw [sm_I q.1 (by omega), I_row, ud_at]
    have s2 : sm (fun x y z k => x = 14 ∧ y = g ∧ z = 3 ∧ k = s) μ1 (m_sI μ1 (14, g, 3) s (nI (tV u L p))) := sm_sI sm_rf _ ⟨rfl, rfl, rfl, rfl⟩
    rw [c_plan_r5 hG1, c_plan_gI hG1, sm_I t1 (by omega), e1, s_m1, c_text_gI (sm_C t1 hC), e9, c_parr_t hG1 (by omega) hs, bd_cz (.inr rfl)]
    have t2 : sm (KY g s) μ (m_sI μ1 (14, g, 3) s (nI (tV u L p))) := sm_tr (sm_mono t1 (by unfold KY; omega)) (sm_mono s2 (by unfold KY; omega))
    refine ⟨_, _, rfl, t2, fun p'' q' => ?_, fun fl' q => (by cases q)⟩
    cases q'
    refine ⟨rfl, TkC_sm c1 s2 (by omega), c2, ⟨t2, by rw [sm_I s2 (by omega), c3, sm_I s9 (by omega)], by rw [sm_I s2 (by omega), c4, sm_I s9 (by omega)]⟩, ?_, fun z' hz' => ?_⟩
    · rw [I_row, ud_at]
    · rw [sm_I s2 (by omega), sm_I t1 (by omega)]
set_option maxHeartbeats 200000 in
theorem k_takeCompares (h : EvY μ B u L f g w P T) (hs : s < 30) (e1 : m_I μ (13, g, 0) 1 = nI (s + 1)) (hk : TkC μ u L p) (hp : p ≤ L) : m_e (fn_Re_takeCompares (some (5, 0, 0)) (some (13, g, 0)) μ) (fun r μ' => OutY (KY g s) μ μ' u L (pCmp u L p) (fun μ' => m_I μ' (14, g, 0) s = nI (kCmp u L p) ∧ ∀ z', z' ≠ 0 → m_I μ' (14, g, z') s = m_I μ (14, g, z') s) r) := by
  obtain ⟨hC, hP, hG, hT, hB, b1, b2, b3, b4, b5, b6⟩ := id h
  have h4 := tK_le (u := u) (L := L) (p := p)
  obtain ⟨k3, k4, k5, k6, k7, k8⟩ := id hk
  have hE : ∀ {x : Nat}, x = 2 → pCmp u L p = .inl (am u L p) → m_e (m_bd (fn_Tx_refuse (some (5, 0, 0)) (nI x)) (fun v => m_bd (m_cz v) fun _ => m_rt v) μ) (fun r μ' => OutY (KY g s) μ μ' u L (pCmp u L p) (fun μ' => m_I μ' (14, g, 0) s = nI (kCmp u L p) ∧ ∀ z', z' ≠ 0 → m_I μ' (14, g, z') s = m_I μ (14, g, z') s) r) := by
    intro x hx e
    subst hx
    rw [e]
    refine e_mono (k_ref0 hC hk 2 (am u L p) rfl) (fun r μ' q => ⟨sm_mono q.1 (by unfold KY; omega), fun p' q => (by cases q), fun fl q' => q.2.2 fl q'⟩)
  unfold fn_Re_takeCompares
  rw [c_text_gI hC, k4, ap_ite]
  by_cases z : tK u L p = 3
  · have hsb : u (tS u L p) < 256 := by
      refine (hB.2 _ ?_).1
      unfold tK at z
      by_cases y : L ≤ tS u L p
      · rw [if_pos y] at z
        exact absurd z (by decide)
      · omega
    have hn : ∀ {v : Nat} {V : Int32}, V = nI v → v < 256 → (nI (u (tS u L p)) = V) = (u (tS u L p) = v) := fun e hv => by
      subst e
      exact propext (nI_eq (by omega) (by omega))
    rw [if_pos (by rw [z]; rfl), c_text_gI hC, k8 z, ap_ite]
    by_cases y : u (tS u L p) = 59
    · rw [if_pos (by rw [y]; rfl)]
      exact hE rfl (if_neg (fun q => q.2 y))
    · have er : pCmp u L p = .inr (tE u L p) := if_pos ⟨z, y⟩
      have e9 : ¬ nI (u (tS u L p)) = 59 := fun q => y ((hn (v := 59) rfl (by omega)).mp q)
      have ek : ∀ {K : Int32 → mP Int32} {μ : mM}, ClsP μ → m_I μ (5, 0, 0) 8 = nI (u (tS u L p)) → m_bd (if nI (u (tS u L p)) = 60 then m_rt 11 else m_bd (m_gI 2 8 (some (5, 0, 0))) fun v7 => if v7 = 62 then m_rt 12 else m_rt 13) K μ = K (nI (kCmp u L p)) μ := by
        intro K μ hC e8
        unfold kCmp
        rw [bd_ite]
        by_cases x1 : u (tS u L p) = 60
        · rw [if_pos (by rw [x1]; rfl), if_pos x1, bd_rt]
          rfl
        · have x1' : ¬ nI (u (tS u L p)) = 60 := fun q => x1 ((hn (v := 60) rfl (by omega)).mp q)
          rw [if_neg x1', if_neg x1, bd_bd, c_text_gI hC, e8, bd_ite]
          by_cases x2 : u (tS u L p) = 62
          · rw [if_pos (by rw [x2]; rfl), if_pos x2, bd_rt]
            rfl
          · have x2' : ¬ nI (u (tS u L p)) = 62 := fun q => x2 ((hn (v := 62) rfl (by omega)).mp q)
            rw [if_neg x2', if_neg x2, bd_rt]
            rfl
      have s2 : sm (fun x y z k => x = 14 ∧ y = g ∧ z = 0 ∧ k = s) μ (m_sI μ (14, g, 0) s (nI (kCmp u L p))) := sm_sI sm_rf _ ⟨rfl, rfl, rfl, rfl⟩
      rw [if_neg e9, c_plan_r2 hG, c_plan_gI hG, e1, s_m1, c_text_gI hC, k8 z, ek hC (k8 z), c_parr_t hG (by omega) hs, er]
      refine e_bd (k_adv (sm_C s2 hC) (TxB_sm hT s2 (by omega) (by omega)) hB (TkC_sm hk s2 (by omega)) hp) ?_
      rintro - μ2 q
      obtain ⟨-, c1, c2, c3, c4⟩ := q.2.1 _ rfl
      have t2 : sm (KY g s) μ μ2 := sm_tr (sm_mono s2 (by unfold KY; omega)) (sm_mono q.1 (by unfold KY; omega))
      refine ⟨_, _, rfl, t2, fun p'' q' => ?_, fun fl' q => (by cases q)⟩
      cases q'
      refine ⟨rfl, c1, c2, ⟨t2, by rw [c3, sm_I s2 (by omega)], by rw [c4, sm_I s2 (by omega)]⟩, ?_, fun z' hz' => ?_⟩
      · rw [sm_I q.1 (by omega), I_row, ud_at]
      · rw [sm_I q.1 (by omega), sm_I s2 (by omega)]
  · rw [if_neg (show ¬ nI (tK u L p) = 3 from fun q => z ((nI_eq (b := 3) (by omega) (by omega)).mp q))]
    exact hE rfl (if_neg (fun q => z q.1))
end YC
