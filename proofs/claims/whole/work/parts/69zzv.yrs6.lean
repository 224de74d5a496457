/-! Part 69zzv: the reference reads a step's row -/
def mm (k : Nat) : Nat := if k = 2 then 3 else if k = 4 ∨ 11 ≤ k then 2 else 1
def RfS (ν : mM) (b : Nat) (r : Row) : Prop := m_I ν (45, 0, 0) b = nI (rk r.1) ∧ (r.1 = 9 → m_I ν (45, 0, 0) (b + 6) = 0) ∧ (r.1 = 10 → m_I ν (45, 0, 0) (b + 6) = 2) ∧ (11 ≤ r.1 → m_I ν (45, 0, 0) (b + 6) = 1 ∧ m_I ν (45, 0, 0) (b + 7) = if r.1 = 11 then 60 else if r.1 = 12 then 62 else 61) ∧ (uP r.1 → m_I ν (45, 0, 0) (b + 1) = nI r.2.1) ∧ (uT r.1 → m_I ν (45, 0, 0) (b + if r.1 = 2 then 2 else 1) = nI r.2.2.1) ∧ (uM r.1 → m_I ν (45, 0, 0) (b + mm r.1) = nI r.2.2.2)
def EvN (ν : mM) (B : Nat → Int32) (u : Nat → Nat) (L : Nat) (w : Nat → Int64) (P T : Nat) : Prop := RefP ν ∧ RxB ν B L ∧ Byt B u L ∧ m_I ν (45, 0, 0) 0 = nI P ∧ m_I ν (45, 0, 0) 1 = nI T ∧ P ≤ 6 ∧ T ≤ 8 ∧ (∀ i, i < P → m_J ν (48, 0, 0) i = w i) ∧ ∀ i, i < T → m_J ν (48, 0, 0) (6 + i) = wT w i
def KJ (b x _y _z k : Nat) : Prop := (x = 40 ∧ 12 ≤ k ∧ k ≤ 19) ∨ (x = 45 ∧ k = b)
def KW (b x _y _z k : Nat) : Prop := (x = 40 ∧ 12 ≤ k ∧ k ≤ 19) ∨ (x = 45 ∧ b < k ∧ k < b + 8)
section YN
variable {ν ν0 ν' : mM} {B : Nat → Int32} {u : Nat → Nat} {L p b P T : Nat} {w : Nat → Int64}
set_option maxHeartbeats 200000 in
theorem EvN_sm {K : Nat → Nat → Nat → Nat → Prop} (h : EvN ν B u L w P T) (hs : sm K ν ν') (h1 : ∀ k, k < 2 → ¬ K 45 0 0 k) (h2 : ∀ k, k < 14 → ¬ K 48 0 0 k) (h3 : ∀ k, ¬ K 44 0 0 k) (h4 : ¬ K 40 0 0 9) : EvN ν' B u L w P T := by
  obtain ⟨a1, a2, a3, a4, a5, a6, a7, a8, a9⟩ := h
  exact ⟨sm_R hs a1, RxB_sm a2 hs h3 h4, a3, by rw [sm_I hs (h1 0 (by omega)), a4], by rw [sm_I hs (h1 1 (by omega)), a5], a6, a7, fun i hi => by rw [sm_J hs (h2 i (by omega)), a8 i hi], fun i hi => by rw [sm_J hs (h2 (6 + i) (by omega)), a9 i hi]⟩
/-- what becomes of a row, on the reference's side -/
def QN {α : Type} (K : Nat → Nat → Nat → Nat → Prop) (ν0 : mM) (u : Nat → Nat) (L : Nat) (res : Fl ⊕ (Nat × α)) (S : α → mM → Prop) (_ : Unit) (ν' : mM) : Prop := sm K ν0 ν' ∧ (∀ p' a, res = .inr (p', a) → m_I ν' (40, 0, 0) 12 = 0 ∧ TkR ν' u L p' ∧ p' ≤ L ∧ S a ν') ∧ ∀ fl, res = .inl fl → Er ν' fl
set_option maxHeartbeats 200000 in
theorem QN_E {α : Type} {K : Nat → Nat → Nat → Nat → Prop} {S : α → mM → Prop} {fl : Fl} (h : sm K ν0 ν) (hE : Er ν fl) : m_e (m_rt () ν) (QN K ν0 u L (.inl fl) S) := ⟨_, _, rfl, h, fun p' a q => (by cases q), fun fl' q => by cases q; exact hE⟩
set_option maxHeartbeats 200000 in
theorem QN_O {α : Type} {K : Nat → Nat → Nat → Nat → Prop} {S : α → mM → Prop} {a : α} (h : sm K ν0 ν) (h0 : m_I ν (40, 0, 0) 12 = 0) (hk : TkR ν u L p) (hp : p ≤ L) (hS : S a ν) : m_e (m_rt () ν) (QN K ν0 u L (.inr (p, a)) S) := by
  refine ⟨_, _, rfl, h, fun p' a q => ?_, fun fl' q => (by cases q)⟩
  cases q
  exact ⟨h0, hk, hp, hS⟩
set_option maxHeartbeats 200000 in
theorem r_cnt {j a a' : Nat} {K : Unit → mP Unit} {Q : Unit → mM → Prop} (h : EvN ν B u L w P T) (h0 : m_I ν (40, 0, 0) 12 = 0) (hk : TkR ν u L p) (hp : p ≤ L) (ha : a < 2 ^ 31) (ha' : a' < 2 ^ 31) (hj : j < 1885) (hE : ∀ ν' fl, pNum u L p a a' = .inl fl → sm (KJ j) ν ν' → Er ν' fl → m_e (K () ν') Q) (hO : ∀ ν' p', pNum u L p a a' = .inr p' → sm (KJ j) ν ν' → m_I ν' (40, 0, 0) 12 = 0 → TkR ν' u L p' → p' ≤ L → m_I ν' (45, 0, 0) j = nI (tV u L p) → m_e (K () ν') Q) : m_e (m_bd (fn_M_count (some (40, 0, 0)) (nI a) (nI a')) (fun v => m_bd (m_tI 0 (some (45, 0, 0)) (nI j) v) K) ν) Q := by
  obtain ⟨hR, hT, hB, -⟩ := id h
  refine e_bd (r_count0 hR hT hB hk hp h0 ha ha') ?_
  rintro v ν1 ⟨⟨s1, c1, c2⟩, c3, c4⟩
  have hR1 := sm_R s1 hR
  have s2 : sm (fun x _ _ k => x = 45 ∧ k = j) ν1 (m_sI ν1 (45, 0, 0) j v) := sm_sI sm_rf _ ⟨rfl, rfl⟩
  have t2 : sm (KJ j) ν (m_sI ν1 (45, 0, 0) j v) := sm_tr (sm_mono s1 (by unfold KJ; omega)) (sm_mono s2 (by unfold KJ; omega))
  rw [r_t45 hR1 hj]
  cases hr : pNum u L p a a' with
  | inl fl => exact hE _ fl hr t2 (Er_sm (c2 fl hr) s2 (by omega) (by omega))
  | inr p' =>
    obtain ⟨z, k1, l1⟩ := c1 p' hr
    exact hO _ p' hr t2 (by rw [sm_I s2 (by omega), z]) (TkR_sm k1 s2 (by omega)) l1 (by rw [I_row, ud_at, c3 p' hr])
set_option maxHeartbeats 200000 in
theorem r_cntE {j : Nat} {a a' : Int32} {fl : Fl} {K : Unit → mP Unit} (hR : RefP ν) (hj : j < 1885) (hE : Er ν fl) : m_bd (fn_M_count (some (40, 0, 0)) a a') (fun v => m_bd (m_tI 0 (some (45, 0, 0)) (nI j) v) K) ν = K () (m_sI ν (45, 0, 0) j 0) := by
  rw [bd_of (r_countE hR hE a a'), r_t45 hR hj]
set_option maxHeartbeats 200000 in
theorem r_tldE {j : Nat} {a a' : Int32} {fl : Fl} {K : Unit → mP Unit} (hR : RefP ν) (hj : j < 1885) (hE : Er ν fl) : m_bd (fn_M_readTold (some (40, 0, 0)) a a') (fun v => m_bd (m_tI 0 (some (45, 0, 0)) (nI j) v) K) ν = K () (m_sI ν (45, 0, 0) j 0) := by
  rw [bd_of (r_readToldE hR hE a a'), r_t45 hR hj]
set_option maxHeartbeats 200000 in
theorem Er_w {j : Nat} {v : Int32} {fl : Fl} (hE : Er ν fl) : Er (m_sI ν (45, 0, 0) j v) fl := Er_sm hE (K := fun x _ _ _ => x = 45) (sm_sI sm_rf v rfl) (by omega) (by omega)
set_option maxHeartbeats 200000 in
theorem r_tldP {j : Nat} {K : Unit → mP Unit} {Q : Unit → mM → Prop} (h : EvN ν B u L w P T) (h0 : m_I ν (40, 0, 0) 12 = 0) (hk : TkR ν u L p) (hp : p ≤ L) (hj : j < 1885) (hE : ∀ ν' fl, pTold u L p w P = .inl fl → sm (KJ j) ν ν' → Er ν' fl → m_e (K () ν') Q) (hO : ∀ ν' p', pTold u L p w P = .inr p' → sm (KJ j) ν ν' → m_I ν' (40, 0, 0) 12 = 0 → TkR ν' u L p' → p' ≤ L → m_I ν' (45, 0, 0) j = nI (iF u L p w P) → m_e (K () ν') Q) : m_e (m_bd (fn_M_readTold (some (40, 0, 0)) 0 0) (fun v => m_bd (m_tI 0 (some (45, 0, 0)) (nI j) v) K) ν) Q := by
  obtain ⟨hR, hT, hB, b1, b2, b3, b4, b5, b6⟩ := id h
  refine e_bd (r_readTold0 (k := 0) (j := 0) (N := P) (w := w) hR hT hB hk hp h0 (by omega) (by omega) b1 (by omega) (fun i hi => by rw [show 14 * 0 + 6 * 0 + i = i by omega]; exact b5 i hi)) ?_
  rintro v ν1 ⟨⟨s1, c1, c2⟩, c3⟩
  have hR1 := sm_R s1 hR
  have s2 : sm (fun x _ _ k => x = 45 ∧ k = j) ν1 (m_sI ν1 (45, 0, 0) j v) := sm_sI sm_rf _ ⟨rfl, rfl⟩
  have t2 : sm (KJ j) ν (m_sI ν1 (45, 0, 0) j v) := sm_tr (sm_mono s1 (by unfold KJ; omega)) (sm_mono s2 (by unfold KJ; omega))
  rw [r_t45 hR1 hj]
  cases hr : pTold u L p w P with
  | inl fl => exact hE _ fl hr t2 (Er_sm (c2 fl hr) s2 (by omega) (by omega))
  | inr p' =>
    obtain ⟨z, k1, l1⟩ := c1 p' hr
    obtain ⟨c3, -⟩ := c3 p' hr
    exact hO _ p' hr t2 (by rw [sm_I s2 (by omega), z]) (TkR_sm k1 s2 (by omega)) l1 (by rw [I_row, ud_at, c3, fnd_iF (by omega) hr])
set_option maxHeartbeats 200000 in
theorem r_tldT {j : Nat} {K : Unit → mP Unit} {Q : Unit → mM → Prop} (h : EvN ν B u L w P T) (h0 : m_I ν (40, 0, 0) 12 = 0) (hk : TkR ν u L p) (hp : p ≤ L) (hj : j < 1885) (hE : ∀ ν' fl, pTold u L p (wT w) T = .inl fl → sm (KJ j) ν ν' → Er ν' fl → m_e (K () ν') Q) (hO : ∀ ν' p', pTold u L p (wT w) T = .inr p' → sm (KJ j) ν ν' → m_I ν' (40, 0, 0) 12 = 0 → TkR ν' u L p' → p' ≤ L → m_I ν' (45, 0, 0) j = nI (iF u L p (wT w) T) → m_e (K () ν') Q) : m_e (m_bd (fn_M_readTold (some (40, 0, 0)) 0 1) (fun v => m_bd (m_tI 0 (some (45, 0, 0)) (nI j) v) K) ν) Q := by
  obtain ⟨hR, hT, hB, b1, b2, b3, b4, b5, b6⟩ := id h
  refine e_bd (r_readTold0 (k := 0) (j := 1) (N := T) (w := wT w) hR hT hB hk hp h0 (by omega) (by omega) b2 (by omega) (fun i hi => by rw [show 14 * 0 + 6 * 1 + i = 6 + i by omega]; exact b6 i hi)) ?_
  rintro v ν1 ⟨⟨s1, c1, c2⟩, c3⟩
  have hR1 := sm_R s1 hR
  have s2 : sm (fun x _ _ k => x = 45 ∧ k = j) ν1 (m_sI ν1 (45, 0, 0) j v) := sm_sI sm_rf _ ⟨rfl, rfl⟩
  have t2 : sm (KJ j) ν (m_sI ν1 (45, 0, 0) j v) := sm_tr (sm_mono s1 (by unfold KJ; omega)) (sm_mono s2 (by unfold KJ; omega))
  rw [r_t45 hR1 hj]
  cases hr : pTold u L p (wT w) T with
  | inl fl => exact hE _ fl hr t2 (Er_sm (c2 fl hr) s2 (by omega) (by omega))
  | inr p' =>
    obtain ⟨z, k1, l1⟩ := c1 p' hr
    obtain ⟨c3, -⟩ := c3 p' hr
    exact hO _ p' hr t2 (by rw [sm_I s2 (by omega), z]) (TkR_sm k1 s2 (by omega)) l1 (by rw [I_row, ud_at, c3, fnd_iF b4 hr])
set_option maxHeartbeats 200000 in
theorem nb (b j : Nat) : nI b + nI j = nI (b + j) := nI_add b j
set_option maxHeartbeats 200000 in
theorem nb1 (b : Nat) : nI b + 1 = nI (b + 1) := nI_add b 1
set_option maxHeartbeats 200000 in
theorem nb2 (b : Nat) : nI b + 2 = nI (b + 2) := nI_add b 2
set_option maxHeartbeats 200000 in
theorem nb3 (b : Nat) : nI b + 3 = nI (b + 3) := nI_add b 3
set_option maxHeartbeats 200000 in
theorem nb6 (b : Nat) : nI b + 6 = nI (b + 6) := nI_add b 6
set_option maxHeartbeats 200000 in
theorem nb7 (b : Nat) : nI b + 7 = nI (b + 7) := nI_add b 7
set_option maxHeartbeats 200000 in
theorem KJ_W {j : Nat} (h1 : 1 ≤ j) (h2 : j < 8) : ∀ x y z k, KJ (b + j) x y z k → KW b x y z k := by
  unfold KJ KW
  omega
set_option maxHeartbeats 200000 in
theorem KW_w {j : Nat} {v : Int32} (h : sm (KW b) ν0 ν) (h1 : b < j) (h2 : j < b + 8) : sm (KW b) ν0 (m_sI ν (45, 0, 0) j v) := sm_sI h v (by unfold KW; omega)
set_option maxHeartbeats 200000 in
theorem EvN_J {j : Nat} (h : EvN ν B u L w P T) (hs : sm (KJ j) ν ν') (hj : 2 ≤ j) : EvN ν' B u L w P T := EvN_sm h hs (by unfold KJ; omega) (by unfold KJ; omega) (by unfold KJ; omega) (by unfold KJ; omega)
end YN
