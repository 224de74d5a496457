/-! Part 69zy: the reference takes from a text -/
section TR
variable {ν : mM} {B : Nat → Int32} {u : Nat → Nat} {L p : Nat}
/-- a fault is told -/
def Er (ν : mM) (f : Fl) : Prop := m_I ν (40, 0, 0) 12 = nI f.1 ∧ m_I ν (40, 0, 0) 13 = nI f.2 ∧ 1 ≤ f.1 ∧ f.1 ≤ 9
set_option maxHeartbeats 200000 in
theorem Er_sm {K : Nat → Nat → Nat → Nat → Prop} {ν' : mM} {f : Fl} (h : Er ν f) (hs : sm K ν ν') (h1 : ¬ K 40 0 0 12) (h2 : ¬ K 40 0 0 13) : Er ν' f := ⟨by rw [sm_I hs h1, h.1], by rw [sm_I hs h2, h.2.1], h.2.2⟩
set_option maxHeartbeats 200000 in
theorem Er_0 {f : Fl} (h : Er ν f) : ¬ m_I ν (40, 0, 0) 12 = 0 ∧ ¬ m_I ν (40, 0, 0) 12 ≤ 0 ∧ 0 < m_I ν (40, 0, 0) 12 := by
  obtain ⟨h1, h2, h3, h4⟩ := h
  rw [h1]
  have : (0 : Int32) < nI f.1 := nI_lt (a := 0) (by omega) (by omega)
  exact ⟨nI_ne0 (by omega) (by omega), Int32.not_le.mpr this, this⟩
/-- what becomes of the reference's text -/
def OutR (ν ν' : mM) (u : Nat → Nat) (L : Nat) (res : Fl ⊕ Nat) : Prop := sm (fun x _ _ k => x = 40 ∧ 12 ≤ k ∧ k ≤ 19) ν ν' ∧ (∀ p', res = .inr p' → m_I ν' (40, 0, 0) 12 = 0 ∧ TkR ν' u L p' ∧ p' ≤ L) ∧ ∀ f, res = .inl f → Er ν' f
set_option maxHeartbeats 200000 in
theorem r_fail0 (hR : RefP ν) (h0 : m_I ν (40, 0, 0) 12 = 0) (x y : Int32) : fn_M_fail (some (40, 0, 0)) x y ν = some ((), m_sI (m_sI ν (40, 0, 0) 12 x) (40, 0, 0) 13 y) := by
  unfold fn_M_fail
  rw [r_th hR, r_gI hR, h0, ap_ite, if_pos (show (0 : Int32) ≤ 0 by decide), r_pI hR, r_pI (show RefP (m_sI ν (40, 0, 0) 12 x) from hR)]
  rfl
set_option maxHeartbeats 200000 in
theorem r_amiss0 (hR : RefP ν) (h0 : m_I ν (40, 0, 0) 12 = 0) (hk : TkR ν u L p) : fn_M_amiss (some (40, 0, 0)) ν = some ((), m_sI (m_sI ν (40, 0, 0) 12 (nI (am u L p).1)) (40, 0, 0) 13 (nI (am u L p).2)) := by
  have h4 := tK_le (u := u) (L := L) (p := p)
  obtain ⟨k3, k4, k5, -⟩ := id hk
  unfold fn_M_amiss am
  rw [r_th hR, r_gI hR, k4, bd_ite]
  by_cases z : tK u L p = 4
  · rw [if_pos (by rw [z]; rfl), bd_rt, r_gI hR, k5, bd_of (r_fail0 hR h0 _ _), if_pos z]
    rfl
  · rw [if_neg (show ¬ nI (tK u L p) = 4 from fun q => z ((nI_eq (b := 4) (by omega) (by omega)).mp q)), bd_rt, r_gI hR, k5, bd_of (r_fail0 hR h0 _ _), if_neg z]
    rfl
set_option maxHeartbeats 200000 in
theorem Out_fail {x : Nat} (hx : 1 ≤ x ∧ x ≤ 9) {y : Nat} : OutR ν (m_sI (m_sI ν (40, 0, 0) 12 (nI x)) (40, 0, 0) 13 (nI y)) u L (.inl (x, y)) := by
  refine ⟨sm_sI (sm_sI sm_rf _ (by omega)) _ (by omega), fun p' q => (by cases q), fun f q => ?_⟩
  cases q
  exact ⟨by rw [I_row, ud_ne (by decide), I_row, ud_at], by rw [I_row, ud_at], hx⟩
set_option maxHeartbeats 200000 in
theorem am_b : 1 ≤ (am u L p).1 ∧ (am u L p).1 ≤ 9 := by
  unfold am
  by_cases z : tK u L p = 4
  · rw [if_pos z]
    exact ⟨by omega, by omega⟩
  · rw [if_neg z]
    exact ⟨by omega, by omega⟩
set_option maxHeartbeats 200000 in
theorem r_adv1 (hR : RefP ν) (hT : RxB ν B L) (hB : Byt B u L) (hk : TkR ν u L p) (hp : p ≤ L) (h0 : m_I ν (40, 0, 0) 12 = 0) : m_e (fn_M_advance (some (40, 0, 0)) ν) (fun _ ν' => OutR ν ν' u L (.inr (tE u L p))) := by
  obtain ⟨h1, h2⟩ := tE_le (u := u) hp
  refine e_mono (r_advance hR hT hB h2 hk.1) ?_
  rintro - ν' ⟨g1, g2⟩
  refine ⟨sm_mono g2 (by omega), fun p' q => ?_, fun f q => (by cases q)⟩
  cases q
  exact ⟨by rw [sm_I g2 (by omega), h0], g1, h2⟩
set_option maxHeartbeats 200000 in
theorem r_must0 (hR : RefP ν) (hT : RxB ν B L) (hB : Byt B u L) (hk : TkR ν u L p) (hp : p ≤ L) (h0 : m_I ν (40, 0, 0) 12 = 0) (c : Bool) : m_e (fn_M_must (some (40, 0, 0)) (if c = true then 1 else 0) ν) (fun _ ν' => OutR ν ν' u L (if c = true then .inr (tE u L p) else .inl (am u L p))) := by
  unfold fn_M_must
  rw [r_th hR, r_gI hR, h0, ap_ite, if_pos (show (0 : Int32) ≤ 0 by decide), ap_ite]
  cases c
  · rw [if_pos (show (if false = true then (1 : Int32) else 0) = 0 from rfl), if_neg (show ¬ false = true by decide), bd_of (r_amiss0 hR h0 hk)]
    exact ⟨_, _, rfl, Out_fail am_b⟩
  · rw [if_neg (show ¬ (if true = true then (1 : Int32) else 0) = 0 by decide), if_pos rfl]
    exact e_bd (r_adv1 hR hT hB hk hp h0) (fun _ ν' h => ⟨_, _, rfl, h⟩)
set_option maxHeartbeats 200000 in
theorem r_mustE (hR : RefP ν) {f : Fl} (h : Er ν f) (x : Int32) : fn_M_must (some (40, 0, 0)) x ν = some ((), ν) := by
  unfold fn_M_must
  rw [r_th hR, r_gI hR, ap_ite, if_neg (Er_0 h).2.1]
  rfl
set_option maxHeartbeats 200000 in
theorem r_countE (hR : RefP ν) {f : Fl} (h : Er ν f) (a b : Int32) : fn_M_count (some (40, 0, 0)) a b ν = some (0, ν) := by
  obtain ⟨h1, h2, h3⟩ := Er_0 h
  unfold fn_M_count
  rw [r_th hR, r_gI hR, bd_ite, if_neg h1, bd_rt, r_gI hR, bd_ite, if_neg h1, bd_rt, r_gI hR, ap_ite, if_neg h2]
  rfl
set_option maxHeartbeats 200000 in
theorem r_count0 (hR : RefP ν) (hT : RxB ν B L) (hB : Byt B u L) (hk : TkR ν u L p) (hp : p ≤ L) (h0 : m_I ν (40, 0, 0) 12 = 0) {a b : Nat} (ha : a < 2 ^ 31) (hb : b < 2 ^ 31) : m_e (fn_M_count (some (40, 0, 0)) (nI a) (nI b) ν) (fun v ν' => OutR ν ν' u L (pNum u L p a b) ∧ (∀ p', pNum u L p a b = .inr p' → v = nI (tV u L p)) ∧ ∀ f, pNum u L p a b = .inl f → v = 0) := by
  have h4 := tK_le (u := u) (L := L) (p := p)
  obtain ⟨k3, k4, k5, k6, k7, k8⟩ := id hk
  unfold fn_M_count
  rw [r_th hR, r_gI hR, h0, bd_ite, if_pos rfl, bd_bd, r_gI hR, k4, bd_ite]
  by_cases z : tK u L p = 2
  · have hv := tV_lt z
    have e17 : m_I ν (40, 0, 0) 17 = nI (tV u L p) := k7 z
    rw [if_pos (by rw [z]; rfl), bd_rt, r_gI hR, h0, bd_ite, if_pos rfl, bd_bd, r_gI hR, e17, bd_bd, bd_isIn, w_in_n (by omega) ha hb, bd_ite]
    by_cases y : a ≤ tV u L p ∧ tV u L p ≤ b
    · have hr : pNum u L p a b = .inr (tE u L p) := by
        unfold pNum
        rw [if_pos z, if_pos y]
      rw [if_pos y, if_neg (by decide), bd_rt, r_gI hR, h0, ap_ite, if_pos (show (0 : Int32) ≤ 0 by decide), r_gI hR, e17, hr]
      refine e_bd (r_adv1 hR hT hB hk hp h0) ?_
      rintro - ν' h
      exact ⟨_, _, rfl, h, fun p' _ => rfl, fun f q => (by cases q)⟩
    · have hr : pNum u L p a b = .inl (4, tS u L p) := by
        unfold pNum
        rw [if_pos z, if_neg y]
      rw [if_neg y, if_pos rfl, bd_bd, r_gI hR, k5, bd_bd, bd_of (r_fail0 hR h0 _ _), bd_rt]
      have hR2 : RefP (m_sI (m_sI ν (40, 0, 0) 12 4) (40, 0, 0) 13 (nI (tS u L p))) := hR
      rw [r_gI hR2, I_row, ud_ne (by decide), I_row, ud_at, ap_ite, if_neg (by decide), hr]
      exact ⟨_, _, rfl, Out_fail (x := 4) (by omega), fun p' q => (by cases q), fun f _ => rfl⟩
  · have hr : pNum u L p a b = .inl (am u L p) := by
      unfold pNum
      rw [if_neg z]
    have hR2 : RefP (m_sI (m_sI ν (40, 0, 0) 12 (nI (am u L p).1)) (40, 0, 0) 13 (nI (am u L p).2)) := hR
    have e12 : m_I (m_sI (m_sI ν (40, 0, 0) 12 (nI (am u L p).1)) (40, 0, 0) 13 (nI (am u L p).2)) (40, 0, 0) 12 = nI (am u L p).1 := by rw [I_row, ud_ne (by decide), I_row, ud_at]
    have hb1 := am_b (u := u) (L := L) (p := p)
    have hn0 : ¬ nI (am u L p).1 = 0 := nI_ne0 (by omega) (by omega)
    have hn1 : ¬ nI (am u L p).1 ≤ 0 := Int32.not_le.mpr (nI_lt (a := 0) (by omega) (by omega))
    rw [if_neg (show ¬ nI (tK u L p) = 2 from fun q => z ((nI_eq (b := 2) (by omega) (by omega)).mp q)), bd_bd, bd_of (r_amiss0 hR h0 hk), bd_rt, r_gI hR2, e12, bd_ite, if_neg hn0, bd_rt, r_gI hR2, e12, ap_ite, if_neg hn1, hr]
    exact ⟨_, _, rfl, Out_fail am_b, fun p' q => (by cases q), fun f _ => rfl⟩
set_option maxHeartbeats 200000 in
theorem r_isSign (hR : RefP ν) (hB : Byt B u L) (hk : TkR ν u L p) {x : Nat} (hx : x < 256) : fn_M_isSign (some (40, 0, 0)) (nI x) ν = some (if decide (tK u L p = 3 ∧ u (tS u L p) = x) = true then 1 else 0, ν) := by
  have h4 := tK_le (u := u) (L := L) (p := p)
  obtain ⟨k3, k4, k5, k6, k7, k8⟩ := id hk
  unfold fn_M_isSign
  rw [r_th hR, r_gI hR, k4, ap_ite]
  by_cases z : tK u L p = 3
  · have hs : u (tS u L p) < 256 := by
      refine (hB.2 _ ?_).1
      unfold tK at z
      by_cases y : L ≤ tS u L p
      · rw [if_pos y] at z
        exact absurd z (by decide)
      · omega
    rw [if_pos (by rw [z]; rfl), r_gI hR, k8 z, ap_ite]
    by_cases y : u (tS u L p) = x
    · rw [if_pos (by rw [y]), if_pos (decide_eq_true ⟨z, y⟩)]
      rfl
    · rw [if_neg (fun q => y ((nI_eq (by omega) (by omega)).mp q)), if_neg (fun q => y (of_decide_eq_true q).2)]
      rfl
  · rw [if_neg (show ¬ nI (tK u L p) = 3 from fun q => z ((nI_eq (b := 3) (by omega) (by omega)).mp q)), if_neg (fun q => z (of_decide_eq_true q).1)]
    rfl
set_option maxHeartbeats 200000 in
/-- a sign that ends -/
theorem r_end0 (hR : RefP ν) (hT : RxB ν B L) (hB : Byt B u L) (hk : TkR ν u L p) (hp : p ≤ L) (h0 : m_I ν (40, 0, 0) 12 = 0) : m_e (m_bd (fn_M_isSign (some (40, 0, 0)) 59) (fun v => fn_M_must (some (40, 0, 0)) v) ν) (fun _ ν' => OutR ν ν' u L (pEnd u L p)) := by
  have h1 : fn_M_isSign (some (40, 0, 0)) 59 ν = some (if decide (tK u L p = 3 ∧ u (tS u L p) = 59) = true then 1 else 0, ν) := r_isSign (x := 59) hR hB hk (by omega)
  have h2 : pEnd u L p = if decide (tK u L p = 3 ∧ u (tS u L p) = 59) = true then .inr (tE u L p) else .inl (am u L p) := by
    unfold pEnd
    by_cases z : tK u L p = 3 ∧ u (tS u L p) = 59
    · rw [if_pos z, if_pos (decide_eq_true z)]
    · rw [if_neg z, if_neg (fun q => z (of_decide_eq_true q))]
  rw [bd_of h1, h2]
  exact r_must0 hR hT hB hk hp h0 _
set_option maxHeartbeats 200000 in
theorem r_isName (hR : RefP ν) (hB : Byt B u L) (hk : TkR ν u L p) (hp : p ≤ L) : fn_M_isName (some (40, 0, 0)) ν = some (if nmd u L p = true then 1 else 0, ν) := by
  have h4 := tK_le (u := u) (L := L) (p := p)
  have hL := hB.1
  obtain ⟨h1, h2⟩ := tE_le (u := u) hp
  obtain ⟨k3, k4, k5, k6, k7, k8⟩ := id hk
  unfold fn_M_isName nmd
  rw [r_th hR, r_gI hR, k4, ap_ite]
  by_cases z : tK u L p = 1
  · rw [if_pos (by rw [z]; rfl), r_gI hR, (k6 z).1, ap_ite]
    by_cases y : tE u L p - tS u L p ≤ 8
    · rw [if_neg (show ¬ (8 : Int32) < nI (tE u L p - tS u L p) from Int32.not_lt.mpr (nI_le (b := 8) y (by omega))), bd_of (r_isKept hR hk), ap_ite]
      by_cases x : kept u L p = true
      · rw [if_pos x, if_neg (by decide), if_neg (by simp [x])]
        rfl
      · rw [if_neg x, if_pos rfl, if_pos (by simp [z, y, x])]
        rfl
    · rw [if_pos (show (8 : Int32) < nI (tE u L p - tS u L p) from nI_lt (a := 8) (by omega) (by omega)), if_neg (by simp [y])]
      rfl
  · rw [if_neg (show ¬ nI (tK u L p) = 1 from fun q => z ((nI_eq (b := 1) (by omega) (by omega)).mp q)), if_neg (by simp [z])]
    rfl
end TR
