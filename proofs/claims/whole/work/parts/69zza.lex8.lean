/-! Part 69zza: the reference's readers -/
section RB
variable {ν : mM} {B : Nat → Int32} {u : Nat → Nat} {L p : Nat}
/-- the name behind p, as a number -/
def xw (u : Nat → Nat) (L p : Nat) : Int64 := lN (wv u (tS u L p) (min (tE u L p - tS u L p) 8))
set_option maxHeartbeats 200000 in
theorem nmd_of (h : nmd u L p = true) : tK u L p = 1 ∧ tE u L p - tS u L p ≤ 8 ∧ ¬ kept u L p = true := by
  unfold nmd at h
  simp at h
  exact ⟨h.1, by have := h.2.1; omega, by simp [h.2.2]⟩
set_option maxHeartbeats 200000 in
theorem r_19 (hk : TkR ν u L p) (h : nmd u L p = true) : m_J ν (40, 0, 0) 19 = xw u L p := by
  obtain ⟨h1, h2, -⟩ := nmd_of h
  rw [(hk.2.2.2.1 h1).2, if_pos h2]
  unfold xw
  rw [Nat.min_eq_left h2]
/-- what is told of somebody who is there already -/
def pTold (u : Nat → Nat) (L p : Nat) (w : Nat → Int64) (N : Nat) : Fl ⊕ Nat := pName u L p (decide (fnd w (xw u L p) N 0 ≠ -1))
set_option maxHeartbeats 200000 in
theorem r_readToldE (hR : RefP ν) {f : Fl} (h : Er ν f) (a b : Int32) : fn_M_readTold (some (40, 0, 0)) a b ν = some (0, ν) := by
  obtain ⟨h1, h2, h3⟩ := Er_0 h
  unfold fn_M_readTold
  rw [r_th hR, r_gI hR, bd_ite, if_neg h1, bd_rt, r_gI hR, ap_ite, if_neg h2]
  rfl
set_option maxHeartbeats 200000 in
theorem r_readTold0 (hR : RefP ν) (hT : RxB ν B L) (hB : Byt B u L) (hk : TkR ν u L p) (hp : p ≤ L) (h0 : m_I ν (40, 0, 0) 12 = 0) {k j N : Nat} {w : Nat → Int64} (hk4 : k ≤ 4) (hj : j ≤ 1) (hN0 : m_I ν (45, 0, 0) (377 * k + j) = nI N) (hN : N ≤ 8) (hw : ∀ i, i < N → m_J ν (48, 0, 0) (14 * k + 6 * j + i) = w i) : m_e (fn_M_readTold (some (40, 0, 0)) (nI k) (nI j) ν) (fun v ν' => OutR ν ν' u L (pTold u L p w N) ∧ ∀ p', pTold u L p w N = .inr p' → v = fnd w (xw u L p) N 0 ∧ ∃ i, i < N ∧ v = nI i) := by
  obtain ⟨k3, k4, k5, k6, k7, k8⟩ := id hk
  unfold fn_M_readTold
  rw [r_th hR, r_gI hR, h0, bd_ite, if_pos rfl, bd_bd, bd_of (r_isName hR hB hk hp), bd_ite]
  by_cases z : nmd u L p = true
  · have h19 := r_19 hk z
    rw [if_pos z, if_neg (by decide), bd_rt, r_gI hR, h0, ap_ite, if_pos (show (0 : Int32) ≤ 0 by decide), bd_of (r_named hR hk4 hj hN0 hN hw), h19, bd_ite]
    rcases fnd_is (w := w) (x := xw u L p) N 0 with q | ⟨i, -, hi, q⟩
    · have hr : pTold u L p w N = .inl (3, tS u L p) := by
        unfold pTold pName
        rw [if_pos z, q, if_neg (show ¬ decide ((-1 : Int32) ≠ -1) = true by decide)]
      rw [q, if_neg (show ¬ (0 : Int32) ≤ -1 by decide), bd_bd, r_gI hR, k5, bd_bd, bd_of (r_fail0 hR h0 _ _), bd_rt, hr]
      have hE : Er (m_sI (m_sI ν (40, 0, 0) 12 3) (40, 0, 0) 13 (nI (tS u L p))) (3, tS u L p) := ⟨by rw [I_row, ud_ne (by decide), I_row, ud_at]; rfl, by rw [I_row, ud_at], by show 1 ≤ 3; omega, by show 3 ≤ 9; omega⟩
      rw [bd_of (r_mustE (ν := m_sI (m_sI ν (40, 0, 0) 12 3) (40, 0, 0) 13 (nI (tS u L p))) hR hE 1)]
      exact ⟨_, _, rfl, Out_fail (x := 3) (by omega), fun p' q => (by cases q)⟩
    · have hr : pTold u L p w N = .inr (tE u L p) := by
        unfold pTold pName
        have hne : nI i ≠ -1 := fun e => by
          have h1 := nI_pos (n := i) (by omega)
          rw [e] at h1
          exact h1 (by decide)
        rw [if_pos z, q, if_pos (decide_eq_true hne)]
      have hm := r_must0 hR hT hB hk hp h0 true
      rw [if_pos rfl, if_pos rfl] at hm
      rw [q, if_pos (show (0 : Int32) ≤ nI i from nI_le (a := 0) (by omega) (by omega)), bd_rt, hr]
      refine e_bd hm ?_
      rintro - ν' h
      refine ⟨_, _, rfl, h, fun p' _ => ?_⟩
      have e1 : iMax 0 (nI i) = nI i := by
        unfold iMax
        by_cases y : i = 0
        · subst y
          split <;> rfl
        · split
          · rfl
          · rename_i v
            first
              | exact absurd (nI_le (a := 0) (b := i) (by omega) (by omega)) v
              | exact absurd (nI_lt (a := 0) (b := i) (by omega) (by omega)) v
              | rfl
      rw [e1]
      exact ⟨rfl, i, by omega, rfl⟩
  · have hr : pTold u L p w N = .inl (am u L p) := by
      unfold pTold pName
      rw [if_neg z]
    have hE : Er (m_sI (m_sI ν (40, 0, 0) 12 (nI (am u L p).1)) (40, 0, 0) 13 (nI (am u L p).2)) (am u L p) := ⟨by rw [I_row, ud_ne (by decide), I_row, ud_at], by rw [I_row, ud_at], am_b⟩
    have hR2 : RefP (m_sI (m_sI ν (40, 0, 0) 12 (nI (am u L p).1)) (40, 0, 0) 13 (nI (am u L p).2)) := hR
    rw [if_neg z, if_pos rfl, bd_bd, bd_of (r_amiss0 hR h0 hk), bd_rt, r_gI hR2, ap_ite, if_neg (Er_0 hE).2.1, hr]
    exact ⟨_, _, rfl, Out_fail am_b, fun p' q => (by cases q)⟩
/-- a word that must be, a number behind it -/
def pBeh (u : Nat → Nat) (L p : Nat) (c : Bool) (a b : Nat) : Fl ⊕ Nat := if c = true then pNum u L (tE u L p) a b else .inl (am u L p)
set_option maxHeartbeats 200000 in
theorem OutR_tr {ν' ν'' : mM} {res res' : Fl ⊕ Nat} (h : OutR ν ν' u L res) (h' : OutR ν' ν'' u L res') : OutR ν ν'' u L res' := ⟨sm_tr h.1 h'.1, h'.2⟩
set_option maxHeartbeats 200000 in
theorem r_behind0 (hR : RefP ν) (hT : RxB ν B L) (hB : Byt B u L) (hk : TkR ν u L p) (hp : p ≤ L) (h0 : m_I ν (40, 0, 0) 12 = 0) (c : Bool) {a b : Nat} (ha : a < 2 ^ 31) (hb : b < 2 ^ 31) : m_e (fn_M_behindWord (some (40, 0, 0)) (if c = true then 1 else 0) (nI a) (nI b) ν) (fun v ν' => OutR ν ν' u L (pBeh u L p c a b) ∧ (∀ p', pBeh u L p c a b = .inr p' → v = nI (tV u L (tE u L p))) ∧ ∀ f, pBeh u L p c a b = .inl f → v = 0) := by
  obtain ⟨h1, h2⟩ := tE_le (u := u) hp
  unfold fn_M_behindWord
  rw [r_th hR]
  refine e_bd (r_must0 hR hT hB hk hp h0 c) ?_
  rintro - ν1 g
  have hR1 := sm_R g.1 hR
  cases c
  · have hE := g.2.2 (am u L p) (by rw [if_neg (show ¬ false = true by decide)])
    have hr : pBeh u L p false a b = .inl (am u L p) := if_neg (show ¬ false = true by decide)
    rw [bd_of (r_countE hR1 hE _ _), hr]
    exact ⟨_, _, rfl, ⟨g.1, fun p' q => (by cases q), fun f q => by cases q; exact hE⟩, fun p' q => (by cases q), fun f _ => rfl⟩
  · obtain ⟨e0, ek, ep⟩ := g.2.1 (tE u L p) (if_pos rfl)
    have hr : pBeh u L p true a b = pNum u L (tE u L p) a b := if_pos rfl
    rw [hr]
    refine e_bd (r_count0 hR1 (RxB_sm hT g.1 (by omega) (by omega)) hB ek ep e0 ha hb) ?_
    rintro v ν2 ⟨q1, q2, q3⟩
    exact ⟨_, _, rfl, OutR_tr g q1, q2, q3⟩
set_option maxHeartbeats 200000 in
theorem r_behindE (hR : RefP ν) {f : Fl} (h : Er ν f) (x a b : Int32) : fn_M_behindWord (some (40, 0, 0)) x a b ν = some (0, ν) := by
  unfold fn_M_behindWord
  rw [r_th hR, bd_of (r_mustE hR h x), bd_of (r_countE hR h a b)]
  rfl
set_option maxHeartbeats 200000 in
theorem r_perhapsE (hR : RefP ν) {f : Fl} (h : Er ν f) (x : Int32) : fn_M_perhaps (some (40, 0, 0)) x ν = some (0, ν) := by
  unfold fn_M_perhaps
  rw [r_th hR, r_gI hR, ap_ite, if_pos (Er_0 h).2.2]
  rfl
set_option maxHeartbeats 200000 in
theorem r_perhaps0 (hR : RefP ν) (hT : RxB ν B L) (hB : Byt B u L) (hk : TkR ν u L p) (hp : p ≤ L) (h0 : m_I ν (40, 0, 0) 12 = 0) (c : Bool) : m_e (fn_M_perhaps (some (40, 0, 0)) (if c = true then 1 else 0) ν) (fun v ν' => OutR ν ν' u L (.inr (if c = true then tE u L p else p)) ∧ v = if c = true then 1 else 0) := by
  unfold fn_M_perhaps
  rw [r_th hR, r_gI hR, h0, ap_ite, if_neg (show ¬ (0 : Int32) < 0 by decide), ap_ite]
  cases c
  · rw [if_pos (show (if false = true then (1 : Int32) else 0) = 0 from rfl)]
    refine ⟨_, _, rfl, ⟨sm_rf, fun p' q => ?_, fun f q => (by cases q)⟩, rfl⟩
    cases q
    exact ⟨h0, hk, hp⟩
  · rw [if_neg (show ¬ (if true = true then (1 : Int32) else 0) = 0 by decide)]
    refine e_bd (r_adv1 hR hT hB hk hp h0) ?_
    rintro - ν' h
    exact ⟨_, _, rfl, h, rfl⟩
end RB
