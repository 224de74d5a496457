/-! Part 69zzm: what a text that is read leaves of the invariant -/
set_option maxHeartbeats 200000 in
theorem num_cases (x : Int32) {N : Nat} (hN : N < 2 ^ 31) : (x < 0 ∨ nI N < x) ∨ ∃ L, L ≤ N ∧ x = nI L := by
  rcases w_in_cases (x := x) (A := 0) (B := N) hN (by omega) with h | ⟨p, -, h1, h2, -⟩
  · left
    unfold w_in at h
    by_cases h0 : x < 0
    · exact .inl h0
    · rw [if_neg (show ¬ x < nI 0 from h0)] at h
      by_cases h1 : nI N < x
      · exact .inr h1
      · rw [if_neg h1] at h
        exact absurd h (by decide)
  · exact .inr ⟨p, h1, h2⟩
set_option maxHeartbeats 200000 in
theorem Byt_c {B B' : Nat → Int32} {u : Nat → Nat} {L : Nat} (h : Byt B u L) (hc : ∀ k, k < L → B' k = B k) : Byt B' u L := ⟨h.1, fun k hk => by
  rw [hc k hk]
  exact h.2 k hk⟩
set_option maxHeartbeats 200000 in
theorem sm_sR {K : Nat → Nat → Nat → Nat → Prop} {μ μ' : mM} (h : sm K μ μ') (a : mA) (k : Nat) (v : Option mA) : sm K (m_sR μ a k v) (m_sR μ' a k v) := by
  refine ⟨h.1, ?_, h.2.2⟩
  have := h.2.1
  show m_u (m_R μ') a k v = m_u (m_R μ) a k v
  rw [this]
def KK (fa pa : Nat → Nat) (x y _z k : Nat) : Prop := (x = 1 ∧ k = 0) ∨ (x = 5 ∧ 1 ≤ k) ∨ ((x = 7 ∨ x = 9 ∨ x = 10 ∨ x = 12) ∧ y = fa 1) ∨ ((x = 13 ∨ x = 14) ∧ (y = pa 0 ∨ y = pa 2)) ∨ (x = 40 ∧ (k < 2 ∨ (8 ≤ k ∧ k ≤ 19) ∨ k = 25 ∨ k = 26)) ∨ (x = 45 ∧ 1508 ≤ k) ∨ (x = 48 ∧ 56 ≤ k)
section IE
variable {μ μ' : mM} {made n P T : Nat} {fa pa : Nat → Nat}
set_option maxHeartbeats 200000 in
/-- a text with a fault -/
theorem Inv_e (h : Inv μ made n fa pa P T) (hs : sm (KK fa pa) μ μ') (e : Sta μ') (eA : Tap μ') (eF : Fau μ') : Inv μ' made n fa pa P T := by
  obtain ⟨f1, f2, f3, f4, f5, f6⟩ := ptr_facts h.1.1
  have hn := h.1.2
  have hm := h.1.1.2.2.1
  refine Inv_upd h hs e ?_ ?_ ?_ ?_ ?_ ?_ ?_ ?_
  · exact fun q => Fra_sm q.1 hs (by unfold KK; omega) (by unfold KK; omega) (by unfold KK; omega) (by unfold KK; omega)
  · exact fun q => Tra_sm q hs (by unfold KK; omega) (by unfold KK; omega) (by unfold KK; omega)
  · exact fun _ => eA
  · exact fun _ => eF
  · exact fun q => Liv_sm q hs (by unfold KK; omega) (by unfold KK; omega) (by unfold KK; omega) (by unfold KK; omega)
  · exact fun q => FamV_sm q hs (by unfold KK; omega) (by unfold KK; omega) (by unfold KK; omega)
  · exact fun q => PlanI_c (fun k h1 h2 => sm_I hs (by unfold KK; omega)) (PlanI_sm q hs (by unfold KK; omega) (by unfold KK; omega))
  · refine fun q => Mrk_sm q hs (by unfold KK; omega) (by unfold KK; omega) (by omega) (by unfold KK; omega) (by unfold KK; omega) ?_ ?_ ?_
    · intro i hi
      have := f6 i (by omega)
      unfold KK
      omega
    · intro i hi
      have := f6 i (by omega)
      unfold KK
      omega
    · intro i hi
      have := f6 i (by omega)
      unfold KK
      omega
set_option maxHeartbeats 200000 in
theorem r_isWell0 {ν : mM} (hR : RefP ν) (h0 : m_I ν (40, 0, 0) 12 = 0) : fn_M_isWell (some (40, 0, 0)) ν = some (1, m_sI (m_sI ν (40, 0, 0) 10 0) (40, 0, 0) 11 (-1)) := by
  have hR1 : RefP (m_sI ν (40, 0, 0) 10 0) := hR
  have hR2 : RefP (m_sI (m_sI ν (40, 0, 0) 10 0) (40, 0, 0) 11 (-1)) := hR
  unfold fn_M_isWell
  rw [r_th hR, r_gI hR, h0, r_pI hR, r_gI hR1, I_row, ud_ne (by decide), h0, bd_ite, if_pos rfl, bd_rt, r_pI hR1, r_gI hR2, I_row, ud_ne (by decide), I_row, ud_ne (by decide), h0, ap_ite, if_pos rfl]
  rfl
set_option maxHeartbeats 200000 in
theorem r_isWellE {ν : mM} {fl : Fl} (hR : RefP ν) (h : Er ν fl) : fn_M_isWell (some (40, 0, 0)) ν = some (0, m_sI (m_sI (m_sI ν (40, 0, 0) 10 (nI fl.1)) (40, 0, 0) 11 (nI fl.2)) (40, 0, 0) 0 10) := by
  obtain ⟨h1, -, -⟩ := Er_0 h
  obtain ⟨e1, e2, -⟩ := id h
  have hR1 : RefP (m_sI ν (40, 0, 0) 10 (nI fl.1)) := hR
  have hR2 : RefP (m_sI (m_sI ν (40, 0, 0) 10 (nI fl.1)) (40, 0, 0) 11 (nI fl.2)) := hR
  rw [e1] at h1
  unfold fn_M_isWell
  rw [r_th hR, r_gI hR, e1, r_pI hR, r_gI hR1, I_row, ud_ne (by decide), e1, bd_ite, if_neg h1, bd_bd, r_gI hR1, I_row, ud_ne (by decide), e2, bd_rt, r_pI hR1, r_gI hR2, I_row, ud_ne (by decide), I_row, ud_ne (by decide), e1, ap_ite, if_neg h1, bd_of (r_no hR2 10), ap_ite, if_pos rfl]
  rfl
def c00 (k : Nat) : Int32 := if 2 ≤ k ∧ k < 6 then dfl k else 0
set_option maxHeartbeats 200000 in
theorem ZF_0 : ZF 0 0 0 c00 := by
  refine ⟨⟨rfl, rfl, by omega, by omega⟩, ⟨⟨⟨40, by omega, rfl⟩, ⟨70, by omega, by omega, rfl⟩, ⟨4, by omega, rfl⟩, ⟨3, by omega, rfl⟩, ⟨0, by omega, rfl⟩⟩, fun p hp => absurd hp (Nat.not_lt_zero p), fun t ht => absurd ht (Nat.not_lt_zero t)⟩, by omega, rfl, fun t _ ht => ⟨if_neg (by omega), if_neg (by omega)⟩, fun p _ hp t ht => if_neg (by omega), fun k k1 k2 => if_neg (by omega), fun k k1 k2 _ => if_pos ⟨k1, k2⟩⟩
set_option maxHeartbeats 200000 in
/-- the class's status ahead of a text -/
theorem k_famSt (hC : ClsP μ) {N : Nat} (e1 : m_I μ (5, 0, 0) 1 = nI N) {x : Int32} (hx : x < 0 ∨ nI N < x) {K : mP Int32} : m_e (m_bd (if x < 0 then m_rt 5 else m_bd (m_gR 0 4 (some (1, 0, 0))) fun v1 => m_bd (m_gI 2 1 v1) fun v2 => if x ≤ v2 then m_rt 0 else m_rt 5) (fun (t3 : Int32) => m_bd (m_pI 0 0 (some (1, 0, 0)) t3) fun _ => m_bd (m_gI 0 0 (some (1, 0, 0))) fun v4 => if v4 = 0 then K else m_rt (-1)) μ) (QC fa pa μ 5 (-1 : Int32)) := by
  have fin : m_e (m_bd (m_pI 0 0 (some (1, 0, 0)) 5) (fun _ => m_bd (m_gI 0 0 (some (1, 0, 0))) fun v4 => if v4 = 0 then K else m_rt (-1)) μ) (QC fa pa μ 5 (-1 : Int32)) := by
    rw [c_main_pI hC, c_main_gI (show ClsP (m_sI μ (1, 0, 0) 0 5) from hC), I_row, ud_at, ap_ite, if_neg (by decide)]
    exact ⟨_, _, rfl, QC_st _ _⟩
  rw [bd_ite]
  by_cases z : x < 0
  · rw [if_pos z, bd_rt]
    exact fin
  · rw [if_neg z, bd_bd, c_main_r4 hC, bd_bd, c_text_gI hC, e1, bd_ite, if_neg (Int32.not_le.mpr (hx.resolve_left z)), bd_rt]
    exact fin
end IE
