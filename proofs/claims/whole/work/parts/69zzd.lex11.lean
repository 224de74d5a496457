/-! Part 69zzd: a text begins -/
set_option maxHeartbeats 200000 in
theorem byt_all : ∀ n, n < 256 → ((Int8.ofNat n).toInt32 &&& 255 = nI n) ∧ (n < 128 → (Int8.ofNat n).toInt32 = nI n) ∧ (128 ≤ n → (Int8.ofNat n).toInt32 < 0) := by decide +kernel
set_option maxHeartbeats 200000 in
theorem int8_n (b : Int8) : ∃ n, n < 256 ∧ b = Int8.ofNat n := ⟨b.toBitVec.toNat, b.toBitVec.isLt, by
  apply Int8.toBitVec_inj.mp
  show b.toBitVec = BitVec.ofNat 8 b.toBitVec.toNat
  simp⟩
section ST2
variable {μ ν : mM} {B : Nat → Int32} {L : Nat}
def uB (B : Nat → Int32) (k : Nat) : Nat := (B k &&& 255).toNatClampNeg
set_option maxHeartbeats 200000 in
theorem Byt_of (hL : L ≤ 900) (h : ∀ k, k < L → ∃ b : Int8, B k = b.toInt32) : Byt B (uB B) L := by
  refine ⟨hL, fun k hk => ?_⟩
  obtain ⟨b, hb⟩ := h k hk
  obtain ⟨n, hn, rfl⟩ := int8_n b
  obtain ⟨h1, h2, h3⟩ := byt_all n hn
  have e : uB B k = n := by
    unfold uB
    rw [hb, h1, nI_clamp (by omega)]
  rw [e, hb]
  exact ⟨hn, h1, h2, h3⟩
variable {u : Nat → Nat}
set_option maxHeartbeats 200000 in
theorem k_open (hC : ClsP μ) (h6 : m_I μ (6, 0, 0) = B) (hB : Byt B u L) : m_e (fn_Tx_open (some (5, 0, 0)) (nI L) μ) (fun _ μ' => TxB μ' B L ∧ TkC μ' u L 0 ∧ m_I μ' (5, 0, 0) 1 = 0 ∧ m_I μ' (5, 0, 0) 10 = 0 ∧ m_I μ' (5, 0, 0) 11 = -1 ∧ sm (fun x _ _ k => x = 5 ∧ 1 ≤ k) μ μ') := by
  have s1 : sm (fun x _ _ k => x = 5 ∧ 1 ≤ k) μ (m_sI μ (5, 0, 0) 2 (nI L)) := sm_sI sm_rf _ (by omega)
  have s2 := sm_sI (x := 5) (y := 0) (z := 0) (k := 1) s1 0 (by omega)
  have s3 := sm_sI (x := 5) (y := 0) (z := 0) (k := 3) s2 0 (by omega)
  have s4 := sm_sI (x := 5) (y := 0) (z := 0) (k := 10) s3 0 (by omega)
  have s5 := sm_sI (x := 5) (y := 0) (z := 0) (k := 11) s4 (-1) (by omega)
  unfold fn_Tx_open
  rw [c_text_th hC, c_text_pI hC, c_text_pI (sm_C s1 hC), c_text_pI (sm_C s2 hC), c_text_pI (sm_C s3 hC), c_text_pI (sm_C s4 hC)]
  have e1 : m_I (m_sI (m_sI (m_sI (m_sI (m_sI μ (5, 0, 0) 2 (nI L)) (5, 0, 0) 1 0) (5, 0, 0) 3 0) (5, 0, 0) 10 0) (5, 0, 0) 11 (-1)) (5, 0, 0) 1 = 0 := by simp [I_row, ud]
  have e2 : m_I (m_sI (m_sI (m_sI (m_sI (m_sI μ (5, 0, 0) 2 (nI L)) (5, 0, 0) 1 0) (5, 0, 0) 3 0) (5, 0, 0) 10 0) (5, 0, 0) 11 (-1)) (5, 0, 0) 2 = nI L := by simp [I_row, ud]
  have e3 : m_I (m_sI (m_sI (m_sI (m_sI (m_sI μ (5, 0, 0) 2 (nI L)) (5, 0, 0) 1 0) (5, 0, 0) 3 0) (5, 0, 0) 10 0) (5, 0, 0) 11 (-1)) (5, 0, 0) 3 = 0 := by simp [I_row, ud]
  have e10 : m_I (m_sI (m_sI (m_sI (m_sI (m_sI μ (5, 0, 0) 2 (nI L)) (5, 0, 0) 1 0) (5, 0, 0) 3 0) (5, 0, 0) 10 0) (5, 0, 0) 11 (-1)) (5, 0, 0) 10 = 0 := by simp [I_row, ud]
  have e11 : m_I (m_sI (m_sI (m_sI (m_sI (m_sI μ (5, 0, 0) 2 (nI L)) (5, 0, 0) 1 0) (5, 0, 0) 3 0) (5, 0, 0) 10 0) (5, 0, 0) 11 (-1)) (5, 0, 0) 11 = -1 := by simp [I_row, ud]
  generalize m_sI (m_sI (m_sI (m_sI (m_sI μ (5, 0, 0) 2 (nI L)) (5, 0, 0) 1 0) (5, 0, 0) 3 0) (5, 0, 0) 10 0) (5, 0, 0) 11 (-1) = μ1 at *
  have hT1 : TxB μ1 B L := ⟨by rw [sm_Ir s5 (by omega), h6], e2⟩
  refine e_bd (k_advance (sm_C s5 hC) hT1 hB (Nat.zero_le L) e3) ?_
  rintro - μ2 ⟨g1, g2⟩
  exact ⟨_, _, rfl, TxB_sm hT1 g2 (by omega) (by omega), g1, by rw [sm_I g2 (by omega), e1], by rw [sm_I g2 (by omega), e10], by rw [sm_I g2 (by omega), e11], sm_tr s5 (sm_mono g2 (by omega))⟩
set_option maxHeartbeats 200000 in
theorem r_starts (hR : RefP ν) (h44 : m_I ν (44, 0, 0) = B) (hB : Byt B u L) {n mx : Nat} (h8 : m_I ν (40, 0, 0) 8 = nI n) (hn : n ≤ 900) (hLn : L ≤ n) (hLm : L ≤ mx) (hm : mx ≤ 900) : m_e (fn_M_starts (some (40, 0, 0)) (nI L) (nI mx) ν) (fun v ν' => v = 1 ∧ RxB ν' B L ∧ TkR ν' u L 0 ∧ m_I ν' (40, 0, 0) 12 = 0 ∧ m_I ν' (40, 0, 0) 8 = 0 ∧ sm (fun x _ _ k => x = 40 ∧ ((8 ≤ k ∧ k ≤ 9) ∨ (12 ≤ k ∧ k ≤ 19))) ν ν') := by
  have s1 : sm (fun x _ _ k => x = 40 ∧ ((8 ≤ k ∧ k ≤ 9) ∨ (12 ≤ k ∧ k ≤ 19))) ν (m_sI ν (40, 0, 0) 9 (nI L)) := sm_sI sm_rf _ (by omega)
  have s2 := sm_sI (x := 40) (y := 0) (z := 0) (k := 8) s1 0 (by omega)
  have s3 := sm_sI (x := 40) (y := 0) (z := 0) (k := 16) s2 0 (by omega)
  have s4 := sm_sI (x := 40) (y := 0) (z := 0) (k := 12) s3 0 (by omega)
  unfold fn_M_starts
  rw [r_th hR, ap_ite, if_neg (nI_pos (by omega)), r_gI hR, h8, ap_ite, if_neg (show ¬ nI n < nI L from Int32.not_lt.mpr (nI_le hLn (by omega))), ap_ite, if_pos (nI_le hLm (by omega)), r_pI hR, r_pI (sm_R s1 hR), r_pI (sm_R s2 hR), r_pI (sm_R s3 hR)]
  have e9 : m_I (m_sI (m_sI (m_sI (m_sI ν (40, 0, 0) 9 (nI L)) (40, 0, 0) 8 0) (40, 0, 0) 16 0) (40, 0, 0) 12 0) (40, 0, 0) 9 = nI L := by simp [I_row, ud]
  have e8 : m_I (m_sI (m_sI (m_sI (m_sI ν (40, 0, 0) 9 (nI L)) (40, 0, 0) 8 0) (40, 0, 0) 16 0) (40, 0, 0) 12 0) (40, 0, 0) 8 = 0 := by simp [I_row, ud]
  have e16 : m_I (m_sI (m_sI (m_sI (m_sI ν (40, 0, 0) 9 (nI L)) (40, 0, 0) 8 0) (40, 0, 0) 16 0) (40, 0, 0) 12 0) (40, 0, 0) 16 = 0 := by simp [I_row, ud]
  have e12 : m_I (m_sI (m_sI (m_sI (m_sI ν (40, 0, 0) 9 (nI L)) (40, 0, 0) 8 0) (40, 0, 0) 16 0) (40, 0, 0) 12 0) (40, 0, 0) 12 = 0 := by simp [I_row, ud]
  generalize m_sI (m_sI (m_sI (m_sI ν (40, 0, 0) 9 (nI L)) (40, 0, 0) 8 0) (40, 0, 0) 16 0) (40, 0, 0) 12 0 = ν1 at *
  have hT1 : RxB ν1 B L := ⟨by rw [sm_Ir s4 (by omega), h44], e9⟩
  refine e_bd (r_advance (sm_R s4 hR) hT1 hB (Nat.zero_le L) e16) ?_
  rintro - ν2 ⟨g1, g2⟩
  exact ⟨_, _, rfl, rfl, RxB_sm hT1 g2 (by omega) (by omega), g1, by rw [sm_I g2 (by omega), e12], by rw [sm_I g2 (by omega), e8], sm_tr s4 (sm_mono g2 (by omega))⟩
set_option maxHeartbeats 200000 in
theorem r_starts_no (hR : RefP ν) {n : Nat} (h8 : m_I ν (40, 0, 0) 8 = nI n) {x : Int32} {mx : Nat} (h : x < 0 ∨ nI n < x ∨ nI mx < x) : fn_M_starts (some (40, 0, 0)) x (nI mx) ν = some (0, m_sI ν (40, 0, 0) 0 5) := by
  unfold fn_M_starts
  rw [r_th hR, ap_ite]
  by_cases h1 : x < 0
  · rw [if_pos h1, bd_of (r_no hR 5), bd_cz (.inl rfl)]
    rfl
  · rw [if_neg h1, r_gI hR, h8, ap_ite]
    by_cases h2 : nI n < x
    · rw [if_pos h2, bd_of (r_no hR 5), bd_cz (.inl rfl)]
      rfl
    · rw [if_neg h2, ap_ite]
      by_cases h3 : x ≤ nI mx
      · exfalso
        rcases h with h | h | h
        · exact h1 h
        · exact h2 h
        · exact Int32.not_lt.mpr h3 h
      · rw [if_neg h3, bd_of (r_no hR 5), bd_cz (.inl rfl)]
        rfl
end ST2
