/-! Part 69zt: the class's next word, number, sign -/
section LY
variable {μ : mM} {B : Nat → Int32} {u : Nat → Nat} {L p : Nat}
set_option maxHeartbeats 200000 in
theorem nv_lt {s : Nat} (h : ∀ j, u (s + j) ≤ 57 ∨ 4 ≤ j) : ∀ n, n ≤ 4 → nv u s n < 10 ^ n
  | 0, _ => Nat.zero_lt_one
  | n + 1, hn => by
    have := nv_lt h n (by omega)
    have h2 := h n
    have h3 : nv u s (n + 1) = nv u s n * 10 + (u (s + n) - 48) := rfl
    rw [h3, Nat.pow_succ]
    omega
set_option maxHeartbeats 200000 in
theorem k_scanNumber (hC : ClsP μ) (hT : TxB μ B L) (hB : Byt B u L) {s : Nat} (hs : s < L) (e3 : m_I μ (5, 0, 0) 3 = nI s) (e6 : m_I μ (5, 0, 0) 6 = 0) (e8 : m_I μ (5, 0, 0) 8 = 0) : m_e (fn_Tx_scanNumber (some (5, 0, 0)) μ) (fun _ μ' => m_I μ' (5, 0, 0) 3 = nI (fwd isDig u L s) ∧ m_I μ' (5, 0, 0) 4 = nI (if fwd isDig u L s - s ≤ 4 then 2 else 4) ∧ m_I μ' (5, 0, 0) 8 = nI (nv u s (min (fwd isDig u L s - s) 4)) ∧ sm (fun x _ _ k => x = 5 ∧ (k = 3 ∨ k = 4 ∨ k = 6 ∨ k = 8)) μ μ') := by
  have hL := hB.1
  obtain ⟨hf1, hf2⟩ := fwd_le (pr := isDig) (u := u) (L := L) _ s rfl (by omega)
  unfold fn_Tx_scanNumber
  rw [c_text_th hC]
  refine e_bd (R := fun _ μ' => m_I μ' (5, 0, 0) 3 = nI (fwd isDig u L s) ∧ m_I μ' (5, 0, 0) 6 = nI (fwd isDig u L s - s) ∧ m_I μ' (5, 0, 0) 8 = nI (nv u s (min (fwd isDig u L s - s) 4)) ∧ sm (fun x _ _ k => x = 5 ∧ (k = 3 ∨ k = 4 ∨ k = 6 ∨ k = 8)) μ μ') ?_ ?_
  · refine e_brk (fun i _ μ' => s + i ≤ L ∧ fwd isDig u L (s + i) = fwd isDig u L s ∧ m_I μ' (5, 0, 0) 3 = nI (s + i) ∧ m_I μ' (5, 0, 0) 6 = nI i ∧ m_I μ' (5, 0, 0) 8 = nI (nv u s (min i 4)) ∧ sm (fun x _ _ k => x = 5 ∧ (k = 3 ∨ k = 4 ∨ k = 6 ∨ k = 8)) μ μ') (L - s) ?_ ⟨by omega, rfl, e3, e6, e8, sm_rf⟩ (by omega)
    rintro i _ μ' hi ⟨h1, h2, h3, h5, h6, h7⟩
    have hC' := sm_C h7 hC
    have hT' := TxB_sm hT h7 (by omega) (by omega)
    have hend : fwd isDig u L s = s + i → m_I μ' (5, 0, 0) 3 = nI (fwd isDig u L s) ∧ m_I μ' (5, 0, 0) 6 = nI (fwd isDig u L s - s) ∧ m_I μ' (5, 0, 0) 8 = nI (nv u s (min (fwd isDig u L s - s) 4)) ∧ sm (fun x _ _ k => x = 5 ∧ (k = 3 ∨ k = 4 ∨ k = 6 ∨ k = 8)) μ μ' := by
      intro q
      rw [q, Nat.add_sub_cancel_left]
      exact ⟨h3, h5, h6, h7⟩
    unfold fn_Tx_scanNumber_l0
    rw [c_text_gI hC', h3, c_text_gI hC', hT'.2, ap_ite]
    by_cases z : L ≤ s + i
    · rw [if_pos (nI_le z (by omega))]
      refine ⟨_, _, rfl, .inr ⟨(), rfl, hend ?_⟩⟩
      rw [← h2, fwd_no (fun q => by omega)]
    · rw [if_neg (nI_ge (by omega) (by omega)), c_text_r0 hC', c_text_gI hC', h3, c_bytes_a hC' (by omega), hT'.1, bd_of (k_isDigit hB (show s + i < L by omega)), ap_ite]
      by_cases y : isDig (u (s + i)) = true
      · have hl : 48 ≤ u (s + i) ∧ u (s + i) ≤ 57 := by
          unfold isDig at y
          simp at y
          exact y
        have hb : B (s + i) = nI (u (s + i)) := (hB.2 _ (by omega)).2.2.1 (by omega)
        have h2' : fwd isDig u L (s + (i + 1)) = fwd isDig u L s := by
          rw [← h2, fwd_go (p := s + i) (by omega) y]
          rfl
        rw [if_pos y, if_neg (by decide), c_text_gI hC', h5, bd_ite]
        by_cases x : 4 ≤ i
        · rw [if_pos (show (4 : Int32) ≤ nI i from nI_le (a := 4) x (by omega)), bd_rt, c_text_gI hC', h5, nI_1, c_text_pI hC']
          have t1 := sm_sI (x := 5) (y := 0) (z := 0) (k := 6) h7 (nI (i + 1)) (by omega)
          rw [c_text_gI (sm_C t1 hC), I_row, ud_ne (by decide), h3, nI_1, c_text_pI (sm_C t1 hC)]
          refine ⟨_, _, rfl, .inl ⟨(), by omega, rfl, by omega, h2', by rw [I_row, ud_at]; rfl, ?_, ?_, sm_sI t1 _ (by omega)⟩⟩
          · rw [I_row, ud_ne (by decide), I_row, ud_at]
          · rw [I_row, ud_ne (by decide), I_row, ud_ne (by decide), h6, show min i 4 = 4 by omega, show min (i + 1) 4 = 4 by omega]
        · rw [if_neg (show ¬ (4 : Int32) ≤ nI i from nI_ge (b := 4) (by omega) (by omega)), bd_bd, c_text_gI hC', h6, bd_bd, c_text_r0 hC', bd_bd, c_text_gI hC', h3, bd_bd, c_bytes_a hC' (by omega), hT'.1, hb, show (48 : Int32) = nI 48 from rfl, pk_sub hl.1, show (10 : Int32) = nI 10 from rfl, pk_mul, nI_add, bd_bd, c_text_pI hC', bd_rt]
          have t0 := sm_sI (x := 5) (y := 0) (z := 0) (k := 8) h7 (nI (nv u s (min i 4) * 10 + (u (s + i) - 48))) (by omega)
          have hC0 := sm_C t0 hC
          rw [c_text_gI hC0, I_row, ud_ne (by decide), h5, nI_1, c_text_pI hC0]
          have t1 := sm_sI (x := 5) (y := 0) (z := 0) (k := 6) t0 (nI (i + 1)) (by omega)
          rw [c_text_gI (sm_C t1 hC), I_row, ud_ne (by decide), I_row, ud_ne (by decide), h3, nI_1, c_text_pI (sm_C t1 hC)]
          refine ⟨_, _, rfl, .inl ⟨(), by omega, rfl, by omega, h2', by rw [I_row, ud_at]; rfl, ?_, ?_, sm_sI t1 _ (by omega)⟩⟩
          · rw [I_row, ud_ne (by decide), I_row, ud_at]
          · rw [I_row, ud_ne (by decide), I_row, ud_ne (by decide), I_row, ud_at, show min i 4 = i by omega, show min (i + 1) 4 = i + 1 by omega]
            rfl
      · rw [if_neg y, if_pos rfl]
        refine ⟨_, _, rfl, .inr ⟨(), rfl, hend ?_⟩⟩
        rw [← h2, fwd_no (fun q => y q.2)]
  · rintro _ μ' ⟨h3, h6, h8, h7⟩
    have hC' := sm_C h7 hC
    rw [c_text_gI hC', h6, ap_ite]
    by_cases z : fwd isDig u L s - s ≤ 4
    · rw [if_neg (show ¬ (4 : Int32) < nI (fwd isDig u L s - s) from Int32.not_lt.mpr (nI_le (b := 4) z (by omega))), c_text_pI hC', if_pos z]
      exact ⟨_, _, rfl, by rw [I_row, ud_ne (by decide), h3], by rw [I_row, ud_at]; rfl, by rw [I_row, ud_ne (by decide), h8], sm_sI h7 _ (by omega)⟩
    · rw [if_pos (show (4 : Int32) < nI (fwd isDig u L s - s) from nI_lt (a := 4) (by omega) (by omega)), c_text_pI hC', if_neg z]
      exact ⟨_, _, rfl, by rw [I_row, ud_ne (by decide), h3], by rw [I_row, ud_at]; rfl, by rw [I_row, ud_ne (by decide), h8], sm_sI h7 _ (by omega)⟩
/-- what the class holds of the word behind p -/
def TkC (μ : mM) (u : Nat → Nat) (L p : Nat) : Prop := m_I μ (5, 0, 0) 3 = nI (tE u L p) ∧ m_I μ (5, 0, 0) 4 = nI (tK u L p) ∧ m_I μ (5, 0, 0) 5 = nI (tS u L p) ∧ (tK u L p = 1 → m_I μ (5, 0, 0) 6 = nI (tE u L p - tS u L p) ∧ m_J μ (5, 0, 0) 7 = lN (wv u (tS u L p) (min (tE u L p - tS u L p) 8))) ∧ (tK u L p = 2 → m_I μ (5, 0, 0) 8 = nI (nv u (tS u L p) (tE u L p - tS u L p))) ∧ (tK u L p = 3 → m_I μ (5, 0, 0) 8 = nI (u (tS u L p)))
set_option maxHeartbeats 200000 in
theorem tS_le (hp : p ≤ L) : p ≤ tS u L p ∧ tS u L p ≤ L := fwd_le (pr := isBla) (u := u) (L := L) _ p rfl hp
set_option maxHeartbeats 200000 in
theorem tE_le (hp : p ≤ L) : tS u L p ≤ tE u L p ∧ tE u L p ≤ L := by
  obtain ⟨h1, h2⟩ := tS_le (u := u) hp
  unfold tE
  split
  · omega
  · split
    · exact fwd_le (pr := isLet) (u := u) (L := L) _ _ rfl h2
    · split
      · exact fwd_le (pr := isDig) (u := u) (L := L) _ _ rfl h2
      · omega
set_option maxHeartbeats 200000 in
theorem k_advance (hC : ClsP μ) (hT : TxB μ B L) (hB : Byt B u L) (hp : p ≤ L) (e3 : m_I μ (5, 0, 0) 3 = nI p) : m_e (fn_Tx_advance (some (5, 0, 0)) μ) (fun _ μ' => TkC μ' u L p ∧ sm (fun x _ _ k => x = 5 ∧ (3 ≤ k ∧ k ≤ 8)) μ μ') := by
  have hL := hB.1
  obtain ⟨hs1, hs2⟩ := tS_le (u := u) hp
  unfold fn_Tx_advance
  rw [c_text_th hC]
  refine e_bd (k_skipBlanks hC hT hB hp e3) ?_
  rintro - μ1 ⟨g3, g⟩
  have t5 := sm_sI (x := 5) (y := 0) (z := 0) (k := 5) (sm_mono (K' := fun x _ _ k => x = 5 ∧ (3 ≤ k ∧ k ≤ 8)) g (by omega)) (nI (tS u L p)) (by omega)
  have t6 := sm_sI (x := 5) (y := 0) (z := 0) (k := 6) t5 0 (by omega)
  have t7 := sm_sJ (x := 5) (y := 0) (z := 0) (k := 7) t6 0 (by omega)
  have t8 := sm_sI (x := 5) (y := 0) (z := 0) (k := 8) t7 0 (by omega)
  rw [c_text_gI (sm_C g hC), g3, c_text_pI (sm_C g hC), c_text_pI (sm_C t5 hC), c_text_pJ (sm_C t6 hC), c_text_pI (sm_C t7 hC)]
  have q3 : m_I (m_sI (m_sJ (m_sI (m_sI μ1 (5, 0, 0) 5 (nI (tS u L p))) (5, 0, 0) 6 0) (5, 0, 0) 7 0) (5, 0, 0) 8 0) (5, 0, 0) 3 = nI (tS u L p) := by
    rw [I_row, ud_ne (by decide)]
    show m_I (m_sI (m_sI μ1 (5, 0, 0) 5 (nI (tS u L p))) (5, 0, 0) 6 0) (5, 0, 0) 3 = _
    rw [I_row, ud_ne (by decide), I_row, ud_ne (by decide), g3]
  have q5 : m_I (m_sI (m_sJ (m_sI (m_sI μ1 (5, 0, 0) 5 (nI (tS u L p))) (5, 0, 0) 6 0) (5, 0, 0) 7 0) (5, 0, 0) 8 0) (5, 0, 0) 5 = nI (tS u L p) := by
    rw [I_row, ud_ne (by decide)]
    show m_I (m_sI (m_sI μ1 (5, 0, 0) 5 (nI (tS u L p))) (5, 0, 0) 6 0) (5, 0, 0) 5 = _
    rw [I_row, ud_ne (by decide), I_row, ud_at]
  have q6 : m_I (m_sI (m_sJ (m_sI (m_sI μ1 (5, 0, 0) 5 (nI (tS u L p))) (5, 0, 0) 6 0) (5, 0, 0) 7 0) (5, 0, 0) 8 0) (5, 0, 0) 6 = 0 := by
    rw [I_row, ud_ne (by decide)]
    show m_I (m_sI (m_sI μ1 (5, 0, 0) 5 (nI (tS u L p))) (5, 0, 0) 6 0) (5, 0, 0) 6 = _
    rw [I_row, ud_at]
  have q7 : m_J (m_sI (m_sJ (m_sI (m_sI μ1 (5, 0, 0) 5 (nI (tS u L p))) (5, 0, 0) 6 0) (5, 0, 0) 7 0) (5, 0, 0) 8 0) (5, 0, 0) 7 = 0 := by
    show m_J (m_sJ (m_sI (m_sI μ1 (5, 0, 0) 5 (nI (tS u L p))) (5, 0, 0) 6 0) (5, 0, 0) 7 0) (5, 0, 0) 7 = 0
    rw [J_row, ud_at]
  have q8 : m_I (m_sI (m_sJ (m_sI (m_sI μ1 (5, 0, 0) 5 (nI (tS u L p))) (5, 0, 0) 6 0) (5, 0, 0) 7 0) (5, 0, 0) 8 0) (5, 0, 0) 8 = 0 := by
    rw [I_row, ud_at]
  generalize m_sI (m_sJ (m_sI (m_sI μ1 (5, 0, 0) 5 (nI (tS u L p))) (5, 0, 0) 6 0) (5, 0, 0) 7 0) (5, 0, 0) 8 0 = μ2 at *
  have hC2 := sm_C t8 hC
  have hT2 := TxB_sm hT t8 (by omega) (by omega)
  rw [c_text_gI hC2, q5, c_text_gI hC2, hT2.2, ap_ite]
  by_cases z : L ≤ tS u L p
  · have eE : tE u L p = tS u L p := if_pos z
    have eK : tK u L p = 0 := if_pos z
    rw [if_neg (show ¬ nI (tS u L p) < nI L from Int32.not_lt.mpr (nI_le z (by omega))), c_text_pI hC2]
    refine ⟨_, _, rfl, ⟨?_, ?_, ?_, fun q => ?_, fun q => ?_, fun q => ?_⟩, sm_sI t8 _ (by omega)⟩
    · rw [I_row, ud_ne (by decide), q3, eE]
    · rw [I_row, ud_at, eK]; rfl
    · rw [I_row, ud_ne (by decide), q5]
    · rw [eK] at q; exact absurd q (by decide)
    · rw [eK] at q; exact absurd q (by decide)
    · rw [eK] at q; exact absurd q (by decide)
  · have hsL : tS u L p < L := by omega
    rw [if_pos (nI_lt hsL (by omega)), c_text_r0 hC2, c_text_gI hC2, q5, c_bytes_a hC2 (by omega), hT2.1, bd_of (k_isLetter hB hsL), ap_ite]
    by_cases y : isLet (u (tS u L p)) = true
    · have eE : tE u L p = fwd isLet u L (tS u L p) := by
        unfold tE
        rw [if_neg z, if_pos y]
      have eK : tK u L p = 1 := by
        unfold tK
        rw [if_neg z, if_pos y]
      rw [if_pos y, if_neg (by decide)]
      refine e_bd (k_scanWord hC2 hT2 hB hsL q3 q6 q7) ?_
      rintro - μ3 ⟨w3, w4, w6, w7, w⟩
      refine ⟨_, _, rfl, ⟨?_, ?_, ?_, fun q => ⟨?_, ?_⟩, fun q => ?_, fun q => ?_⟩, sm_tr t8 (sm_mono w (by omega))⟩
      · rw [w3, eE]
      · rw [w4, eK]; rfl
      · rw [sm_I w (by omega), q5]
      · rw [w6, eE]
      · rw [w7, eE]
      · rw [eK] at q; exact absurd q (by decide)
      · rw [eK] at q; exact absurd q (by decide)
    · rw [if_neg y, if_pos rfl, c_text_r0 hC2, c_text_gI hC2, q5, c_bytes_a hC2 (by omega), hT2.1, bd_of (k_isDigit hB hsL), ap_ite]
      by_cases x : isDig (u (tS u L p)) = true
      · have eE : tE u L p = fwd isDig u L (tS u L p) := by
          unfold tE
          rw [if_neg z, if_neg y, if_pos x]
        have eK : tK u L p = if fwd isDig u L (tS u L p) - tS u L p ≤ 4 then 2 else 4 := by
          unfold tK
          rw [if_neg z, if_neg y, if_pos x, eE]
        rw [if_pos x, if_neg (by decide)]
        refine e_bd (k_scanNumber hC2 hT2 hB hsL q3 q6 q8) ?_
        rintro - μ3 ⟨w3, w4, w8, w⟩
        refine ⟨_, _, rfl, ⟨?_, ?_, ?_, fun q => ?_, fun q => ?_, fun q => ?_⟩, sm_tr t8 (sm_mono w (by omega))⟩
        · rw [w3, eE]
        · rw [w4, eK]
        · rw [sm_I w (by omega), q5]
        · rw [eK] at q
          split at q <;> exact absurd q (by decide)
        · rw [eK] at q
          by_cases v : fwd isDig u L (tS u L p) - tS u L p ≤ 4
          · rw [w8, eE, show min (fwd isDig u L (tS u L p) - tS u L p) 4 = fwd isDig u L (tS u L p) - tS u L p by omega]
          · rw [if_neg v] at q
            exact absurd q (by decide)
        · rw [eK] at q
          split at q <;> exact absurd q (by decide)
      · have eE : tE u L p = tS u L p + 1 := by
          unfold tE
          rw [if_neg z, if_neg y, if_neg x]
        have eK : tK u L p = if isSig (u (tS u L p)) = true then 3 else 4 := by
          unfold tK
          rw [if_neg z, if_neg y, if_neg x]
        have w8 := sm_sI (x := 5) (y := 0) (z := 0) (k := 8) t8 (B (tS u L p)) (by omega)
        have hC3 := sm_C w8 hC
        have e8 : m_I (m_sI μ2 (5, 0, 0) 8 (B (tS u L p))) (5, 0, 0) 8 = B (tS u L p) := by rw [I_row, ud_at]
        have v59 : (B (tS u L p) = 59) = (u (tS u L p) = 59) := byt_eq (v := 59) hB hsL (by omega)
        have v60 : (B (tS u L p) = 60) = (u (tS u L p) = 60) := byt_eq (v := 60) hB hsL (by omega)
        have v62 : (B (tS u L p) = 62) = (u (tS u L p) = 62) := byt_eq (v := 62) hB hsL (by omega)
        have v61 : (B (tS u L p) = 61) = (u (tS u L p) = 61) := byt_eq (v := 61) hB hsL (by omega)
        have hsig : m_e (m_bd (m_rt (α := Int32) (if isSig (u (tS u L p)) = true then 3 else 4)) (fun (t19 : Int32) => m_bd (m_pI 2 4 (some (5, 0, 0)) t19) fun _ => m_bd (m_gI 2 5 (some (5, 0, 0))) fun v20 => m_bd (m_pI 2 3 (some (5, 0, 0)) (v20 + 1)) fun _ => m_rt ()) (m_sI μ2 (5, 0, 0) 8 (B (tS u L p)))) (fun _ μ' => TkC μ' u L p ∧ sm (fun x _ _ k => x = 5 ∧ (3 ≤ k ∧ k ≤ 8)) μ μ') := by
          have w4 := sm_sI (x := 5) (y := 0) (z := 0) (k := 4) w8 (if isSig (u (tS u L p)) = true then (3 : Int32) else 4) (by omega)
          rw [bd_rt, c_text_pI hC3, c_text_gI (sm_C w4 hC), I_row, ud_ne (by decide), I_row, ud_ne (by decide), q5, nI_1, c_text_pI (sm_C w4 hC)]
          refine ⟨_, _, rfl, ⟨?_, ?_, ?_, fun q => ?_, fun q => ?_, fun q => ?_⟩, sm_sI w4 _ (by omega)⟩
          · rw [I_row, ud_at, eE]
          · rw [I_row, ud_ne (by decide), I_row, ud_at, eK]
            split <;> rfl
          · rw [I_row, ud_ne (by decide), I_row, ud_ne (by decide), I_row, ud_ne (by decide), q5]
          · rw [eK] at q
            split at q <;> exact absurd q (by decide)
          · rw [eK] at q
            split at q <;> exact absurd q (by decide)
          · rw [eK] at q
            have hs : isSig (u (tS u L p)) = true := by
              by_cases v : isSig (u (tS u L p)) = true
              · exact v
              · rw [if_neg v] at q
                exact absurd q (by decide)
            rw [I_row, ud_ne (by decide), I_row, ud_ne (by decide), e8]
            refine (hB.2 _ hsL).2.2.1 ?_
            unfold isSig at hs
            simp at hs
            omega
        rw [if_neg x, if_pos rfl, c_text_r0 hC2, c_text_gI hC2, q5, c_bytes_a hC2 (by omega), hT2.1, c_text_pI hC2, c_text_gI hC3, e8, bd_ite]
        by_cases a1 : u (tS u L p) = 59
        · have hs : isSig (u (tS u L p)) = true := by unfold isSig; simp [a1]
          rw [if_pos hs] at hsig
          rw [if_pos (by rw [v59]; exact a1)]
          exact hsig
        · rw [if_neg (by rw [v59]; exact a1), bd_bd, c_text_gI hC3, e8, bd_ite]
          by_cases a2 : u (tS u L p) = 60
          · have hs : isSig (u (tS u L p)) = true := by unfold isSig; simp [a2]
            rw [if_pos hs] at hsig
            rw [if_pos (by rw [v60]; exact a2)]
            exact hsig
          · rw [if_neg (by rw [v60]; exact a2), bd_bd, c_text_gI hC3, e8, bd_ite]
            by_cases a3 : u (tS u L p) = 62
            · have hs : isSig (u (tS u L p)) = true := by unfold isSig; simp [a3]
              rw [if_pos hs] at hsig
              rw [if_pos (by rw [v62]; exact a3)]
              exact hsig
            · rw [if_neg (by rw [v62]; exact a3), bd_bd, c_text_gI hC3, e8, bd_ite]
              by_cases a4 : u (tS u L p) = 61
              · have hs : isSig (u (tS u L p)) = true := by unfold isSig; simp [a4]
                rw [if_pos hs] at hsig
                rw [if_pos (by rw [v61]; exact a4)]
                exact hsig
              · have hs : ¬ isSig (u (tS u L p)) = true := by unfold isSig; simp [a1, a2, a3, a4]
                rw [if_neg hs] at hsig
                rw [if_neg (by rw [v61]; exact a4)]
                exact hsig
end LY
