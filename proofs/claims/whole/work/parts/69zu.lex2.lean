/-! Part 69zu: the reference's next word, number, sign -/
section RX
variable {ν : mM} {B : Nat → Int32} {u : Nat → Nat} {L p : Nat}
def RxB (ν : mM) (B : Nat → Int32) (L : Nat) : Prop := m_I ν (44, 0, 0) = B ∧ m_I ν (40, 0, 0) 9 = nI L
set_option maxHeartbeats 200000 in
theorem RxB_sm {K : Nat → Nat → Nat → Nat → Prop} {ν' : mM} (h : RxB ν B L) (hs : sm K ν ν') (h1 : ∀ k, ¬ K 44 0 0 k) (h2 : ¬ K 40 0 0 9) : RxB ν' B L := ⟨by rw [sm_Ir hs h1, h.1], by rw [sm_I hs h2, h.2]⟩
set_option maxHeartbeats 200000 in
theorem r_look (hR : RefP ν) (hT : RxB ν B L) (hB : Byt B u L) {k : Nat} (hk : k < L) : fn_M_look2 (some (40, 0, 0)) (nI k) ν = some (nI (u k), ν) := by
  have hL := hB.1
  unfold fn_M_look2
  rw [r_th hR, r_gI hR, hT.2, ap_ite, if_neg (nI_ge hk (by omega)), r_g44 hR, r_a44 hR (by omega), hT.1, (hB.2 k hk).2.1]
  rfl
set_option maxHeartbeats 200000 in
theorem r_look0 (hR : RefP ν) (hT : RxB ν B L) {k : Nat} (hk : L ≤ k) (hk2 : k < 2000) : fn_M_look2 (some (40, 0, 0)) (nI k) ν = some (0, ν) := by
  unfold fn_M_look2
  rw [r_th hR, r_gI hR, hT.2, ap_ite, if_pos (nI_le hk (by omega))]
  rfl
set_option maxHeartbeats 200000 in
theorem r_isLetter {n : Nat} (hn : n < 256) : fn_M_isLetter (nI n) ν = some (if isLet n = true then 1 else 0, ν) := by
  unfold fn_M_isLetter isLet
  rw [ap_ite, ap_ite]
  by_cases y : 97 ≤ n
  · by_cases x : n ≤ 122
    · rw [if_neg (show ¬ nI n < 97 from Int32.not_lt.mpr (nI_le (a := 97) y (by omega))), if_neg (show ¬ 122 < nI n from Int32.not_lt.mpr (nI_le (b := 122) x (by omega))), if_pos (by simp [y, x])]
      rfl
    · rw [if_neg (show ¬ nI n < 97 from Int32.not_lt.mpr (nI_le (a := 97) y (by omega))), if_pos (show 122 < nI n from nI_lt (a := 122) (by omega) (by omega)), if_neg (by simp [x])]
      rfl
  · rw [if_pos (show nI n < 97 from nI_lt (b := 97) (by omega) (by omega)), if_neg (by simp [y])]
    rfl
set_option maxHeartbeats 200000 in
theorem r_isDigit {n : Nat} (hn : n < 256) : fn_M_isDigit (nI n) ν = some (if isDig n = true then 1 else 0, ν) := by
  unfold fn_M_isDigit isDig
  rw [ap_ite, ap_ite]
  by_cases y : 48 ≤ n
  · by_cases x : n ≤ 57
    · rw [if_neg (show ¬ nI n < 48 from Int32.not_lt.mpr (nI_le (a := 48) y (by omega))), if_neg (show ¬ 57 < nI n from Int32.not_lt.mpr (nI_le (b := 57) x (by omega))), if_pos (by simp [y, x])]
      rfl
    · rw [if_neg (show ¬ nI n < 48 from Int32.not_lt.mpr (nI_le (a := 48) y (by omega))), if_pos (show 57 < nI n from nI_lt (a := 57) (by omega) (by omega)), if_neg (by simp [x])]
      rfl
  · rw [if_pos (show nI n < 48 from nI_lt (b := 48) (by omega) (by omega)), if_neg (by simp [y])]
    rfl
set_option maxHeartbeats 200000 in
theorem r_blanks (hR : RefP ν) (hT : RxB ν B L) (hB : Byt B u L) (hp : p ≤ L) (e3 : m_I ν (40, 0, 0) 15 = nI p) : m_e (m_lp (fn_M_advance_l8 (some (40, 0, 0))) m_F () ν) (fun _ ν' => m_I ν' (40, 0, 0) 15 = nI (tS u L p) ∧ sm (fun x _ _ k => x = 40 ∧ k = 15) ν ν') := by
  have hL := hB.1
  refine e_brk (fun i _ ν' => p + i ≤ L ∧ fwd isBla u L (p + i) = tS u L p ∧ m_I ν' (40, 0, 0) 15 = nI (p + i) ∧ sm (fun x _ _ k => x = 40 ∧ k = 15) ν ν') (L - p) ?_ ⟨hp, rfl, e3, sm_rf⟩ (by omega)
  rintro i _ ν' hi ⟨h1, h2, h3, h4⟩
  have hR' := sm_R h4 hR
  have hT' := RxB_sm hT h4 (by omega) (by omega)
  unfold fn_M_advance_l8
  rw [r_gI hR', h3, r_gI hR', hT'.2, ap_ite]
  by_cases z : L ≤ p + i
  · rw [if_pos (nI_le z (by omega))]
    refine ⟨_, _, rfl, .inr ⟨(), rfl, ?_, h4⟩⟩
    rw [h3, ← h2, fwd_no (fun q => by omega)]
  · have hu := (hB.2 (p + i) (by omega)).1
    have hl := r_look hR' hT' hB (k := p + i) (by omega)
    rw [if_neg (nI_ge (by omega) (by omega)), r_gI hR', h3, bd_of hl, ap_ite]
    have e10 : (nI (u (p + i)) = 10) = (u (p + i) = 10) := propext (nI_eq (b := 10) (by omega) (by omega))
    have e32 : (nI (u (p + i)) = 32) = (u (p + i) = 32) := propext (nI_eq (b := 32) (by omega) (by omega))
    by_cases y : u (p + i) = 10
    · rw [if_pos (by rw [e10]; exact y), r_gI hR', h3, nI_1, r_pI hR']
      refine ⟨_, _, rfl, .inl ⟨(), by omega, rfl, by omega, ?_, by rw [I_row, ud_at]; rfl, sm_sI h4 _ ⟨rfl, rfl⟩⟩⟩
      rw [← h2, fwd_go (p := p + i) (by omega) (by unfold isBla; simp [y])]
      rfl
    · rw [if_neg (by rw [e10]; exact y), r_gI hR', h3, bd_of hl, ap_ite]
      by_cases x : u (p + i) = 32
      · rw [if_pos (by rw [e32]; exact x), r_gI hR', h3, nI_1, r_pI hR']
        refine ⟨_, _, rfl, .inl ⟨(), by omega, rfl, by omega, ?_, by rw [I_row, ud_at]; rfl, sm_sI h4 _ ⟨rfl, rfl⟩⟩⟩
        rw [← h2, fwd_go (p := p + i) (by omega) (by unfold isBla; simp [x])]
        rfl
      · rw [if_neg (by rw [e32]; exact x)]
        refine ⟨_, _, rfl, .inr ⟨(), rfl, ?_, h4⟩⟩
        rw [h3, ← h2, fwd_no (fun q => by
          have := q.2
          unfold isBla at this
          simp [y, x] at this)]
set_option maxHeartbeats 200000 in
theorem r_words (hR : RefP ν) (hT : RxB ν B L) (hB : Byt B u L) {s : Nat} (hs : s < L) (e15 : m_I ν (40, 0, 0) 15 = nI s) (e16 : m_I ν (40, 0, 0) 16 = nI s) (e19 : m_J ν (40, 0, 0) 19 = 0) : m_e (m_lp (fn_M_advance_l109 (some (40, 0, 0))) m_F () ν) (fun _ ν' => m_I ν' (40, 0, 0) 16 = nI (fwd isLet u L s) ∧ m_J ν' (40, 0, 0) 19 = (if fwd isLet u L s - s ≤ 8 then lN (wv u s (fwd isLet u L s - s)) else -1) ∧ sm (fun x _ _ k => x = 40 ∧ (k = 16 ∨ k = 19)) ν ν') := by
  have hL := hB.1
  refine e_brk (fun i _ ν' => s + i ≤ L ∧ fwd isLet u L (s + i) = fwd isLet u L s ∧ m_I ν' (40, 0, 0) 16 = nI (s + i) ∧ m_J ν' (40, 0, 0) 19 = (if i ≤ 8 then lN (wv u s i) else -1) ∧ sm (fun x _ _ k => x = 40 ∧ (k = 16 ∨ k = 19)) ν ν') (L - s) ?_ ⟨by omega, rfl, e16, e19, sm_rf⟩ (by omega)
  rintro i _ ν' hi ⟨h1, h2, h3, h6, h7⟩
  have hR' := sm_R h7 hR
  have hT' := RxB_sm hT h7 (by omega) (by omega)
  have h15 : m_I ν' (40, 0, 0) 15 = nI s := by rw [sm_I h7 (by omega), e15]
  have hend : fwd isLet u L s = s + i → m_I ν' (40, 0, 0) 16 = nI (fwd isLet u L s) ∧ m_J ν' (40, 0, 0) 19 = (if fwd isLet u L s - s ≤ 8 then lN (wv u s (fwd isLet u L s - s)) else -1) ∧ sm (fun x _ _ k => x = 40 ∧ (k = 16 ∨ k = 19)) ν ν' := by
    intro q
    rw [q, Nat.add_sub_cancel_left]
    exact ⟨h3, h6, h7⟩
  unfold fn_M_advance_l109
  by_cases z : L ≤ s + i
  · rw [r_gI hR', h3, bd_of (r_look0 hR' hT' z (by omega)), bd_of (show fn_M_isLetter 0 ν' = some (0, ν') from r_isLetter (n := 0) (by omega)), ap_ite, if_pos rfl]
    refine ⟨_, _, rfl, .inr ⟨(), rfl, hend ?_⟩⟩
    rw [← h2, fwd_no (fun q => by omega)]
  · have hu := (hB.2 (s + i) (by omega)).1
    have hl := r_look hR' hT' hB (k := s + i) (by omega)
    rw [r_gI hR', h3, bd_of hl, bd_of (r_isLetter hu), ap_ite]
    by_cases y : isLet (u (s + i)) = true
    · have hl2 : 97 ≤ u (s + i) ∧ u (s + i) ≤ 122 := by
        unfold isLet at y
        simp at y
        exact y
      have h2' : fwd isLet u L (s + (i + 1)) = fwd isLet u L s := by
        rw [← h2, fwd_go (p := s + i) (by omega) y]
        rfl
      rw [if_pos y, if_neg (by decide), r_gI hR', h3, r_gI hR', h15, pk_sub (by omega), Nat.add_sub_cancel_left, bd_ite]
      by_cases x : 8 ≤ i
      · rw [if_pos (show (8 : Int32) ≤ nI i from nI_le (a := 8) x (by omega)), bd_rt, r_pJ hR']
        have t1 := sm_sJ (x := 40) (y := 0) (z := 0) (k := 19) h7 (-1) (by omega)
        rw [r_gI (sm_R t1 hR), show m_I (m_sJ ν' (40, 0, 0) 19 (-1)) (40, 0, 0) 16 = nI (s + i) from h3, nI_1, r_pI (sm_R t1 hR)]
        refine ⟨_, _, rfl, .inl ⟨(), by omega, rfl, by omega, h2', by rw [I_row, ud_at]; rfl, ?_, sm_sI t1 _ (by omega)⟩⟩
        show m_J (m_sJ ν' (40, 0, 0) 19 (-1)) (40, 0, 0) 19 = _
        rw [J_row, ud_at, if_neg (by omega)]
      · rw [if_neg (show ¬ (8 : Int32) ≤ nI i from nI_ge (b := 8) (by omega) (by omega)), bd_bd, r_gJ hR', h6, if_pos (by omega), bd_bd, r_gI hR', h3, bd_bd, bd_of hl, nI_l (by omega), show (32 : Int64) = lN 32 from rfl, show (96 : Int64) = lN 96 from rfl, lN_mul, lN_add, lN_sub (by omega), bd_rt, r_pJ hR']
        have t1 := sm_sJ (x := 40) (y := 0) (z := 0) (k := 19) h7 (lN (wv u s i * 32 + u (s + i) - 96)) (by omega)
        rw [r_gI (sm_R t1 hR), show m_I (m_sJ ν' (40, 0, 0) 19 (lN (wv u s i * 32 + u (s + i) - 96))) (40, 0, 0) 16 = nI (s + i) from h3, nI_1, r_pI (sm_R t1 hR)]
        refine ⟨_, _, rfl, .inl ⟨(), by omega, rfl, by omega, h2', by rw [I_row, ud_at]; rfl, ?_, sm_sI t1 _ (by omega)⟩⟩
        show m_J (m_sJ ν' (40, 0, 0) 19 _) (40, 0, 0) 19 = _
        rw [J_row, ud_at, if_pos (by omega)]
        refine congrArg lN ?_
        show _ = wv u s i * 32 + (u (s + i) - 96)
        omega
    · rw [if_neg y, if_pos rfl]
      refine ⟨_, _, rfl, .inr ⟨(), rfl, hend ?_⟩⟩
      rw [← h2, fwd_no (fun q => y q.2)]
set_option maxHeartbeats 200000 in
theorem r_nums (hR : RefP ν) (hT : RxB ν B L) (hB : Byt B u L) {s : Nat} (hs : s < L) (e15 : m_I ν (40, 0, 0) 15 = nI s) (e16 : m_I ν (40, 0, 0) 16 = nI s) (e17 : m_I ν (40, 0, 0) 17 = 0) : m_e (m_lp (fn_M_advance_l210 (some (40, 0, 0))) m_F () ν) (fun _ ν' => m_I ν' (40, 0, 0) 16 = nI (fwd isDig u L s) ∧ m_I ν' (40, 0, 0) 17 = nI (nv u s (min (fwd isDig u L s - s) 4)) ∧ sm (fun x _ _ k => x = 40 ∧ (k = 16 ∨ k = 17)) ν ν') := by
  have hL := hB.1
  refine e_brk (fun i _ ν' => s + i ≤ L ∧ fwd isDig u L (s + i) = fwd isDig u L s ∧ m_I ν' (40, 0, 0) 16 = nI (s + i) ∧ m_I ν' (40, 0, 0) 17 = nI (nv u s (min i 4)) ∧ sm (fun x _ _ k => x = 40 ∧ (k = 16 ∨ k = 17)) ν ν') (L - s) ?_ ⟨by omega, rfl, e16, e17, sm_rf⟩ (by omega)
  rintro i _ ν' hi ⟨h1, h2, h3, h6, h7⟩
  have hR' := sm_R h7 hR
  have hT' := RxB_sm hT h7 (by omega) (by omega)
  have h15 : m_I ν' (40, 0, 0) 15 = nI s := by rw [sm_I h7 (by omega), e15]
  have hend : fwd isDig u L s = s + i → m_I ν' (40, 0, 0) 16 = nI (fwd isDig u L s) ∧ m_I ν' (40, 0, 0) 17 = nI (nv u s (min (fwd isDig u L s - s) 4)) ∧ sm (fun x _ _ k => x = 40 ∧ (k = 16 ∨ k = 17)) ν ν' := by
    intro q
    rw [q, Nat.add_sub_cancel_left]
    exact ⟨h3, h6, h7⟩
  unfold fn_M_advance_l210
  by_cases z : L ≤ s + i
  · rw [r_gI hR', h3, bd_of (r_look0 hR' hT' z (by omega)), bd_of (show fn_M_isDigit 0 ν' = some (0, ν') from r_isDigit (n := 0) (by omega)), ap_ite, if_pos rfl]
    refine ⟨_, _, rfl, .inr ⟨(), rfl, hend ?_⟩⟩
    rw [← h2, fwd_no (fun q => by omega)]
  · have hu := (hB.2 (s + i) (by omega)).1
    have hl := r_look hR' hT' hB (k := s + i) (by omega)
    rw [r_gI hR', h3, bd_of hl, bd_of (r_isDigit hu), ap_ite]
    by_cases y : isDig (u (s + i)) = true
    · have hl2 : 48 ≤ u (s + i) ∧ u (s + i) ≤ 57 := by
        unfold isDig at y
        simp at y
        exact y
      have h2' : fwd isDig u L (s + (i + 1)) = fwd isDig u L s := by
        rw [← h2, fwd_go (p := s + i) (by omega) y]
        rfl
      rw [if_pos y, if_neg (by decide), r_gI hR', h3, r_gI hR', h15, pk_sub (by omega), Nat.add_sub_cancel_left, bd_ite]
      by_cases x : 4 ≤ i
      · rw [if_pos (show (4 : Int32) ≤ nI i from nI_le (a := 4) x (by omega)), bd_rt, r_gI hR', h3, nI_1, r_pI hR']
        refine ⟨_, _, rfl, .inl ⟨(), by omega, rfl, by omega, h2', by rw [I_row, ud_at]; rfl, ?_, sm_sI h7 _ (by omega)⟩⟩
        rw [I_row, ud_ne (by decide), h6, show min i 4 = 4 by omega, show min (i + 1) 4 = 4 by omega]
      · rw [if_neg (show ¬ (4 : Int32) ≤ nI i from nI_ge (b := 4) (by omega) (by omega)), bd_bd, r_gI hR', h6, bd_bd, r_gI hR', h3, bd_bd, bd_of hl, show (10 : Int32) = nI 10 from rfl, show (48 : Int32) = nI 48 from rfl, pk_mul, nI_add, pk_sub (by omega), bd_bd, r_pI hR', bd_rt]
        have t1 := sm_sI (x := 40) (y := 0) (z := 0) (k := 17) h7 (nI (10 * nv u s (min i 4) + u (s + i) - 48)) (by omega)
        rw [r_gI (sm_R t1 hR), I_row, ud_ne (by decide), h3, nI_1, r_pI (sm_R t1 hR)]
        refine ⟨_, _, rfl, .inl ⟨(), by omega, rfl, by omega, h2', by rw [I_row, ud_at]; rfl, ?_, sm_sI t1 _ (by omega)⟩⟩
        rw [I_row, ud_ne (by decide), I_row, ud_at, show min i 4 = i by omega, show min (i + 1) 4 = i + 1 by omega]
        refine congrArg nI ?_
        show _ = nv u s i * 10 + (u (s + i) - 48)
        omega
    · rw [if_neg y, if_pos rfl]
      refine ⟨_, _, rfl, .inr ⟨(), rfl, hend ?_⟩⟩
      rw [← h2, fwd_no (fun q => y q.2)]
/-- what the reference holds of the word behind p -/
def TkR (ν : mM) (u : Nat → Nat) (L p : Nat) : Prop := m_I ν (40, 0, 0) 16 = nI (tE u L p) ∧ m_I ν (40, 0, 0) 14 = nI (tK u L p) ∧ m_I ν (40, 0, 0) 15 = nI (tS u L p) ∧ (tK u L p = 1 → m_I ν (40, 0, 0) 18 = nI (tE u L p - tS u L p) ∧ m_J ν (40, 0, 0) 19 = (if tE u L p - tS u L p ≤ 8 then lN (wv u (tS u L p) (tE u L p - tS u L p)) else -1)) ∧ (tK u L p = 2 → m_I ν (40, 0, 0) 17 = nI (nv u (tS u L p) (tE u L p - tS u L p))) ∧ (tK u L p = 3 → m_I ν (40, 0, 0) 17 = nI (u (tS u L p)))
set_option maxHeartbeats 200000 in
theorem r_advance (hR : RefP ν) (hT : RxB ν B L) (hB : Byt B u L) (hp : p ≤ L) (e16 : m_I ν (40, 0, 0) 16 = nI p) : m_e (fn_M_advance (some (40, 0, 0)) ν) (fun _ ν' => TkR ν' u L p ∧ sm (fun x _ _ k => x = 40 ∧ (14 ≤ k ∧ k ≤ 19)) ν ν') := by
  have hL := hB.1
  obtain ⟨hs1, hs2⟩ := tS_le (u := u) hp
  have t0 : sm (fun x _ _ k => x = 40 ∧ (14 ≤ k ∧ k ≤ 19)) ν (m_sI ν (40, 0, 0) 15 (nI p)) := sm_sI sm_rf _ (by omega)
  unfold fn_M_advance
  rw [r_th hR, r_gI hR, e16, r_pI hR]
  refine e_bd (r_blanks (sm_R t0 hR) (RxB_sm hT t0 (by omega) (by omega)) hB hp (by rw [I_row, ud_at])) ?_
  rintro - ν1 ⟨g15, g⟩
  have t1 := sm_tr t0 (sm_mono g (by omega))
  have hR1 := sm_R t1 hR
  have t2 := sm_sI (x := 40) (y := 0) (z := 0) (k := 16) t1 (nI (tS u L p)) (by omega)
  have q16 : m_I (m_sI ν1 (40, 0, 0) 16 (nI (tS u L p))) (40, 0, 0) 16 = nI (tS u L p) := by rw [I_row, ud_at]
  have q15 : m_I (m_sI ν1 (40, 0, 0) 16 (nI (tS u L p))) (40, 0, 0) 15 = nI (tS u L p) := by rw [I_row, ud_ne (by decide), g15]
  rw [r_gI hR1, g15, r_pI hR1]
  generalize m_sI ν1 (40, 0, 0) 16 (nI (tS u L p)) = ν2 at *
  have hR2 := sm_R t2 hR
  have hT2 := RxB_sm hT t2 (by omega) (by omega)
  rw [r_gI hR2, q15, r_gI hR2, hT2.2, ap_ite]
  by_cases z : L ≤ tS u L p
  · have eE : tE u L p = tS u L p := if_pos z
    have eK : tK u L p = 0 := if_pos z
    rw [if_neg (show ¬ nI (tS u L p) < nI L from Int32.not_lt.mpr (nI_le z (by omega))), r_pI hR2]
    refine ⟨_, _, rfl, ⟨?_, ?_, ?_, fun q => ?_, fun q => ?_, fun q => ?_⟩, sm_sI t2 _ (by omega)⟩
    · rw [I_row, ud_ne (by decide), q16, eE]
    · rw [I_row, ud_at, eK]; rfl
    · rw [I_row, ud_ne (by decide), q15]
    · rw [eK] at q; exact absurd q (by decide)
    · rw [eK] at q; exact absurd q (by decide)
    · rw [eK] at q; exact absurd q (by decide)
  · have hsL : tS u L p < L := by omega
    have hu := (hB.2 _ hsL).1
    rw [if_pos (nI_lt hsL (by omega)), r_gI hR2, q15, bd_of (r_look hR2 hT2 hB hsL), bd_of (r_isLetter hu), ap_ite]
    by_cases y : isLet (u (tS u L p)) = true
    · have eE : tE u L p = fwd isLet u L (tS u L p) := by
        unfold tE
        rw [if_neg z, if_pos y]
      have eK : tK u L p = 1 := by
        unfold tK
        rw [if_neg z, if_pos y]
      obtain ⟨hf1, hf2⟩ := fwd_le (pr := isLet) (u := u) (L := L) _ _ rfl hs2
      have t3 := sm_sI (x := 40) (y := 0) (z := 0) (k := 14) t2 1 (by omega)
      have t4 := sm_sJ (x := 40) (y := 0) (z := 0) (k := 19) t3 0 (by omega)
      rw [if_pos y, if_neg (by decide), r_pI hR2, r_pJ (sm_R t3 hR)]
      refine e_bd (r_words (sm_R t4 hR) (RxB_sm hT t4 (by omega) (by omega)) hB hsL ?_ ?_ ?_) ?_
      · show m_I (m_sI ν2 (40, 0, 0) 14 1) (40, 0, 0) 15 = _
        rw [I_row, ud_ne (by decide), q15]
      · show m_I (m_sI ν2 (40, 0, 0) 14 1) (40, 0, 0) 16 = _
        rw [I_row, ud_ne (by decide), q16]
      · rw [J_row, ud_at]
      · rintro - ν3 ⟨w16, w19, w⟩
        have t5 := sm_tr t4 (sm_mono w (by omega))
        have hR3 := sm_R t5 hR
        have w15 : m_I ν3 (40, 0, 0) 15 = nI (tS u L p) := by
          rw [sm_I w (by omega)]
          show m_I (m_sI ν2 (40, 0, 0) 14 1) (40, 0, 0) 15 = _
          rw [I_row, ud_ne (by decide), q15]
        have w14 : m_I ν3 (40, 0, 0) 14 = 1 := by
          rw [sm_I w (by omega)]
          show m_I (m_sI ν2 (40, 0, 0) 14 1) (40, 0, 0) 14 = _
          rw [I_row, ud_at]
        rw [r_gI hR3, w16, r_gI hR3, w15, pk_sub hf1, r_pI hR3]
        refine ⟨_, _, rfl, ⟨?_, ?_, ?_, fun q => ⟨?_, ?_⟩, fun q => ?_, fun q => ?_⟩, sm_sI t5 _ (by omega)⟩
        · rw [I_row, ud_ne (by decide), w16, eE]
        · rw [I_row, ud_ne (by decide), w14, eK]; rfl
        · rw [I_row, ud_ne (by decide), w15]
        · rw [I_row, ud_at, eE]
        · show m_J ν3 (40, 0, 0) 19 = _
          rw [w19, eE]
        · rw [eK] at q; exact absurd q (by decide)
        · rw [eK] at q; exact absurd q (by decide)
    · rw [if_neg y, if_pos rfl, bd_of (r_isDigit hu), ap_ite]
      by_cases x : isDig (u (tS u L p)) = true
      · have eE : tE u L p = fwd isDig u L (tS u L p) := by
          unfold tE
          rw [if_neg z, if_neg y, if_pos x]
        have eK : tK u L p = if fwd isDig u L (tS u L p) - tS u L p ≤ 4 then 2 else 4 := by
          unfold tK
          rw [if_neg z, if_neg y, if_pos x, eE]
        obtain ⟨hf1, hf2⟩ := fwd_le (pr := isDig) (u := u) (L := L) _ _ rfl hs2
        have t3 := sm_sI (x := 40) (y := 0) (z := 0) (k := 17) t2 0 (by omega)
        rw [if_pos x, if_neg (by decide), r_pI hR2]
        refine e_bd (r_nums (sm_R t3 hR) (RxB_sm hT t3 (by omega) (by omega)) hB hsL ?_ ?_ ?_) ?_
        · rw [I_row, ud_ne (by decide), q15]
        · rw [I_row, ud_ne (by decide), q16]
        · rw [I_row, ud_at]
        · rintro - ν3 ⟨w16, w17, w⟩
          have t5 := sm_tr t3 (sm_mono w (by omega))
          have hR3 := sm_R t5 hR
          have w15 : m_I ν3 (40, 0, 0) 15 = nI (tS u L p) := by rw [sm_I w (by omega), I_row, ud_ne (by decide), q15]
          rw [r_gI hR3, w16, r_gI hR3, w15, pk_sub hf1, ap_ite]
          by_cases v : fwd isDig u L (tS u L p) - tS u L p ≤ 4
          · rw [if_pos v] at eK
            rw [if_pos (show nI (fwd isDig u L (tS u L p) - tS u L p) ≤ 4 from nI_le (b := 4) v (by omega)), r_pI hR3]
            refine ⟨_, _, rfl, ⟨?_, ?_, ?_, fun q => ?_, fun q => ?_, fun q => ?_⟩, sm_sI t5 _ (by omega)⟩
            · rw [I_row, ud_ne (by decide), w16, eE]
            · rw [I_row, ud_at, eK]; rfl
            · rw [I_row, ud_ne (by decide), w15]
            · rw [eK] at q; exact absurd q (by decide)
            · rw [I_row, ud_ne (by decide), w17, eE, show min (fwd isDig u L (tS u L p) - tS u L p) 4 = fwd isDig u L (tS u L p) - tS u L p by omega]
            · rw [eK] at q; exact absurd q (by decide)
          · rw [if_neg v] at eK
            rw [if_neg (show ¬ nI (fwd isDig u L (tS u L p) - tS u L p) ≤ 4 from nI_ge (a := 4) (by omega) (by omega)), r_pI hR3]
            refine ⟨_, _, rfl, ⟨?_, ?_, ?_, fun q => ?_, fun q => ?_, fun q => ?_⟩, sm_sI t5 _ (by omega)⟩
            · rw [I_row, ud_ne (by decide), w16, eE]
            · rw [I_row, ud_at, eK]; rfl
            · rw [I_row, ud_ne (by decide), w15]
            · rw [eK] at q; exact absurd q (by decide)
            · rw [eK] at q; exact absurd q (by decide)
            · rw [eK] at q; exact absurd q (by decide)
      · have eE : tE u L p = tS u L p + 1 := by
          unfold tE
          rw [if_neg z, if_neg y, if_neg x]
        have eK : tK u L p = if isSig (u (tS u L p)) = true then 3 else 4 := by
          unfold tK
          rw [if_neg z, if_neg y, if_neg x]
        have t3 := sm_sI (x := 40) (y := 0) (z := 0) (k := 16) t2 (nI (tS u L p + 1)) (by omega)
        have t4 := sm_sI (x := 40) (y := 0) (z := 0) (k := 17) t3 (nI (u (tS u L p))) (by omega)
        have hR4 := sm_R t4 hR
        have v59 : (nI (u (tS u L p)) = 59) = (u (tS u L p) = 59) := propext (nI_eq (b := 59) (by omega) (by omega))
        have v60 : (nI (u (tS u L p)) = 60) = (u (tS u L p) = 60) := propext (nI_eq (b := 60) (by omega) (by omega))
        have v62 : (nI (u (tS u L p)) = 62) = (u (tS u L p) = 62) := propext (nI_eq (b := 62) (by omega) (by omega))
        have v61 : (nI (u (tS u L p)) = 61) = (u (tS u L p) = 61) := propext (nI_eq (b := 61) (by omega) (by omega))
        have hsb : ∀ (ν4 : mM), RefP ν4 → fn_M_isSignByte (some (40, 0, 0)) (nI (u (tS u L p))) ν4 = some (if isSig (u (tS u L p)) = true then 1 else 0, ν4) := by
          intro ν4 hR4
          unfold fn_M_isSignByte isSig
          rw [r_th hR4, ap_ite]
          by_cases a1 : u (tS u L p) = 59
          · rw [if_pos (by rw [v59]; exact a1), if_pos (by simp [a1])]
            rfl
          · rw [if_neg (by rw [v59]; exact a1), ap_ite]
            by_cases a2 : u (tS u L p) = 60
            · rw [if_pos (by rw [v60]; exact a2), if_pos (by simp [a2])]
              rfl
            · rw [if_neg (by rw [v60]; exact a2), ap_ite]
              by_cases a3 : u (tS u L p) = 62
              · rw [if_pos (by rw [v62]; exact a3), if_pos (by simp [a3])]
                rfl
              · rw [if_neg (by rw [v62]; exact a3), ap_ite]
                by_cases a4 : u (tS u L p) = 61
                · rw [if_pos (by rw [v61]; exact a4), if_pos (by simp [a4])]
                  rfl
                · rw [if_neg (by rw [v61]; exact a4), if_neg (by simp [a1, a2, a3, a4])]
                  rfl
        rw [if_neg x, if_pos rfl, r_gI hR2, q15, nI_1, r_pI hR2, r_pI (sm_R t3 hR), bd_of (hsb _ hR4), ap_ite]
        have w16 : m_I (m_sI (m_sI ν2 (40, 0, 0) 16 (nI (tS u L p + 1))) (40, 0, 0) 17 (nI (u (tS u L p)))) (40, 0, 0) 16 = nI (tS u L p + 1) := by rw [I_row, ud_ne (by decide), I_row, ud_at]
        have w15 : m_I (m_sI (m_sI ν2 (40, 0, 0) 16 (nI (tS u L p + 1))) (40, 0, 0) 17 (nI (u (tS u L p)))) (40, 0, 0) 15 = nI (tS u L p) := by rw [I_row, ud_ne (by decide), I_row, ud_ne (by decide), q15]
        have w17 : m_I (m_sI (m_sI ν2 (40, 0, 0) 16 (nI (tS u L p + 1))) (40, 0, 0) 17 (nI (u (tS u L p)))) (40, 0, 0) 17 = nI (u (tS u L p)) := by rw [I_row, ud_at]
        generalize m_sI (m_sI ν2 (40, 0, 0) 16 (nI (tS u L p + 1))) (40, 0, 0) 17 (nI (u (tS u L p))) = ν4 at *
        by_cases v : isSig (u (tS u L p)) = true
        · rw [if_pos v] at eK
          rw [if_pos v, if_neg (by decide), r_pI hR4]
          refine ⟨_, _, rfl, ⟨?_, ?_, ?_, fun q => ?_, fun q => ?_, fun q => ?_⟩, sm_sI t4 _ (by omega)⟩
          · rw [I_row, ud_ne (by decide), w16, eE]
          · rw [I_row, ud_at, eK]; rfl
          · rw [I_row, ud_ne (by decide), w15]
          · rw [eK] at q; exact absurd q (by decide)
          · rw [eK] at q; exact absurd q (by decide)
          · rw [I_row, ud_ne (by decide), w17]
        · rw [if_neg v] at eK
          rw [if_neg v, if_pos rfl, r_pI hR4]
          refine ⟨_, _, rfl, ⟨?_, ?_, ?_, fun q => ?_, fun q => ?_, fun q => ?_⟩, sm_sI t4 _ (by omega)⟩
          · rw [I_row, ud_ne (by decide), w16, eE]
          · rw [I_row, ud_at, eK]; rfl
          · rw [I_row, ud_ne (by decide), w15]
          · rw [eK] at q; exact absurd q (by decide)
          · rw [eK] at q; exact absurd q (by decide)
          · rw [eK] at q; exact absurd q (by decide)
end RX
