/-! Part 69zs: what is told in words: bytes, words, numbers, signs, as functions; the class reads them -/
def isLet (x : Nat) : Bool := decide (97 ≤ x) && decide (x ≤ 122)
def isDig (x : Nat) : Bool := decide (48 ≤ x) && decide (x ≤ 57)
def isBla (x : Nat) : Bool := decide (x = 10) || decide (x = 32)
def isSig (x : Nat) : Bool := decide (x = 59) || decide (x = 60) || decide (x = 62) || decide (x = 61)
/-- the first place from p on where pr doesn't hold, or L -/
def fw (pr : Nat → Bool) (u : Nat → Nat) (L : Nat) : Nat → Nat → Nat
  | 0, p => p
  | n + 1, p => if p < L ∧ pr (u p) = true then fw pr u L n (p + 1) else p
def fwd (pr : Nat → Bool) (u : Nat → Nat) (L p : Nat) : Nat := fw pr u L (L - p) p
set_option maxHeartbeats 200000 in
theorem fwd_go {pr : Nat → Bool} {u : Nat → Nat} {L p : Nat} (h : p < L) (h1 : pr (u p) = true) : fwd pr u L p = fwd pr u L (p + 1) := by
  unfold fwd
  obtain ⟨n, hn⟩ : ∃ n, L - p = n + 1 := ⟨L - p - 1, by omega⟩
  rw [hn, show L - (p + 1) = n by omega]
  exact if_pos ⟨h, h1⟩
set_option maxHeartbeats 200000 in
theorem fwd_no {pr : Nat → Bool} {u : Nat → Nat} {L p : Nat} (h : ¬ (p < L ∧ pr (u p) = true)) : fwd pr u L p = p := by
  unfold fwd
  cases L - p with
  | zero => rfl
  | succ n => exact if_neg h
set_option maxHeartbeats 200000 in
theorem fwd_le {pr : Nat → Bool} {u : Nat → Nat} {L : Nat} : ∀ n p, L - p = n → p ≤ L → p ≤ fwd pr u L p ∧ fwd pr u L p ≤ L
  | 0, p, h, hp => by
    rw [fwd_no (fun q => by omega)]
    omega
  | n + 1, p, h, hp => by
    by_cases z : p < L ∧ pr (u p) = true
    · rw [fwd_go z.1 z.2]
      have := fwd_le (pr := pr) (u := u) (L := L) n (p + 1) (by omega) (by omega)
      omega
    · rw [fwd_no z]
      omega
def wv (u : Nat → Nat) (s : Nat) : Nat → Nat
  | 0 => 0
  | n + 1 => wv u s n * 32 + (u (s + n) - 96)
def nv (u : Nat → Nat) (s : Nat) : Nat → Nat
  | 0 => 0
  | n + 1 => nv u s n * 10 + (u (s + n) - 48)
/-- where the word from p on begins, ends, of what kind it is -/
def tS (u : Nat → Nat) (L p : Nat) : Nat := fwd isBla u L p
def tE (u : Nat → Nat) (L p : Nat) : Nat := if L ≤ tS u L p then tS u L p else if isLet (u (tS u L p)) = true then fwd isLet u L (tS u L p) else if isDig (u (tS u L p)) = true then fwd isDig u L (tS u L p) else tS u L p + 1
def tK (u : Nat → Nat) (L p : Nat) : Nat := if L ≤ tS u L p then 0 else if isLet (u (tS u L p)) = true then 1 else if isDig (u (tS u L p)) = true then (if tE u L p - tS u L p ≤ 4 then 2 else 4) else if isSig (u (tS u L p)) = true then 3 else 4
/-- bytes and what they stand for -/
def Byt (B : Nat → Int32) (u : Nat → Nat) (L : Nat) : Prop := L ≤ 900 ∧ ∀ k, k < L → u k < 256 ∧ B k &&& 255 = nI (u k) ∧ (u k < 128 → B k = nI (u k)) ∧ (128 ≤ u k → B k < 0)
set_option maxHeartbeats 200000 in
theorem byt_eq {B : Nat → Int32} {u : Nat → Nat} {L k v : Nat} (h : Byt B u L) (hk : k < L) (hv : v < 128) : (B k = nI v) = (u k = v) := by
  obtain ⟨h1, h2, h3, h4⟩ := h.2 k hk
  apply propext
  by_cases z : u k < 128
  · rw [h3 z]
    exact nI_eq (by omega) (by omega)
  · have h5 := h4 (by omega)
    constructor
    · intro q
      rw [q] at h5
      exact absurd h5 (nI_pos (by omega))
    · intro q
      omega
set_option maxHeartbeats 200000 in
theorem k_isLetter {B : Nat → Int32} {u : Nat → Nat} {L k : Nat} {μ : mM} (h : Byt B u L) (hk : k < L) : fn_Tx_isLetter (B k) μ = some (if isLet (u k) = true then 1 else 0, μ) := by
  obtain ⟨h1, h2, h3, h4⟩ := h.2 k hk
  unfold fn_Tx_isLetter isLet
  by_cases z : u k < 128
  · rw [h3 z, ap_ite, ap_ite]
    by_cases y : 97 ≤ u k
    · by_cases x : u k ≤ 122
      · rw [if_neg (show ¬ nI (u k) < 97 from Int32.not_lt.mpr (nI_le (a := 97) y (by omega))), if_neg (show ¬ 122 < nI (u k) from Int32.not_lt.mpr (nI_le (b := 122) x (by omega))), if_pos (by simp [y, x])]
        rfl
      · rw [if_neg (show ¬ nI (u k) < 97 from Int32.not_lt.mpr (nI_le (a := 97) y (by omega))), if_pos (show 122 < nI (u k) from nI_lt (a := 122) (by omega) (by omega)), if_neg (by simp [x])]
        rfl
    · rw [if_pos (show nI (u k) < 97 from nI_lt (b := 97) (by omega) (by omega)), if_neg (by simp [y])]
      rfl
  · have h5 := h4 (by omega)
    rw [ap_ite, if_pos (Int32.lt_trans h5 (by decide)), if_neg (by
      intro q
      simp at q
      omega)]
    rfl
set_option maxHeartbeats 200000 in
theorem k_isDigit {B : Nat → Int32} {u : Nat → Nat} {L k : Nat} {μ : mM} (h : Byt B u L) (hk : k < L) : fn_Tx_isDigit (B k) μ = some (if isDig (u k) = true then 1 else 0, μ) := by
  obtain ⟨h1, h2, h3, h4⟩ := h.2 k hk
  unfold fn_Tx_isDigit isDig
  by_cases z : u k < 128
  · rw [h3 z, ap_ite, ap_ite]
    by_cases y : 48 ≤ u k
    · by_cases x : u k ≤ 57
      · rw [if_neg (show ¬ nI (u k) < 48 from Int32.not_lt.mpr (nI_le (a := 48) y (by omega))), if_neg (show ¬ 57 < nI (u k) from Int32.not_lt.mpr (nI_le (b := 57) x (by omega))), if_pos (by simp [y, x])]
        rfl
      · rw [if_neg (show ¬ nI (u k) < 48 from Int32.not_lt.mpr (nI_le (a := 48) y (by omega))), if_pos (show 57 < nI (u k) from nI_lt (a := 57) (by omega) (by omega)), if_neg (by simp [x])]
        rfl
    · rw [if_pos (show nI (u k) < 48 from nI_lt (b := 48) (by omega) (by omega)), if_neg (by simp [y])]
      rfl
  · have h5 := h4 (by omega)
    rw [ap_ite, if_pos (Int32.lt_trans h5 (by decide)), if_neg (by
      intro q
      simp at q
      omega)]
    rfl
section LX
variable {μ : mM} {B : Nat → Int32} {u : Nat → Nat} {L p : Nat}
/-- the text that is read -/
def TxB (μ : mM) (B : Nat → Int32) (L : Nat) : Prop := m_I μ (6, 0, 0) = B ∧ m_I μ (5, 0, 0) 2 = nI L
set_option maxHeartbeats 200000 in
theorem TxB_sm {K : Nat → Nat → Nat → Nat → Prop} {μ' : mM} (h : TxB μ B L) (hs : sm K μ μ') (h1 : ∀ k, ¬ K 6 0 0 k) (h2 : ¬ K 5 0 0 2) : TxB μ' B L := ⟨by rw [sm_Ir hs h1, h.1], by rw [sm_I hs h2, h.2]⟩
set_option maxHeartbeats 200000 in
theorem k_skipBlanks (hC : ClsP μ) (hT : TxB μ B L) (hB : Byt B u L) (hp : p ≤ L) (e3 : m_I μ (5, 0, 0) 3 = nI p) : m_e (fn_Tx_skipBlanks (some (5, 0, 0)) μ) (fun _ μ' => m_I μ' (5, 0, 0) 3 = nI (tS u L p) ∧ sm (fun x _ _ k => x = 5 ∧ k = 3) μ μ') := by
  have hL := hB.1
  unfold fn_Tx_skipBlanks
  rw [c_text_th hC]
  refine e_brk (fun i _ μ' => p + i ≤ L ∧ fwd isBla u L (p + i) = tS u L p ∧ m_I μ' (5, 0, 0) 3 = nI (p + i) ∧ sm (fun x _ _ k => x = 5 ∧ k = 3) μ μ') (L - p) ?_ ⟨hp, rfl, e3, sm_rf⟩ (by omega)
  rintro i _ μ' hi ⟨h1, h2, h3, h4⟩
  have hC' := sm_C h4 hC
  have hT' := TxB_sm hT h4 (by omega) (by omega)
  unfold fn_Tx_skipBlanks_l0
  rw [c_text_gI hC', h3, c_text_gI hC', hT'.2, ap_ite]
  by_cases z : L ≤ p + i
  · rw [if_pos (nI_le z (by omega))]
    refine ⟨_, _, rfl, .inr ⟨(), rfl, ?_, h4⟩⟩
    rw [h3, ← h2, fwd_no (fun q => by omega)]
  · rw [if_neg (nI_ge (by omega) (by omega)), c_text_r0 hC', c_text_gI hC', h3, c_bytes_a hC' (by omega), hT'.1, ap_ite]
    have e10 : (B (p + i) = 10) = (u (p + i) = 10) := byt_eq (v := 10) hB (by omega) (by omega)
    have e32 : (B (p + i) = 32) = (u (p + i) = 32) := byt_eq (v := 32) hB (by omega) (by omega)
    by_cases y : u (p + i) = 10
    · rw [if_pos (by rw [e10]; exact y), c_text_gI hC', h3, nI_1, c_text_pI hC']
      refine ⟨_, _, rfl, .inl ⟨(), by omega, rfl, by omega, ?_, by rw [I_row, ud_at]; rfl, sm_sI h4 _ ⟨rfl, rfl⟩⟩⟩
      rw [← h2, fwd_go (p := p + i) (by omega) (by unfold isBla; simp [y])]
      rfl
    · rw [if_neg (by rw [e10]; exact y), c_text_r0 hC', c_text_gI hC', h3, c_bytes_a hC' (by omega), hT'.1, ap_ite]
      by_cases x : u (p + i) = 32
      · rw [if_pos (by rw [e32]; exact x), c_text_gI hC', h3, nI_1, c_text_pI hC']
        refine ⟨_, _, rfl, .inl ⟨(), by omega, rfl, by omega, ?_, by rw [I_row, ud_at]; rfl, sm_sI h4 _ ⟨rfl, rfl⟩⟩⟩
        rw [← h2, fwd_go (p := p + i) (by omega) (by unfold isBla; simp [x])]
        rfl
      · rw [if_neg (by rw [e32]; exact x)]
        refine ⟨_, _, rfl, .inr ⟨(), rfl, ?_, h4⟩⟩
        rw [h3, ← h2, fwd_no (fun q => by
          have := q.2
          unfold isBla at this
          simp [y, x] at this)]
set_option maxHeartbeats 200000 in
theorem k_scanWord (hC : ClsP μ) (hT : TxB μ B L) (hB : Byt B u L) {s : Nat} (hs : s < L) (e3 : m_I μ (5, 0, 0) 3 = nI s) (e6 : m_I μ (5, 0, 0) 6 = 0) (e7 : m_J μ (5, 0, 0) 7 = 0) : m_e (fn_Tx_scanWord (some (5, 0, 0)) μ) (fun _ μ' => m_I μ' (5, 0, 0) 3 = nI (fwd isLet u L s) ∧ m_I μ' (5, 0, 0) 4 = 1 ∧ m_I μ' (5, 0, 0) 6 = nI (fwd isLet u L s - s) ∧ m_J μ' (5, 0, 0) 7 = lN (wv u s (min (fwd isLet u L s - s) 8)) ∧ sm (fun x _ _ k => x = 5 ∧ (k = 3 ∨ k = 4 ∨ k = 6 ∨ k = 7)) μ μ') := by
  have hL := hB.1
  unfold fn_Tx_scanWord
  rw [c_text_th hC, c_text_pI hC]
  have s1 : sm (fun x _ _ k => x = 5 ∧ (k = 3 ∨ k = 4 ∨ k = 6 ∨ k = 7)) μ (m_sI μ (5, 0, 0) 4 1) := sm_sI sm_rf _ (by omega)
  refine e_bd (R := fun _ μ' => m_I μ' (5, 0, 0) 3 = nI (fwd isLet u L s) ∧ m_I μ' (5, 0, 0) 4 = 1 ∧ m_I μ' (5, 0, 0) 6 = nI (fwd isLet u L s - s) ∧ m_J μ' (5, 0, 0) 7 = lN (wv u s (min (fwd isLet u L s - s) 8)) ∧ sm (fun x _ _ k => x = 5 ∧ (k = 3 ∨ k = 4 ∨ k = 6 ∨ k = 7)) μ μ') ?_ (fun _ μ' h => ⟨(), _, rfl, h⟩)
  refine e_brk (fun i _ μ' => s + i ≤ L ∧ fwd isLet u L (s + i) = fwd isLet u L s ∧ m_I μ' (5, 0, 0) 3 = nI (s + i) ∧ m_I μ' (5, 0, 0) 4 = 1 ∧ m_I μ' (5, 0, 0) 6 = nI i ∧ m_J μ' (5, 0, 0) 7 = lN (wv u s (min i 8)) ∧ sm (fun x _ _ k => x = 5 ∧ (k = 3 ∨ k = 4 ∨ k = 6 ∨ k = 7)) μ μ') (L - s) ?_ ⟨by omega, rfl, by rw [I_row, ud_ne (by decide), e3]; rfl, by rw [I_row, ud_at], by rw [I_row, ud_ne (by decide), e6]; rfl, e7, s1⟩ (by omega)
  rintro i _ μ' hi ⟨h1, h2, h3, h4, h5, h6, h7⟩
  have hC' := sm_C h7 hC
  have hT' := TxB_sm hT h7 (by omega) (by omega)
  have hend : fwd isLet u L s = s + i → m_I μ' (5, 0, 0) 3 = nI (fwd isLet u L s) ∧ m_I μ' (5, 0, 0) 4 = 1 ∧ m_I μ' (5, 0, 0) 6 = nI (fwd isLet u L s - s) ∧ m_J μ' (5, 0, 0) 7 = lN (wv u s (min (fwd isLet u L s - s) 8)) ∧ sm (fun x _ _ k => x = 5 ∧ (k = 3 ∨ k = 4 ∨ k = 6 ∨ k = 7)) μ μ' := by
    intro q
    rw [q, Nat.add_sub_cancel_left]
    exact ⟨h3, h4, h5, h6, h7⟩
  unfold fn_Tx_scanWord_l5
  rw [c_text_gI hC', h3, c_text_gI hC', hT'.2, ap_ite]
  by_cases z : L ≤ s + i
  · rw [if_pos (nI_le z (by omega))]
    refine ⟨_, _, rfl, .inr ⟨(), rfl, hend ?_⟩⟩
    rw [← h2, fwd_no (fun q => by omega)]
  · rw [if_neg (nI_ge (by omega) (by omega)), c_text_r0 hC', c_text_gI hC', h3, c_bytes_a hC' (by omega), hT'.1, bd_of (k_isLetter hB (show s + i < L by omega)), ap_ite]
    by_cases y : isLet (u (s + i)) = true
    · have hl : 97 ≤ u (s + i) ∧ u (s + i) ≤ 122 := by
        unfold isLet at y
        simp at y
        exact y
      have hb : B (s + i) = nI (u (s + i)) := (hB.2 _ (by omega)).2.2.1 (by omega)
      have e1 : (nI (u (s + i)) - 97 + 1 : Int32).toInt64 = lN (u (s + i) - 96) := by
        rw [show (97 : Int32) = nI 97 from rfl, pk_sub hl.1, nI_1, nI_l (by omega)]
        congr 1
        omega
      have h2' : fwd isLet u L (s + (i + 1)) = fwd isLet u L s := by
        rw [← h2, fwd_go (p := s + i) (by omega) y]
        rfl
      rw [if_pos y, if_neg (by decide), c_text_gI hC', h5, bd_ite]
      by_cases x : 8 ≤ i
      · rw [if_pos (show (8 : Int32) ≤ nI i from nI_le (a := 8) x (by omega)), bd_rt, c_text_gI hC', h5, nI_1, c_text_pI hC']
        have t1 := sm_sI (x := 5) (y := 0) (z := 0) (k := 6) h7 (nI (i + 1)) (by omega)
        rw [c_text_gI (sm_C t1 hC), I_row, ud_ne (by decide), h3, nI_1, c_text_pI (sm_C t1 hC)]
        refine ⟨_, _, rfl, .inl ⟨(), by omega, rfl, by omega, h2', by rw [I_row, ud_at]; rfl, ?_, ?_, ?_, sm_sI t1 _ (by omega)⟩⟩
        · rw [I_row, ud_ne (by decide), I_row, ud_ne (by decide), h4]
        · rw [I_row, ud_ne (by decide), I_row, ud_at]
        · show m_J μ' (5, 0, 0) 7 = _
          rw [h6, show min i 8 = 8 by omega, show min (i + 1) 8 = 8 by omega]
      · rw [if_neg (show ¬ (8 : Int32) ≤ nI i from nI_ge (b := 8) (by omega) (by omega)), bd_bd, c_text_gJ hC', h6, bd_bd, c_text_r0 hC', bd_bd, c_text_gI hC', h3, bd_bd, c_bytes_a hC' (by omega), hT'.1, hb, e1, show (32 : Int64) = lN 32 from rfl, lN_mul, lN_add, bd_bd, c_text_pJ hC', bd_rt]
        have t0 := sm_sJ (x := 5) (y := 0) (z := 0) (k := 7) h7 (lN (wv u s (min i 8) * 32 + (u (s + i) - 96))) (by omega)
        have hC0 := sm_C t0 hC
        rw [c_text_gI hC0, show m_I (m_sJ μ' (5, 0, 0) 7 (lN (wv u s (min i 8) * 32 + (u (s + i) - 96)))) (5, 0, 0) 6 = nI i from h5, nI_1, c_text_pI hC0]
        have t1 := sm_sI (x := 5) (y := 0) (z := 0) (k := 6) t0 (nI (i + 1)) (by omega)
        rw [c_text_gI (sm_C t1 hC), I_row, ud_ne (by decide), show m_I (m_sJ μ' (5, 0, 0) 7 (lN (wv u s (min i 8) * 32 + (u (s + i) - 96)))) (5, 0, 0) 3 = nI (s + i) from h3, nI_1, c_text_pI (sm_C t1 hC)]
        refine ⟨_, _, rfl, .inl ⟨(), by omega, rfl, by omega, h2', by rw [I_row, ud_at]; rfl, ?_, ?_, ?_, sm_sI t1 _ (by omega)⟩⟩
        · rw [I_row, ud_ne (by decide), I_row, ud_ne (by decide)]
          exact h4
        · rw [I_row, ud_ne (by decide), I_row, ud_at]
        · show m_J (m_sJ μ' (5, 0, 0) 7 _) (5, 0, 0) 7 = _
          rw [J_row, ud_at, show min i 8 = i by omega, show min (i + 1) 8 = i + 1 by omega]
          rfl
    · rw [if_neg y, if_pos rfl]
      refine ⟨_, _, rfl, .inr ⟨(), rfl, hend ?_⟩⟩
      rw [← h2, fwd_no (fun q => y q.2)]
end LX
