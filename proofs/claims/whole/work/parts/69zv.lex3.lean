/-! Part 69zv: kept words, as numbers -/
set_option maxHeartbeats 200000 in
theorem e_eq {α : Type} {x : Option (α × mM)} {v : α} {μ : mM} (h : m_e x (fun a μ' => a = v ∧ μ' = μ)) : x = some (v, μ) := by
  obtain ⟨a, μ', e, rfl, rfl⟩ := h
  exact e
set_option maxHeartbeats 200000 in
theorem fwd_all {pr : Nat → Bool} {u : Nat → Nat} {L : Nat} : ∀ n p, L - p = n → ∀ k, p ≤ k → k < fwd pr u L p → pr (u k) = true
  | 0, p, h, k, h1, h2 => by
    rw [fwd_no (fun q => by omega)] at h2
    omega
  | n + 1, p, h, k, h1, h2 => by
    by_cases z : p < L ∧ pr (u p) = true
    · rw [fwd_go z.1 z.2] at h2
      by_cases y : k = p
      · rw [y]
        exact z.2
      · exact fwd_all n (p + 1) (by omega) k (by omega) h2
    · rw [fwd_no z] at h2
      omega
set_option maxHeartbeats 200000 in
theorem isLet_n {x : Nat} : isLet x = true ↔ 97 ≤ x ∧ x ≤ 122 := by
  unfold isLet
  simp
set_option maxHeartbeats 200000 in
theorem wv_lt {u : Nat → Nat} {s : Nat} : ∀ n, (∀ i, i < n → isLet (u (s + i)) = true) → wv u s n < 32 ^ n
  | 0, _ => Nat.zero_lt_one
  | n + 1, h => by
    have ih := wv_lt n (fun i hi => h i (by omega))
    have h1 := isLet_n.mp (h n (by omega))
    have h2 : wv u s (n + 1) = wv u s n * 32 + (u (s + n) - 96) := rfl
    rw [h2, Nat.pow_succ]
    omega
set_option maxHeartbeats 200000 in
theorem wv_inj {u u' : Nat → Nat} {s s' : Nat} : ∀ n m, (∀ i, i < n → isLet (u (s + i)) = true) → (∀ i, i < m → isLet (u' (s' + i)) = true) → wv u s n = wv u' s' m → n = m ∧ ∀ i, i < n → u (s + i) = u' (s' + i)
  | 0, 0, _, _, _ => ⟨rfl, fun i hi => absurd hi (Nat.not_lt_zero i)⟩
  | 0, m + 1, _, h', e => by
    have h1 := isLet_n.mp (h' m (by omega))
    have h2 : wv u' s' (m + 1) = wv u' s' m * 32 + (u' (s' + m) - 96) := rfl
    have h3 : wv u s 0 = 0 := rfl
    omega
  | n + 1, 0, h, _, e => by
    have h1 := isLet_n.mp (h n (by omega))
    have h2 : wv u s (n + 1) = wv u s n * 32 + (u (s + n) - 96) := rfl
    have h3 : wv u' s' 0 = 0 := rfl
    omega
  | n + 1, m + 1, h, h', e => by
    have h1 := isLet_n.mp (h n (by omega))
    have h2 := isLet_n.mp (h' m (by omega))
    have h3 : wv u s (n + 1) = wv u s n * 32 + (u (s + n) - 96) := rfl
    have h4 : wv u' s' (m + 1) = wv u' s' m * 32 + (u' (s' + m) - 96) := rfl
    obtain ⟨a, b⟩ := wv_inj n m (fun i hi => h i (by omega)) (fun i hi => h' i (by omega)) (by omega)
    subst a
    refine ⟨rfl, fun i hi => ?_⟩
    by_cases z : i = n
    · subst z
      omega
    · exact b i (by omega)
/-- kept words -/
def wl (j : Nat) : List Int32 := m_sb.getD j []
def wd (j i : Nat) : Nat := ((wl j).getD i 0).toNatClampNeg
def wn (j : Nat) : Nat := wv (wd j) 0 (wl j).length
set_option maxHeartbeats 200000 in
theorem wl_ok : ∀ j, j < 21 → (wl j).length ≤ 8 ∧ ∀ i, i < 8 → i < (wl j).length → isLet (wd j i) = true ∧ (wl j).getD i 0 = nI (wd j i) := by decide +kernel
def isW (u : Nat → Nat) (L p j : Nat) : Bool := decide (tK u L p = 1) && (decide (tE u L p - tS u L p ≤ 8) && decide (wv u (tS u L p) (tE u L p - tS u L p) = wn j))
def iw (u : Nat → Nat) (L p j : Nat) : Int32 := if isW u L p j = true then 1 else 0
set_option maxHeartbeats 200000 in
theorem iw_01 (u : Nat → Nat) (L p j : Nat) : iw u L p j = 0 ∨ iw u L p j = 1 := by
  unfold iw
  split
  · exact .inr rfl
  · exact .inl rfl
section WO
variable {μ ν : mM} {B : Nat → Int32} {u : Nat → Nat} {L p : Nat}
set_option maxHeartbeats 200000 in
theorem tK_let (h : tK u L p = 1) : tS u L p < L ∧ tE u L p = fwd isLet u L (tS u L p) := by
  unfold tK at h
  by_cases z : L ≤ tS u L p
  · rw [if_pos z] at h
    exact absurd h (by decide)
  · rw [if_neg z] at h
    by_cases y : isLet (u (tS u L p)) = true
    · refine ⟨by omega, ?_⟩
      unfold tE
      rw [if_neg z, if_pos y]
    · rw [if_neg y] at h
      repeat' split at h
      all_goals exact absurd h (by decide)
set_option maxHeartbeats 200000 in
theorem tok_let (h : tK u L p = 1) : ∀ i, i < tE u L p - tS u L p → isLet (u (tS u L p + i)) = true := by
  obtain ⟨h1, h2⟩ := tK_let h
  intro i hi
  exact fwd_all _ (tS u L p) rfl _ (by omega) (by rw [← h2]; omega)
set_option maxHeartbeats 200000 in
theorem isW_of {j : Nat} (hj : j < 21) (h : tK u L p = 1) : isW u L p j = true ↔ tE u L p - tS u L p = (wl j).length ∧ ∀ i, i < (wl j).length → u (tS u L p + i) = wd j i := by
  obtain ⟨w1, w2⟩ := wl_ok j hj
  unfold isW
  constructor
  · intro q
    simp at q
    have := wv_inj (u := u) (u' := wd j) (s := tS u L p) (s' := 0) _ (wl j).length (tok_let h) (fun i hi => by rw [Nat.zero_add]; exact (w2 i (by omega) hi).1) q.2.2
    refine ⟨this.1, fun i hi => ?_⟩
    have h2 := this.2 i (by omega)
    rw [Nat.zero_add] at h2
    exact h2
  · rintro ⟨q1, q2⟩
    have : ∀ n, n ≤ (wl j).length → wv u (tS u L p) n = wv (wd j) 0 n := by
      intro n
      induction n with
      | zero => exact fun _ => rfl
      | succ n ih =>
        intro hn
        have h1 : wv u (tS u L p) (n + 1) = wv u (tS u L p) n * 32 + (u (tS u L p + n) - 96) := rfl
        have h2 : wv (wd j) 0 (n + 1) = wv (wd j) 0 n * 32 + (wd j (0 + n) - 96) := rfl
        rw [h1, h2, ih (by omega), q2 n (by omega), Nat.zero_add]
    have h3 := this _ (Nat.le_refl _)
    rw [q1, h3]
    simp [h, w1]
    rfl
set_option maxHeartbeats 200000 in
theorem k_is (hC : ClsP μ) (hT : TxB μ B L) (hB : Byt B u L) (hk : TkC μ u L p) {j : Nat} (hj : j < 21) : fn_Tx_is (some (5, 0, 0)) (some (0, j, 0)) μ = some (iw u L p j, μ) := by
  obtain ⟨w1, w2⟩ := wl_ok j hj
  obtain ⟨k3, k4, k5, k6, -⟩ := hk
  have hL := hB.1
  have hsl : m_sl (some (0, j, 0)) μ = some (nI (wl j).length, μ) := by
    show (if (0 : Nat) = 0 ∧ j < 21 ∧ (0 : Nat) = 0 then _ else _) = _
    rw [if_pos ⟨rfl, hj, rfl⟩]
    rfl
  have htk : tK u L p ≤ 4 := by
    unfold tK
    repeat' split
    all_goals omega
  unfold fn_Tx_is
  rw [c_text_th hC, c_text_gI hC, k4, ap_ite]
  by_cases z : tK u L p = 1
  · obtain ⟨l1, l2⟩ := tK_let z
    obtain ⟨f1, f2⟩ := fwd_le (pr := isLet) (u := u) (L := L) _ _ rfl (show tS u L p ≤ L by omega)
    rw [if_pos (by rw [z]; rfl), c_text_gI hC, (k6 z).1, bd_of hsl, ap_ite]
    by_cases y : tE u L p - tS u L p = (wl j).length
    · rw [if_pos (by rw [y])]
      apply e_eq
      refine e_brk (fun i s μ' => s = nI i ∧ μ' = μ ∧ ∀ k, k < i → u (tS u L p + k) = wd j k) (wl j).length ?_ ⟨rfl, rfl, fun k hk => absurd hk (Nat.not_lt_zero k)⟩ (by omega)
      rintro i s μ' hi ⟨rfl, rfl, h1⟩
      unfold fn_Tx_is_l23
      rw [c_text_gI hC, (k6 z).1, y, ap_ite]
      by_cases x : (wl j).length ≤ i
      · rw [if_pos (nI_le x (by omega))]
        refine ⟨_, _, rfl, .inr ⟨_, rfl, ?_, rfl⟩⟩
        unfold iw
        rw [if_pos ((isW_of hj z).mpr ⟨y, fun k hk => h1 k (by omega)⟩)]
      · obtain ⟨v1, v2⟩ := w2 i (by omega) (by omega)
        have hb : B (tS u L p + i) = nI (u (tS u L p + i)) := (hB.2 _ (by omega)).2.2.1 (by
          have := isLet_n.mp (tok_let z i (by omega))
          omega)
        have hch : m_sch (some (0, j, 0)) (nI i) μ' = some (nI (wd j i), μ') := by
          show (if (0 : Nat) = 0 ∧ j < 21 ∧ (0 : Nat) = 0 ∧ ¬ (nI i < 0 ∨ (wl j).length ≤ (nI i).toNatClampNeg) then some ((wl j).getD (nI i).toNatClampNeg 0, μ') else none) = _
          rw [nI_clamp (by omega), if_pos ⟨rfl, hj, rfl, fun q => by
            rcases q with q | q
            · exact absurd q (nI_pos (by omega))
            · omega⟩, v2]
        have hul := isLet_n.mp (tok_let z i (by omega))
        have hwl := isLet_n.mp v1
        rw [if_neg (nI_ge (by omega) (by omega)), c_text_r0 hC, c_text_gI hC, k5, nI_add, c_bytes_a hC (by omega), hT.1, hb, bd_of hch, ap_ite]
        by_cases v : u (tS u L p + i) = wd j i
        · rw [if_pos (by rw [v])]
          refine ⟨_, _, rfl, .inl ⟨_, by omega, rfl, nI_1 i, rfl, fun k hk => ?_⟩⟩
          by_cases t : k = i
          · rw [t]
            exact v
          · exact h1 k (by omega)
        · rw [if_neg (fun q => v ((nI_eq (by omega) (by omega)).mp q))]
          refine ⟨_, _, rfl, .inr ⟨_, rfl, ?_, rfl⟩⟩
          unfold iw
          rw [if_neg (fun q => v (((isW_of hj z).mp q).2 i (by omega)))]
    · rw [if_neg (fun q => y ((nI_eq (by omega) (by omega)).mp q))]
      unfold iw
      rw [if_neg (fun q => y ((isW_of hj z).mp q).1)]
      rfl
  · rw [if_neg (show ¬ nI (tK u L p) = 1 from fun q => z ((nI_eq (b := 1) (by omega) (by omega)).mp q))]
    unfold iw isW
    rw [if_neg (by simp [z])]
    rfl
set_option maxHeartbeats 200000 in
theorem r_isW (hR : RefP ν) (hk : TkR ν u L p) {j : Nat} (hj : j < 21) : fn_M_isWord (some (40, 0, 0)) (lN (wn j)) ν = some (iw u L p j, ν) := by
  obtain ⟨w1, w2⟩ := wl_ok j hj
  obtain ⟨k3, k4, k5, k6, -⟩ := hk
  have htk : tK u L p ≤ 4 := by
    unfold tK
    repeat' split
    all_goals omega
  have hwn : wn j < 2 ^ 40 := by
    have h1 := wv_lt (u := wd j) (s := 0) (wl j).length (fun i hi => by rw [Nat.zero_add]; exact (w2 i (by omega) hi).1)
    have h2 : 32 ^ (wl j).length ≤ 32 ^ 8 := Nat.pow_le_pow_right (by omega) w1
    have h3 : (32 : Nat) ^ 8 = 2 ^ 40 := by decide
    unfold wn
    omega
  unfold fn_M_isWord
  rw [r_th hR, r_gI hR, k4, ap_ite]
  by_cases z : tK u L p = 1
  · rw [if_pos (by rw [z]; rfl), r_gJ hR, (k6 z).2, ap_ite]
    by_cases y : tE u L p - tS u L p ≤ 8
    · have hwv : wv u (tS u L p) (tE u L p - tS u L p) < 2 ^ 40 := by
        have h1 := wv_lt (u := u) (s := tS u L p) _ (tok_let z)
        have h2 : 32 ^ (tE u L p - tS u L p) ≤ 32 ^ 8 := Nat.pow_le_pow_right (by omega) y
        have h3 : (32 : Nat) ^ 8 = 2 ^ 40 := by decide
        omega
      rw [if_pos y]
      by_cases x : wv u (tS u L p) (tE u L p - tS u L p) = wn j
      · rw [if_pos (by rw [lg_cmp_eq, x])]
        unfold iw isW
        rw [if_pos (by simp [z, y, x])]
        rfl
      · rw [if_neg (by rw [lg_cmp_eq]; exact fun q => x ((pk_lEQ (by omega) (by omega)).mp q))]
        unfold iw isW
        rw [if_neg (by simp [x])]
        rfl
    · rw [if_neg y, if_neg (by
        rw [lg_cmp_eq]
        intro q
        have h1 := congrArg Int64.toInt q
        rw [pk_lT (by omega), show (-1 : Int64).toInt = -1 by decide] at h1
        omega)]
      unfold iw isW
      rw [if_neg (by simp [y])]
      rfl
  · rw [if_neg (show ¬ nI (tK u L p) = 1 from fun q => z ((nI_eq (b := 1) (by omega) (by omega)).mp q))]
    unfold iw isW
    rw [if_neg (by simp [z])]
    rfl
end WO
