/-! Part 69c: in how many ways, by digits -/
set_option maxHeartbeats 200000 in
theorem nsum_add (g : Nat → Nat) (a : Nat) : ∀ b, nsum g (a + b) = nsum g a + nsum (fun j => g (a + j)) b
  | 0 => rfl
  | b + 1 => by
    show nsum g (a + b) + g (a + b) = _
    rw [nsum_add g a b]
    show _ = nsum g a + (nsum (fun j => g (a + j)) b + g (a + b))
    omega
set_option maxHeartbeats 200000 in
theorem nsum_mul (g : Nat → Nat) (c : Nat) : ∀ n, nsum (fun k => g k * c) n = nsum g n * c
  | 0 => by simp [nsum]
  | n + 1 => by
    show nsum (fun k => g k * c) n + g n * c = (nsum g n + g n) * c
    rw [nsum_mul g c n, Nat.add_mul]
set_option maxHeartbeats 200000 in
theorem nsum_plus (g h : Nat → Nat) : ∀ n, nsum (fun k => g k + h k) n = nsum g n + nsum h n
  | 0 => rfl
  | n + 1 => by
    show nsum (fun k => g k + h k) n + (g n + h n) = (nsum g n + g n) + (nsum h n + h n)
    rw [nsum_plus g h n]
    omega
set_option maxHeartbeats 200000 in
theorem nsum_swap (g : Nat → Nat → Nat) (b : Nat) : ∀ a, nsum (fun i => nsum (fun j => g i j) b) a = nsum (fun j => nsum (fun i => g i j) a) b
  | 0 => by
    refine Eq.symm (nsum_0 b fun k _ => ?_)
    rfl
  | a + 1 => by
    show nsum (fun i => nsum (fun j => g i j) b) a + nsum (fun j => g a j) b = _
    rw [nsum_swap g b a, ← nsum_plus]
    rfl
def dig (m p : Nat) : Nat := m / 4 ^ p % 4
def okb (al : Nat → Bool) (m : Nat) : Nat → Bool
  | 0 => true
  | k + 1 => okb al m k && (decide (dig m k = 0) || al k)
def lov (m k : Nat) : Nat := nsum (dig m) k
/-- in how many ways L love by so much together -/
def Nn : Nat → Nat → Nat
  | 0, s => if s = 0 then 1 else 0
  | L + 1, s => nsum (fun d => if d ≤ s then Nn L (s - d) else 0) 4
set_option maxHeartbeats 200000 in
theorem Nn_out : ∀ L s, 3 * L < s → Nn L s = 0
  | 0, s, h => if_neg (by omega)
  | L + 1, s, h => nsum_0 4 fun d hd => by
    split
    · exact Nn_out L _ (by omega)
    · rfl
set_option maxHeartbeats 200000 in
theorem Nn_pos : ∀ L s, s ≤ 3 * L → 0 < Nn L s
  | 0, s, h => by
    obtain rfl : s = 0 := by omega
    decide
  | L + 1, s, h => by
    show 0 < nsum (fun d => if d ≤ s then Nn L (s - d) else 0) 4
    simp only [nsum]
    by_cases h1 : s ≤ 3 * L
    · have := Nn_pos L s h1
      rw [if_pos (Nat.zero_le s), Nat.sub_zero]
      omega
    · have := Nn_pos L (3 * L) (Nat.le_refl _)
      obtain rfl | rfl | rfl : s = 3 * L + 1 ∨ s = 3 * L + 2 ∨ s = 3 * L + 3 := by omega
      · rw [if_pos (show 1 ≤ 3 * L + 1 by omega), show 3 * L + 1 - 1 = 3 * L by omega]
        omega
      · rw [if_pos (show 2 ≤ 3 * L + 2 by omega), show 3 * L + 2 - 2 = 3 * L by omega]
        omega
      · rw [if_pos (show 3 ≤ 3 * L + 3 by omega), show 3 * L + 3 - 3 = 3 * L by omega]
        omega
def cnt (al : Nat → Bool) (k : Nat) : Nat := nsum (fun p => if al p = true then 1 else 0) k
set_option maxHeartbeats 200000 in
theorem cnt_le (al : Nat → Bool) (k : Nat) : cnt al k ≤ k := by
  have := nsum_le (g := fun p => if al p = true then 1 else 0) (B := 1) k (fun p _ => by split <;> omega)
  unfold cnt
  omega
set_option maxHeartbeats 200000 in
theorem dig_lt (m p : Nat) : dig m p < 4 := Nat.mod_lt _ (by omega)
set_option maxHeartbeats 200000 in
theorem dig_top : ∀ k, k < 6 → ∀ d, d < 4 → ∀ m, m < 4 ^ k → dig (4 ^ k * d + m) k = d := by
  intro k hk d hd m hm
  unfold dig
  rw [Nat.mul_add_div (Nat.pow_pos (by omega)), Nat.div_eq_of_lt hm, Nat.add_zero, Nat.mod_eq_of_lt hd]
set_option maxHeartbeats 200000 in
theorem dig_low {k p d m : Nat} (hp : p < k) : dig (4 ^ k * d + m) p = dig m p := by
  unfold dig
  have e : 4 ^ k = 4 ^ p * (4 * 4 ^ (k - p - 1)) := by
    rw [← Nat.pow_succ', ← Nat.pow_add]
    congr 1
    omega
  rw [e, Nat.mul_assoc, Nat.mul_add_div (Nat.pow_pos (by omega)), Nat.mul_assoc, Nat.mul_add_mod]
set_option maxHeartbeats 200000 in
theorem okb_low {al : Nat → Bool} {k d m : Nat} : ∀ j, j ≤ k → okb al (4 ^ k * d + m) j = okb al m j
  | 0, _ => rfl
  | j + 1, h => by
    unfold okb
    rw [okb_low j (by omega), dig_low (by omega)]
set_option maxHeartbeats 200000 in
theorem lov_low {k d m : Nat} {j : Nat} (h : j ≤ k) : lov (4 ^ k * d + m) j = lov m j := nsum_c j fun p hp => dig_low (by omega)
set_option maxHeartbeats 200000 in
theorem Nn_shift {L d : Nat} (hL : L ≤ 5) (hd : d < 4) (f : Nat → Nat) : nsum (fun s => Nn L s * f (s + d)) 19 = nsum (fun s => (if d ≤ s then Nn L (s - d) else 0) * f s) 19 := by
  have e : 19 = d + (19 - d) := by omega
  rw [nsum_cut (g := fun s => Nn L s * f (s + d)) (a := 19 - d) 19 (fun k h1 _ => by rw [Nn_out L k (by omega), Nat.zero_mul]) (by omega)]
  conv => rhs; rw [e, nsum_add]
  rw [nsum_0 d (fun k hk => by rw [if_neg (by omega), Nat.zero_mul]), Nat.zero_add]
  refine nsum_c _ fun j hj => ?_
  rw [if_pos (by omega), show d + j - d = j by omega, Nat.add_comm j d]
set_option maxHeartbeats 200000 in
theorem count (al : Nat → Bool) : ∀ k, k ≤ 6 → ∀ f : Nat → Nat, nsum (fun m => if okb al m k = true then f (lov m k) else 0) (4 ^ k) = nsum (fun s => Nn (cnt al k) s * f s) 19
  | 0, _, f => by
    rw [nsum_cut (g := fun s => Nn (cnt al 0) s * f s) (a := 1) 19 (fun j h1 _ => by
      have : Nn (cnt al 0) j = 0 := if_neg (by omega)
      rw [this, Nat.zero_mul]) (by omega)]
    show 0 + f 0 = 0 + Nn 0 0 * f 0
    rw [show Nn 0 0 = 1 from rfl, Nat.one_mul]
  | k + 1, hk, f => by
    have ih := count al k (by omega)
    have hblock : ∀ d, d < 4 → nsum (fun j => if okb al (4 ^ k * d + j) (k + 1) = true then f (lov (4 ^ k * d + j) (k + 1)) else 0) (4 ^ k) = if (decide (d = 0) || al k) = true then nsum (fun s => Nn (cnt al k) s * f (s + d)) 19 else 0 := by
      intro d hd
      rw [← ih (fun x => f (x + d))]
      have e1 : ∀ j, j < 4 ^ k → okb al (4 ^ k * d + j) (k + 1) = (okb al j k && (decide (d = 0) || al k)) := fun j hj => by
        show (okb al (4 ^ k * d + j) k && (decide (dig (4 ^ k * d + j) k = 0) || al k)) = _
        rw [okb_low k (Nat.le_refl k), dig_top k (by omega) d hd j hj]
      have e2 : ∀ j, j < 4 ^ k → lov (4 ^ k * d + j) (k + 1) = lov j k + d := fun j hj => by
        show lov (4 ^ k * d + j) k + dig (4 ^ k * d + j) k = _
        rw [lov_low (Nat.le_refl k), dig_top k (by omega) d hd j hj]
      cases q : (decide (d = 0) || al k)
      · rw [if_neg (by decide)]
        refine nsum_0 _ fun j hj => ?_
        rw [e1 j hj, q, Bool.and_false]
        rfl
      · rw [if_pos rfl]
        refine nsum_c _ fun j hj => ?_
        rw [e1 j hj, q, Bool.and_true, e2 j hj]
    have hsplit : nsum (fun m => if okb al m (k + 1) = true then f (lov m (k + 1)) else 0) (4 ^ (k + 1)) = nsum (fun d => if (decide (d = 0) || al k) = true then nsum (fun s => Nn (cnt al k) s * f (s + d)) 19 else 0) 4 := by
      rw [show 4 ^ (k + 1) = 4 ^ k * 0 + 4 ^ k + 4 ^ k + 4 ^ k + 4 ^ k by rw [Nat.pow_succ]; omega, nsum_add, nsum_add, nsum_add]
      have h0 := hblock 0 (by omega)
      have h1 := hblock 1 (by omega)
      have h2 := hblock 2 (by omega)
      have h3 := hblock 3 (by omega)
      simp only [Nat.mul_zero, Nat.zero_add, Nat.mul_one, show 4 ^ k * 2 = 4 ^ k + 4 ^ k by omega, show 4 ^ k * 3 = 4 ^ k + 4 ^ k + 4 ^ k by omega] at h0 h1 h2 h3 ⊢
      rw [h0, h1, h2, h3]
      simp only [nsum]
      omega
    rw [hsplit]
    cases q : al k
    · have hc : cnt al (k + 1) = cnt al k := by
        show cnt al k + (if al k = true then 1 else 0) = _
        rw [q]
        rfl
      rw [hc]
      simp [nsum]
    · have hc : cnt al (k + 1) = cnt al k + 1 := by
        show cnt al k + (if al k = true then 1 else 0) = _
        rw [q]
        rfl
      rw [hc]
      have e3 : nsum (fun d => if (decide (d = 0) || true) = true then nsum (fun s => Nn (cnt al k) s * f (s + d)) 19 else 0) 4 = nsum (fun d => nsum (fun s => (if d ≤ s then Nn (cnt al k) (s - d) else 0) * f s) 19) 4 := nsum_c 4 fun d hd => by
        rw [Bool.or_true, if_pos rfl, Nn_shift (by have := cnt_le al k; omega) hd]
      rw [e3, nsum_swap]
      refine nsum_c 19 fun s _ => ?_
      rw [nsum_mul]
      rfl
set_option maxHeartbeats 200000 in
/-- a code's digit -/
theorem code_dig {m p : Nat} (hm : m < 4096) (hp : p < 6) : ((nI m >>> ((2 * nI p) &&& 31)) &&& 3) = nI (dig m p) := by
  unfold dig
  obtain rfl | rfl | rfl | rfl | rfl | rfl : p = 0 ∨ p = 1 ∨ p = 2 ∨ p = 3 ∨ p = 4 ∨ p = 5 := by omega
  · rw [pk_shrN (by omega) ((2 * nI 0) &&& 31) 0 (by decide), pk_andN (by omega) 2 (by decide)]
  · rw [pk_shrN (by omega) ((2 * nI 1) &&& 31) 2 (by decide), pk_andN (by omega) 2 (by decide)]
  · rw [pk_shrN (by omega) ((2 * nI 2) &&& 31) 4 (by decide), pk_andN (by omega) 2 (by decide)]
  · rw [pk_shrN (by omega) ((2 * nI 3) &&& 31) 6 (by decide), pk_andN (by omega) 2 (by decide)]
  · rw [pk_shrN (by omega) ((2 * nI 4) &&& 31) 8 (by decide), pk_andN (by omega) 2 (by decide)]
  · rw [pk_shrN (by omega) ((2 * nI 5) &&& 31) 10 (by decide), pk_andN (by omega) 2 (by decide)]
