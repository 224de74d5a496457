/-! Part 43: pure functions over a block c of numbers; a family's cells and its block -/
def ud {α : Type} (c : Nat → α) (k : Nat) (v : α) : Nat → α := fun j => if j = k then v else c j
theorem ud_at {α : Type} (c : Nat → α) (k : Nat) (v : α) : ud c k v k = v := if_pos rfl
theorem ud_ne {α : Type} {c : Nat → α} {k j : Nat} {v : α} (h : ¬ j = k) : ud c k v j = c j := if_neg h
theorem I_row (μ : mM) (a : mA) (k : Nat) (v : Int32) : m_I (m_sI μ a k v) a = ud (m_I μ a) k v := by
  funext j
  simp [I_sI, ud]
theorem J_row (μ : mM) (a : mA) (k : Nat) (v : Int64) : m_J (m_sJ μ a k v) a = ud (m_J μ a) k v := by
  funext j
  simp [J_sJ, ud]
theorem I_ne {x y z x' y' z' k : Nat} {v : Int32} (μ : mM) (h : Nat.beq x' x = false) : m_I (m_sI μ (x, y, z) k v) (x', y', z') = m_I μ (x', y', z') := by
  have h1 : x' ≠ x := Nat.ne_of_beq_eq_false h
  funext j
  simp [I_sI, h1]
theorem J_ne {x y z x' y' z' k : Nat} {v : Int64} (μ : mM) (h : Nat.beq x' x = false) : m_J (m_sJ μ (x, y, z) k v) (x', y', z') = m_J μ (x', y', z') := by
  have h1 : x' ≠ x := Nat.ne_of_beq_eq_false h
  funext j
  simp [J_sJ, h1]
theorem I_rat (μ : mM) (a : mA) (g : Nat → Int32) : m_I (m_rI μ a g) a = g := by simp [I_rI]
theorem J_rat (μ : mM) (a : mA) (g : Nat → Int64) : m_J (m_rJ μ a g) a = g := by simp [J_rJ]
theorem I_rne {x y z x' y' z' : Nat} {g : Nat → Int32} (μ : mM) (h : Nat.beq x' x = false) : m_I (m_rI μ (x, y, z) g) (x', y', z') = m_I μ (x', y', z') := by
  have h1 : x' ≠ x := Nat.ne_of_beq_eq_false h
  simp [I_rI, h1]
theorem J_rne {x y z x' y' z' : Nat} {g : Nat → Int64} (μ : mM) (h : Nat.beq x' x = false) : m_J (m_rJ μ (x, y, z) g) (x', y', z') = m_J μ (x', y', z') := by
  have h1 : x' ≠ x := Nat.ne_of_beq_eq_false h
  simp [J_rJ, h1]
theorem sI_rI (μ : mM) (a : mA) (k : Nat) (v : Int32) : m_sI μ a k v = m_rI μ a (ud (m_I μ a) k v) := by
  unfold m_sI m_rI
  congr 2
  funext b j
  by_cases h : b = a <;> simp [m_u, m_row, ud, m_I, h]
theorem sJ_rJ (μ : mM) (a : mA) (k : Nat) (v : Int64) : m_sJ μ a k v = m_rJ μ a (ud (m_J μ a) k v) := by
  unfold m_sJ m_rJ
  congr 3
  funext b j
  by_cases h : b = a <;> simp [m_u, m_row, ud, m_J, h]
theorem rI_rI (μ : mM) (a : mA) (g h : Nat → Int32) : m_rI (m_rI μ a g) a h = m_rI μ a h := by
  unfold m_rI
  congr 2
  funext b
  by_cases h : b = a <;> simp [m_row, h]
theorem rJ_rJ (μ : mM) (a : mA) (g h : Nat → Int64) : m_rJ (m_rJ μ a g) a h = m_rJ μ a h := by
  unfold m_rJ
  congr 3
  funext b
  by_cases h : b = a <;> simp [m_row, h]
theorem rI_self (μ : mM) (a : mA) : m_rI μ a (m_I μ a) = μ := by
  have : m_row μ.2.1 a (m_I μ a) = μ.2.1 := by
    funext b
    by_cases h : b = a <;> simp [m_row, m_I, h]
  unfold m_rI
  rw [this]
theorem rJ_self (μ : mM) (a : mA) : m_rJ μ a (m_J μ a) = μ := by
  have : m_row μ.2.2.1 a (m_J μ a) = μ.2.2.1 := by
    funext b
    by_cases h : b = a <;> simp [m_row, m_J, h]
  unfold m_rJ
  rw [this]
/-- flags as a set -/
def i_set (b : Nat → Int32) : Nat → Int32
  | 0 => 0
  | n + 1 => i_set b n ||| (if b n = 0 then (0 : Int32) else (1 : Int32) <<< (nI n &&& 31))
theorem or_if (b x y : Int32) : (if b = 0 then x else x ||| y) = x ||| (if b = 0 then (0 : Int32) else y) := by
  split
  · exact (Int32.or_zero).symm
  · rfl
theorem i_set_congr {b b' : Nat → Int32} : ∀ n, (∀ k, k < n → (b k = 0 ↔ b' k = 0)) → i_set b n = i_set b' n
  | 0, _ => rfl
  | n + 1, h => by
    simp only [i_set, i_set_congr n (fun k hk => h k (by omega)), h n (by omega)]
/-- the same as a natural number -/
def n_set (b : Nat → Int32) : Nat → Nat
  | 0 => 0
  | n + 1 => n_set b n + (if b n = 0 then 0 else 2 ^ n)
theorem n_set_lt (b : Nat → Int32) : ∀ n, n_set b n < 2 ^ n
  | 0 => by simp [n_set]
  | n + 1 => by
    have := n_set_lt b n
    simp only [n_set, Nat.pow_succ]
    split <;> omega
theorem n_set_bit (b : Nat → Int32) : ∀ n k, (n_set b n).testBit k = (decide (k < n) && decide (b k ≠ 0))
  | 0, k => by simp [n_set]
  | n + 1, k => by
    have ih := n_set_bit b n
    have hl := n_set_lt b n
    simp only [n_set]
    by_cases hb : b n = 0
    · rw [if_pos hb, Nat.add_zero, ih k]
      by_cases hk : k = n
      · subst hk
        simp [hb]
      · have : (k < n + 1) = (k < n) := by apply propext; omega
        simp [this]
    · rw [if_neg hb, Nat.add_comm]
      rcases Nat.lt_trichotomy k n with hk | hk | hk
      · rw [Nat.testBit_two_pow_add_gt hk, ih k]
        have : (k < n + 1) = (k < n) := by apply propext; omega
        simp [this]
      · subst hk
        rw [Nat.testBit_two_pow_add_eq, Nat.testBit_lt_two_pow hl]
        simp [hb]
      · rw [Nat.testBit_lt_two_pow]
        · have : ¬ k < n + 1 := by omega
          simp [this]
        · have : 2 ^ (n + 1) ≤ 2 ^ k := Nat.pow_le_pow_right (by omega) (by omega)
          rw [Nat.pow_succ] at this
          omega
theorem or_1shl : ∀ n : Nat, n < 8 → ∀ m : Nat, m < 2 ^ n → nI m ||| (1 <<< (nI n &&& 31)) = nI (m + 2 ^ n) := by decide +kernel
theorem i_set_n (b : Nat → Int32) : ∀ n, n ≤ 8 → i_set b n = nI (n_set b n)
  | 0, _ => rfl
  | n + 1, h => by
    have hl := n_set_lt b n
    simp only [i_set, n_set, i_set_n b n (by omega)]
    split
    · exact Int32.or_zero
    · exact or_1shl n (by omega) _ hl
theorem bit_dec : ∀ m : Nat, m < 256 → ∀ i : Nat, i < 8 → ((nI m >>> (nI i &&& 31)) &&& 1) = (if m.testBit i then 1 else 0) := by decide +kernel
theorem i_set_bit {b : Nat → Int32} {n i : Nat} (hn : n ≤ 8) (hi : i < 8) : ((i_set b n >>> (nI i &&& 31)) &&& 1) = if i < n ∧ b i ≠ 0 then 1 else 0 := by
  have hl := n_set_lt b n
  have : n_set b n < 256 := Nat.lt_of_lt_of_le hl (Nat.pow_le_pow_right (by omega) hn)
  rw [i_set_n b n hn, bit_dec _ this i hi, n_set_bit]
  simp
