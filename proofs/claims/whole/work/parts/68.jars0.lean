/-! Part 68: jars, in natural numbers -/
/-- a set's weight, its size -/
def wt (s : Nat → Nat) (B : Nat → Bool) (n : Nat) : Nat := nsum (fun i => if B i = true then s i else 0) n
set_option maxHeartbeats 200000 in
theorem wt_upd {s : Nat → Nat} {B : Nat → Bool} {b : Nat} {v : Bool} : ∀ n, b < n → wt s (fun i => if i = b then v else B i) n + (if B b = true then s b else 0) = wt s B n + (if v = true then s b else 0)
  | 0, h => by omega
  | n + 1, h => by
    unfold wt nsum
    by_cases q : b = n
    · subst q
      have : nsum (fun i => if (if i = b then v else B i) = true then s i else 0) b = nsum (fun i => if B i = true then s i else 0) b := nsum_c b fun k hk => by
        rw [if_neg (show ¬ k = b by omega)]
      simp only [this, ↓reduceIte]
      omega
    · have ih := wt_upd (s := s) (B := B) (v := v) n (show b < n by omega)
      unfold wt at ih
      have hnb : (n = b) = False := eq_false (by omega)
      simp only [hnb, if_false] at ih ⊢
      omega
set_option maxHeartbeats 200000 in
theorem wt_s {s s' : Nat → Nat} {B : Nat → Bool} (n : Nat) (h : ∀ i, i < n → B i = true → s i = s' i) : wt s B n = wt s' B n := nsum_c n fun i hi => by
  by_cases q : B i = true
  · rw [if_pos q, if_pos q, h i hi q]
  · rw [if_neg q, if_neg q]
/-- the greedy choice: bs s is the place of a largest; k times -/
def gsum (bs : (Nat → Nat) → Nat) : Nat → (Nat → Nat) → Nat
  | 0, _ => 0
  | k + 1, s => s (bs s) + gsum bs k (fun i => if i = bs s then 0 else s i)
set_option maxHeartbeats 200000 in
theorem g_upper {n : Nat} {bs : (Nat → Nat) → Nat} (hb : ∀ s, bs s < n ∧ ∀ i, i < n → s i ≤ s (bs s)) : ∀ k (s : Nat → Nat) (B : Nat → Bool), wt (fun _ => 1) B n ≤ k → wt s B n ≤ gsum bs k s
  | 0, s, B, h => by
    have : ∀ i, i < n → B i = false := fun i hi => by
      cases q : B i
      · rfl
      · have := wt_upd (s := fun _ => 1) (B := B) (v := false) n hi
        rw [if_pos q] at this
        simp at this
        omega
    have e : wt s B n = 0 := nsum_0 n fun i hi => by rw [this i hi]; rfl
    omega
  | k + 1, s, B, h => by
    obtain ⟨h1, h2⟩ := hb s
    show _ ≤ s (bs s) + gsum bs k (fun i => if i = bs s then 0 else s i)
    by_cases q : B (bs s) = true
    · have e1 := wt_upd (s := s) (B := B) (v := false) n h1
      have e2 := wt_upd (s := fun _ => 1) (B := B) (v := false) n h1
      rw [if_pos q, if_neg (by decide)] at e1 e2
      have ih := g_upper hb k (fun i => if i = bs s then 0 else s i) (fun i => if i = bs s then false else B i) (by omega)
      rw [← wt_s (s := s) n (fun i hi hB => by
        by_cases z : i = bs s
        · rw [if_pos z] at hB
          exact absurd hB (by decide)
        · rw [if_neg z])] at ih
      omega
    · by_cases hex : ∃ j, j < n ∧ B j = true
      · obtain ⟨j, hj, hBj⟩ := hex
        have e1 := wt_upd (s := s) (B := B) (v := false) n hj
        have e2 := wt_upd (s := fun _ => 1) (B := B) (v := false) n hj
        rw [if_pos hBj, if_neg (by decide)] at e1 e2
        have ih := g_upper hb k (fun i => if i = bs s then 0 else s i) (fun i => if i = j then false else B i) (by omega)
        rw [← wt_s (s := s) n (fun i hi hB => by
          by_cases z : i = bs s
          · subst z
            by_cases zz : bs s = j
            · rw [if_pos zz] at hB
              exact absurd hB (by decide)
            · rw [if_neg zz] at hB
              exact absurd hB q
          · rw [if_neg z])] at ih
        have := h2 j hj
        omega
      · have e : wt s B n = 0 := nsum_0 n fun i hi => by
          rw [if_neg (fun z => hex ⟨i, hi, z⟩)]
        omega
set_option maxHeartbeats 200000 in
theorem g_attain {n : Nat} {bs : (Nat → Nat) → Nat} (hb : ∀ s, bs s < n ∧ ∀ i, i < n → s i ≤ s (bs s)) : ∀ k (s : Nat → Nat), ∃ B : Nat → Bool, wt (fun _ => 1) B n ≤ k ∧ wt s B n = gsum bs k s
  | 0, s => ⟨fun _ => false, by
      have : wt (fun _ => 1) (fun _ => false) n = 0 := nsum_0 n fun _ _ => rfl
      omega, nsum_0 n fun _ _ => rfl⟩
  | k + 1, s => by
    obtain ⟨h1, h2⟩ := hb s
    obtain ⟨B, hB1, hB2⟩ := g_attain hb k (fun i => if i = bs s then 0 else s i)
    refine ⟨fun i => if i = bs s then true else B i, ?_, ?_⟩
    · have e2 := wt_upd (s := fun _ => 1) (B := B) (v := true) n h1
      rw [if_pos rfl] at e2
      omega
    · have e1 := wt_upd (s := s) (B := B) (v := true) n h1
      rw [if_pos rfl] at e1
      have e3 := wt_upd (s := fun i => if i = bs s then 0 else s i) (B := B) (v := false) n h1
      simp only [Bool.false_eq_true, if_false, ite_self, ↓reduceIte, Nat.add_zero] at e3
      have e4 := wt_upd (s := s) (B := B) (v := false) n h1
      simp only [Bool.false_eq_true, if_false, Nat.add_zero] at e4
      have e5 : wt s (fun i => if i = bs s then false else B i) n = wt (fun i => if i = bs s then 0 else s i) (fun i => if i = bs s then false else B i) n := wt_s n fun i hi hBi => by
        by_cases z : i = bs s
        · rw [if_pos z] at hBi
          exact absurd hBi (by decide)
        · rw [if_neg z]
      show _ = s (bs s) + gsum bs k (fun i => if i = bs s then 0 else s i)
      rw [← hB2]
      omega
/-- the place of the first largest of n + 1 -/
def bst (s : Nat → Nat) : Nat → Nat
  | 0 => 0
  | i + 1 => if s (bst s i) < s (i + 1) then i + 1 else bst s i
set_option maxHeartbeats 200000 in
theorem bst_ok (s : Nat → Nat) : ∀ m, bst s m ≤ m ∧ ∀ i, i ≤ m → s i ≤ s (bst s m)
  | 0 => ⟨Nat.le_refl 0, fun i hi => by
      obtain rfl : i = 0 := by omega
      exact Nat.le_refl _⟩
  | m + 1 => by
    obtain ⟨h1, h2⟩ := bst_ok s m
    unfold bst
    by_cases q : s (bst s m) < s (m + 1)
    · rw [if_pos q]
      refine ⟨Nat.le_refl _, fun i hi => ?_⟩
      by_cases z : i = m + 1
      · rw [z]
        exact Nat.le_refl _
      · have := h2 i (by omega)
        omega
    · rw [if_neg q]
      refine ⟨by omega, fun i hi => ?_⟩
      by_cases z : i = m + 1
      · rw [z]
        omega
      · exact h2 i (by omega)
set_option maxHeartbeats 200000 in
/-- a set of bits as a function, and back -/
theorem wt_set {s : Nat → Nat} {B : Nat → Bool} {n : Nat} : ∃ m, m < 2 ^ n ∧ wt s (fun i => m.testBit i) n = wt s B n ∧ ∀ s', wt s' (fun i => m.testBit i) n = wt s' B n := by
  have hb := n_set_bit (fun i => if B i = true then (1 : Int32) else 0) n
  have key : ∀ s', wt s' (fun i => (n_set (fun i => if B i = true then (1 : Int32) else 0) n).testBit i) n = wt s' B n := fun s' => nsum_c n fun i hi => by
    have hbi := hb i
    cases q : B i
    · rw [q] at hbi
      simp at hbi
      rw [if_neg (fun z => Bool.noConfusion (hbi.symm.trans z)), if_neg (by decide)]
    · rw [q] at hbi
      simp [hi] at hbi
      rw [if_pos hbi, if_pos rfl]
  exact ⟨_, n_set_lt _ n, key s, key⟩
-- a thing with jars
set_option maxHeartbeats 200000 in
theorem jr_eq {c : Nat → Int32} {P T t m : Nat} (hP : P ≤ 6) (hT : T ≤ 8) (ht : t < 8) : ∀ i k, (k < 25 ∧ k ≠ 6) → y_jr c P T t m i k = y_yrs c P T i k
  | 0, _, _ => rfl
  | i + 1, k, hk => by
    show y_year (jb (y_jr c P T t m i) t (m.testBit i)) P T k = y_year (y_yrs c P T i) P T k
    unfold y_year
    rw [ud_ne hk.2, ud_ne hk.2, y_bites_at (by omega) (by omega) (by omega), y_bites_at (by omega) (by omega) (by omega)]
    unfold y_ages y_age y_liv
    have e : ∀ j, j < 25 → j ≠ 6 → jb (y_jr c P T t m i) t (m.testBit i) j = y_yrs c P T i j := fun j hj hj6 => by
      rw [jb_at (by omega)]
      exact jr_eq hP hT ht i j ⟨hj, hj6⟩
    by_cases h1 : 7 ≤ k ∧ k < 7 + P
    · rw [if_pos h1, if_pos h1, e _ (by omega) (by omega), e _ (by omega) (by omega)]
    · by_cases h2 : 19 ≤ k ∧ k < 19 + P
      · rw [if_neg h1, if_pos h2, if_neg h1, if_pos h2, e _ (by omega) (by omega), e 3 (by omega) (by omega), e _ (by omega) (by omega)]
      · rw [if_neg h1, if_neg h2, if_neg h1, if_neg h2, e k hk.1 hk.2]
/-- what a year with so much oil bites -/
def jbit (l d : Nat) (o : Bool) : Nat := if o = true then l * d / 4 / 2 else l * d / 4
/-- all that is bitten off in i years, if it is never through -/
def jtot (l : Nat → Nat) (d oi m : Nat) (i : Nat) : Nat := nsum (fun j => jbit (l (j + 1)) d (decide (j < oi) || m.testBit j)) i
set_option maxHeartbeats 200000 in
theorem jr_step {c : Nat → Int32} {P T t m i oi ru co th d l : Nat} (h : Okc c P T) (hP : P ≤ 6) (hT : T ≤ 8) (ht : t < T) (hi : i < 900) (eo : y_jr c P T t m i (49 + t) = nI (oi - i)) (er : y_jr c P T t m i (41 + t) = nI ru) (ec : y_jr c P T t m i (33 + t) = nI co) (eth : c (25 + t) = nI th) (ed : c 4 = nI d) (el : lvN c P t (i + 1) = nI l) (hoi : oi ≤ 3) (hru : ru ≤ 999) (hco : co ≤ 999) (hth : th ≤ 999) (hd : d ≤ 9) (hl : l ≤ 54) : y_jr c P T t m (i + 1) (49 + t) = nI (oi - (i + 1)) ∧ y_jr c P T t m (i + 1) (33 + t) = nI (co - (if ru < th then jbit l d (decide (i < oi) || m.testBit i) else 0)) ∧ y_jr c P T t m (i + 1) (41 + t) = nI (min 999 (ru + ((if ru < th then jbit l d (decide (i < oi) || m.testBit i) else 0) - co))) := by
  have ht8 : t < 8 := by omega
  have hldm := Nat.mul_le_mul hl hd
  generalize hc2 : jb (y_jr c P T t m i) t (m.testBit i) = c2
  have hs : y_jr c P T t m (i + 1) = y_year c2 P T := by rw [← hc2]; rfl
  have e2 : ∀ k, k ≠ 49 + t → c2 k = y_jr c P T t m i k := fun k hk => by rw [← hc2]; exact jb_at hk
  have hlv : i_lvf (i_sho (y_ages c2 P)) (y_ages c2 P) t P = nI l := by
    rw [← el]
    unfold lvN
    refine i_lvf_congr P (fun k hk => ?_) (fun k hk => ?_)
    · rw [← sho_yrs h hk hP hT (show i + 1 < 2000 by omega)]
      have e : ∀ j, j < 25 → j ≠ 6 → y_ages c2 P j = y_yrs c P T (i + 1) j := fun j hj hj6 => by
        rw [← jr_eq (m := m) hP hT ht8 (i + 1) j ⟨hj, hj6⟩, hs]
        unfold y_year
        rw [ud_ne hj6, y_bites_at (by omega) (by omega) (by omega)]
      have : i_sho (y_ages c2 P) k = i_sho (y_yrs c P T (i + 1)) k := by
        unfold i_sho
        rw [e (19 + k) (by omega) (by omega), e (13 + k) (by omega) (by omega), e (7 + k) (by omega) (by omega), e 2 (by omega) (by omega)]
      rw [this]
    · rw [y_ages_at (by omega) (by omega), e2 _ (by omega), y_jr_at _ (by omega) ht8 hP hT]
  -- the oil of this year
  obtain ⟨o2, ho2, ho2b, ho3⟩ : ∃ o2, c2 (49 + t) = nI o2 ∧ (o2 = 0 ↔ (decide (i < oi) || m.testBit i) = false) ∧ o2 - 1 = oi - (i + 1) ∧ o2 ≤ 3 := by
    rw [← hc2]
    unfold jb
    by_cases q : m.testBit i = true ∧ y_jr c P T t m i (49 + t) = 0
    · rw [if_pos q, ud_at, eo]
      have hz : oi - i = 0 := by
        have := q.2
        rw [eo, show (0 : Int32) = nI 0 from rfl, nI_eq (by omega) (by decide)] at this
        exact this
      refine ⟨1, by rw [hz]; rfl, ⟨fun z => absurd z (by decide), fun z => ?_⟩, by omega, by omega⟩
      rw [q.1] at z
      simp at z
    · rw [if_neg q]
      refine ⟨oi - i, eo, ⟨fun z => ?_, fun z => ?_⟩, by omega, by omega⟩
      · have hz : y_jr c P T t m i (49 + t) = 0 := by rw [eo, z]; rfl
        have hb : m.testBit i = false := by
          cases zz : m.testBit i
          · rfl
          · exact absurd ⟨zz, hz⟩ q
        rw [hb, Bool.or_false, decide_eq_false_iff_not]
        omega
      · rw [Bool.or_eq_false_iff, decide_eq_false_iff_not] at z
        omega
  have hbit : y_bit (y_ages c2 P) P t = nI (if ru < th then jbit l d (decide (i < oi) || m.testBit i) else 0) := by
    unfold y_bit
    rw [hlv, y_ages_at (by omega) (by omega), y_ages_at (by omega) (by omega), y_ages_at (by omega) (by omega), y_ages_at (by omega) (by omega), e2 _ (by omega), e2 _ (by omega), e2 4 (by omega), er, ho2, y_jr_at (25 + t) (by omega) ht8 hP hT, y_jr_at 4 (by omega) ht8 hP hT, eth, ed, q_bit_n (by omega) (by omega) (by omega) (by omega) (by omega)]
    unfold nbit jbit
    by_cases q : ru < th
    · rw [if_pos q, if_pos q]
      by_cases z : o2 = 0
      · rw [if_pos z, if_neg (by rw [ho2b.mp z]; decide)]
      · rw [if_neg z, if_pos (by
          cases zz : (decide (i < oi) || m.testBit i)
          · exact absurd (ho2b.mpr zz) z
          · rfl)]
    · rw [if_neg q, if_neg q]
  have hbl : (if ru < th then jbit l d (decide (i < oi) || m.testBit i) else 0) < 2000 := by
    unfold jbit
    split
    · split <;> omega
    · omega
  obtain ⟨q1, q2, q3⟩ := y_bites_on (c := y_ages c2 P) (P := P) ht hT
  rw [hs]
  unfold y_year
  rw [ud_ne (by omega), ud_ne (by omega), ud_ne (by omega), q1, q2, q3, hbit, y_ages_at (by omega) (by omega), y_ages_at (by omega) (by omega), y_ages_at (by omega) (by omega), e2 (33 + t) (by omega), e2 (41 + t) (by omega), er, ec, ho2, oil1_n (by omega), ho3.1, q_coa_n (by omega) (by omega), q_rus_n (by omega) (by omega) (by omega)]
  exact ⟨rfl, rfl, rfl⟩
set_option maxHeartbeats 200000 in
theorem jr_all {c : Nat → Int32} {P T t m oi ru co th d n : Nat} {l : Nat → Nat} (h : Okc c P T) (hP : P ≤ 6) (hT : T ≤ 8) (ht : t < T) (hn : n < 900) (eo : c (49 + t) = nI oi) (er : c (41 + t) = nI ru) (ec : c (33 + t) = nI co) (eth : c (25 + t) = nI th) (ed : c 4 = nI d) (hoi : oi ≤ 3) (hru : ru ≤ 999) (hco : co ≤ 999) (hth : th ≤ 999) (hd : d ≤ 9) (hl : ∀ i, 1 ≤ i → i ≤ n → lvN c P t i = nI (l i) ∧ l i ≤ 54) : ∀ i, i ≤ n → ∃ r k, r ≤ 999 ∧ k ≤ 999 ∧ y_jr c P T t m i (49 + t) = nI (oi - i) ∧ y_jr c P T t m i (33 + t) = nI k ∧ y_jr c P T t m i (41 + t) = nI r ∧ (r < th ↔ ru + (jtot l d oi m i - co) < th) ∧ (r < th → k = co - jtot l d oi m i ∧ r = ru + (jtot l d oi m i - co))
  | 0, _ => ⟨ru, co, hru, hco, eo, ec, er, by unfold jtot nsum; omega, fun _ => by unfold jtot nsum; omega⟩
  | i + 1, hi => by
    obtain ⟨r, k, hr, hk, a1, a2, a3, a4, a5⟩ := jr_all h hP hT ht hn eo er ec eth ed hoi hru hco hth hd hl i (by omega)
    obtain ⟨el, hl54⟩ := hl (i + 1) (by omega) hi
    obtain ⟨b1, b2, b3⟩ := jr_step h hP hT ht (by omega) a1 a3 a2 eth ed el hoi hr hk hth hd hl54
    have hj : jtot l d oi m (i + 1) = jtot l d oi m i + jbit (l (i + 1)) d (decide (i < oi) || m.testBit i) := rfl
    refine ⟨_, _, by omega, by omega, b1, b2, b3, ?_, ?_⟩
    · by_cases q : r < th
      · obtain ⟨c1, c2⟩ := a5 q
        rw [if_pos q]
        omega
      · rw [if_neg q]
        omega
    · by_cases q : r < th
      · obtain ⟨c1, c2⟩ := a5 q
        rw [if_pos q]
        omega
      · rw [if_neg q]
        omega
