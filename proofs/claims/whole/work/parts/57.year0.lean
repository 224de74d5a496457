/-! Part 57: a year in natural numbers; blocks stay such as can be -/
set_option maxHeartbeats 200000 in
theorem iMin_n {a b : Nat} (ha : a < 2 ^ 31) (hb : b < 2 ^ 31) : iMin (nI a) (nI b) = nI (min a b) := by
  unfold iMin
  split
  · rename_i h
    rw [nI_ltI hb ha] at h
    rw [Nat.min_eq_right (by omega)]
  · rename_i h
    rw [nI_ltI hb ha] at h
    rw [Nat.min_eq_left (by omega)]
set_option maxHeartbeats 200000 in
theorem iMax_n {a b : Nat} (ha : a < 2 ^ 31) (hb : b < 2 ^ 31) : iMax (nI a) (nI b) = nI (max a b) := by
  unfold iMax
  split
  · rename_i h
    rw [nI_ltI ha hb] at h
    rw [Nat.max_eq_right (by omega)]
  · rename_i h
    rw [nI_ltI ha hb] at h
    rw [Nat.max_eq_left (by omega)]
def nbit (ru th oi l d : Nat) : Nat := if ru < th then (if oi = 0 then l * d / 4 else l * d / 4 / 2) else 0
set_option maxHeartbeats 200000 in
theorem q_bit_n {ru th oi l d : Nat} (h1 : ru < 2000) (h2 : th < 2000) (h3 : oi < 2000) (h4 : l < 2000) (h5 : d < 2000) : q_bit (nI ru) (nI th) (nI oi) (nI l) (nI d) = nI (nbit ru th oi l d) := by
  unfold q_bit nbit
  have hm : l * d < 4000000 := by
    have := Nat.mul_le_mul (show l ≤ 1999 by omega) (show d ≤ 1999 by omega)
    omega
  have e1 : (nI ru < nI th) = (ru < th) := propext (nI_ltI (by omega) (by omega))
  have e2 : (nI oi ≤ 0) = (oi = 0) := by
    apply propext
    rw [show (0 : Int32) = nI 0 from rfl, nI_leI (by omega) (by omega)]
    omega
  have e4 : nI (l * d) / 4 = nI (l * d / 4) := pk_div (a := l * d) (d := 4) (by omega) (by omega) (by decide)
  have e5 : nI (l * d / 4) / 2 = nI (l * d / 4 / 2) := pk_div (a := l * d / 4) (d := 2) (by omega) (by omega) (by decide)
  simp only [e1, e2, pk_mul, e4, e5]
  split
  · split <;> rfl
  · rfl
set_option maxHeartbeats 200000 in
theorem q_coa_n {co b : Nat} (h1 : co < 2000) (h2 : b < 4000000) : q_coa (nI co) (nI b) = nI (co - b) := by
  unfold q_coa
  rw [iMin_n (by omega) (by omega), pk_sub (by omega)]
  congr 1
  omega
set_option maxHeartbeats 200000 in
theorem q_rus_n {co ru b : Nat} (h1 : co < 2000) (h2 : ru < 2000) (h3 : b < 4000000) : q_rus (nI co) (nI ru) (nI b) = nI (min 999 (ru + (b - co))) := by
  unfold q_rus
  rw [iMin_n (by omega) (by omega), nI_add, pk_sub (by omega), show (999 : Int32) = nI 999 from rfl, iMin_n (by omega) (by omega)]
  congr 2 <;> omega
set_option maxHeartbeats 200000 in
theorem oil_n {oi : Nat} (h : oi < 2000) (j : Nat) (hj : j < 2000) : iMax 0 (nI oi - nI j) = nI (oi - j) := by
  by_cases hq : j ≤ oi
  · rw [pk_sub hq, show (0 : Int32) = nI 0 from rfl, iMax_n (by omega) (by omega)]
    congr 1 <;> omega
  · unfold iMax
    have := pk_sneg (a := oi) (b := j) (by omega) (by omega)
    rw [if_neg (by
      intro q
      rw [Int32.lt_iff_toInt_lt] at this q
      omega), show oi - j = 0 by omega]
    rfl
set_option maxHeartbeats 200000 in
theorem oil1_n {oi : Nat} (h : oi < 2000) : iMax 0 (nI oi - 1) = nI (oi - 1) := oil_n h 1 (by omega)
set_option maxHeartbeats 200000 in
/-- loved by whom it shows in, as a number -/
theorem lvf_n {b c : Nat → Int32} {t : Nat} : ∀ n, (∀ k, k < n → bn (c (57 + 8 * k + t)) 9) → ∃ l, l ≤ 9 * n ∧ i_lvf b c t n = nI l
  | 0, _ => ⟨0, by omega, rfl⟩
  | n + 1, h => by
    obtain ⟨l, hl, e⟩ := lvf_n (b := b) n (fun k hk => h k (by omega))
    obtain ⟨m, hm, e'⟩ := h n (by omega)
    simp only [i_lvf, e, e']
    split
    · exact ⟨l, by omega, Int32.add_zero _⟩
    · exact ⟨l + m, by omega, nI_add l m⟩
set_option maxHeartbeats 200000 in
theorem Okc_lov_n {c : Nat → Int32} {P T t : Nat} (h : Okc c P T) (ht : t < 8) : ∀ k, k < P → bn (c (57 + 8 * k + t)) 9 := fun k hk => ((h.2.1 k hk).2 t ht).1
set_option maxHeartbeats 200000 in
theorem nbit_le {ru th oi l d : Nat} (hl : l ≤ 54) (hd : d ≤ 9) : nbit ru th oi l d ≤ 121 := by
  unfold nbit
  have := Nat.mul_le_mul hl hd
  split
  · split <;> omega
  · omega
set_option maxHeartbeats 200000 in
theorem y_bit_n {c : Nat → Int32} {P T t : Nat} (h : Okc c P T) (hP : P ≤ 6) (hT : T ≤ 8) (ht : t < T) : ∃ b, b ≤ 121 ∧ y_bit c P t = nI b := by
  obtain ⟨⟨-, -, ⟨d, hd, ed⟩, -⟩, -, h3⟩ := id h
  obtain ⟨⟨th, -, hth, eth⟩, -, ⟨ru, hru, eru⟩, ⟨oi, hoi, eoi⟩⟩ := h3 t ht
  obtain ⟨l, hl, el⟩ := lvf_n (b := i_sho c) P (Okc_lov_n h (show t < 8 by omega))
  refine ⟨nbit ru th oi l d, nbit_le (by omega) hd, ?_⟩
  unfold y_bit
  rw [eth, eru, eoi, el, ed, q_bit_n (by omega) (by omega) (by omega) (by omega) (by omega)]
set_option maxHeartbeats 200000 in
theorem Okc_ages {c : Nat → Int32} {P T n : Nat} (h : Okc c P T) (hP : P ≤ 6) (hT : T ≤ 8) (hn : n ≤ P) : Okc (y_ages c n) P T := by
  obtain ⟨h1, h2, h3⟩ := h
  obtain ⟨a1, ⟨lf, hl1, hl2, el⟩, a3⟩ := h1
  refine ⟨?_, fun p hp => ⟨?_, fun t ht => ?_⟩, fun t ht => ?_⟩
  · simp (disch := omega) only [y_ages_at]
    exact ⟨a1, ⟨lf, hl1, hl2, el⟩, a3⟩
  · obtain ⟨⟨b1, b2, b3, b4⟩, -⟩ := h2 p hp
    rw [y_ages_at (k := 13 + p) (by omega) (by omega)]
    by_cases hpn : p < n
    · have e1 : y_ages c n (7 + p) = y_age c p := by
        unfold y_ages
        rw [if_pos (by omega), show 7 + p - 7 = p by omega]
      have e2 : y_ages c n (19 + p) = y_liv c p := by
        unfold y_ages
        rw [if_neg (by omega), if_pos (by omega), show 19 + p - 19 = p by omega]
      rw [e1, e2]
      unfold y_age y_liv
      by_cases hl : c (19 + p) = 0
      · rw [if_pos hl, if_pos hl]
        exact ⟨b1, b2, b3, .inl hl⟩
      · rw [if_neg hl, if_neg hl]
        obtain ⟨a, ha, ea⟩ := b4.resolve_left hl
        rw [ea, el, nI_1]
        by_cases hq : lf ≤ a + 1
        · rw [if_pos (nI_le hq (by omega))]
          exact ⟨⟨a + 1, by omega, rfl⟩, b2, ⟨0, by omega, rfl⟩, .inl rfl⟩
        · rw [if_neg (nI_ge (by omega) (by omega))]
          exact ⟨⟨a + 1, by omega, rfl⟩, b2, b3, .inr ⟨a + 1, by omega, rfl⟩⟩
    · rw [y_ages_at (by omega) (by omega), y_ages_at (by omega) (by omega)]
      exact ⟨b1, b2, b3, b4⟩
  · rw [y_ages_at (by omega) (by omega)]
    exact (h2 p hp).2 t ht
  · simp (disch := omega) only [y_ages_at]
    exact h3 t ht
set_option maxHeartbeats 200000 in
theorem y_bites_on {c : Nat → Int32} {P n t : Nat} (ht : t < n) (hn : n ≤ 8) : y_bites c P n (33 + t) = q_coa (c (33 + t)) (y_bit c P t) ∧ y_bites c P n (41 + t) = q_rus (c (33 + t)) (c (41 + t)) (y_bit c P t) ∧ y_bites c P n (49 + t) = iMax 0 (c (49 + t) - 1) := by
  unfold y_bites
  refine ⟨?_, ?_, ?_⟩
  · rw [if_pos (by omega), show 33 + t - 33 = t by omega]
  · rw [if_neg (by omega), if_pos (by omega), show 41 + t - 8 = 33 + t by omega, show 41 + t - 41 = t by omega]
  · rw [if_neg (by omega), if_neg (by omega), if_pos (by omega)]
set_option maxHeartbeats 200000 in
theorem Okc_bites {c : Nat → Int32} {P T n : Nat} (h : Okc c P T) (hP : P ≤ 6) (hT : T ≤ 8) (hn : n ≤ T) : Okc (y_bites c P n) P T := by
  obtain ⟨h1, h2, h3⟩ := id h
  refine ⟨?_, fun p hp => ⟨?_, fun t ht => ?_⟩, fun t ht => ?_⟩
  · simp (disch := omega) only [y_bites_at]
    exact h1
  · simp (disch := omega) only [y_bites_at]
    exact (h2 p hp).1
  · rw [y_bites_at (by omega) (by omega) (by omega)]
    exact (h2 p hp).2 t ht
  · obtain ⟨b1, ⟨co, hco, eco⟩, ⟨ru, hru, eru⟩, ⟨oi, hoi, eoi⟩⟩ := h3 t ht
    rw [y_bites_at (k := 25 + t) (by omega) (by omega) (by omega)]
    by_cases htn : t < n
    · obtain ⟨q1, q2, q3⟩ := y_bites_on (c := c) (P := P) htn (by omega)
      obtain ⟨b, hb, eb⟩ := y_bit_n h hP hT ht
      rw [q1, q2, q3, eco, eru, eoi, eb, q_coa_n (by omega) (by omega), q_rus_n (by omega) (by omega) (by omega), oil1_n (by omega)]
      exact ⟨b1, ⟨_, by omega, rfl⟩, ⟨_, by omega, rfl⟩, ⟨_, by omega, rfl⟩⟩
    · rw [y_bites_at (by omega) (by omega) (by omega), y_bites_at (by omega) (by omega) (by omega), y_bites_at (by omega) (by omega) (by omega)]
      exact ⟨b1, ⟨co, hco, eco⟩, ⟨ru, hru, eru⟩, ⟨oi, hoi, eoi⟩⟩
/-- a year but for its number -/
def y_step (c : Nat → Int32) (P T : Nat) : Nat → Int32 := y_bites (y_ages c P) P T
def y_sts (c : Nat → Int32) (P T : Nat) : Nat → Nat → Int32
  | 0 => c
  | n + 1 => y_step (y_sts c P T n) P T
set_option maxHeartbeats 200000 in
theorem Okc_step {c : Nat → Int32} {P T : Nat} (h : Okc c P T) (hP : P ≤ 6) (hT : T ≤ 8) : Okc (y_step c P T) P T := Okc_bites (Okc_ages h hP hT (Nat.le_refl P)) hP hT (Nat.le_refl T)
set_option maxHeartbeats 200000 in
theorem y_step_at {c : Nat → Int32} {P T : Nat} (k : Nat) (h : k < 7 ∨ (13 ≤ k ∧ k < 19) ∨ (25 ≤ k ∧ k < 33) ∨ 57 ≤ k) (hP : P ≤ 6) (hT : T ≤ 8) : y_step c P T k = c k := by
  unfold y_step
  rw [y_bites_at (by omega) (by omega) (by omega), y_ages_at (by omega) (by omega)]
set_option maxHeartbeats 200000 in
theorem y_sts_at {c : Nat → Int32} {P T : Nat} (k : Nat) (h : k < 7 ∨ (13 ≤ k ∧ k < 19) ∨ (25 ≤ k ∧ k < 33) ∨ 57 ≤ k) (hP : P ≤ 6) (hT : T ≤ 8) : ∀ n, y_sts c P T n k = c k
  | 0 => rfl
  | n + 1 => by rw [y_sts, y_step_at k h hP hT, y_sts_at k h hP hT n]
set_option maxHeartbeats 200000 in
theorem y_step_dim {c : Nat → Int32} {P T : Nat} (hD : Dim c P T) : Dim (y_step c P T) P T := by
  obtain ⟨hP0, hT0, hP6, hT8⟩ := id hD
  exact ⟨by rw [y_step_at 0 (by omega) hP6 hT8, hP0], by rw [y_step_at 1 (by omega) hP6 hT8, hT0], hP6, hT8⟩
set_option maxHeartbeats 200000 in
theorem y_sts_dim {c : Nat → Int32} {P T : Nat} (hD : Dim c P T) : ∀ n, Dim (y_sts c P T n) P T
  | 0 => hD
  | n + 1 => y_step_dim (y_sts_dim hD n)
set_option maxHeartbeats 200000 in
theorem Okc_sts {c : Nat → Int32} {P T : Nat} (h : Okc c P T) (hP : P ≤ 6) (hT : T ≤ 8) : ∀ n, Okc (y_sts c P T n) P T
  | 0 => h
  | n + 1 => Okc_step (Okc_sts h hP hT n) hP hT
set_option maxHeartbeats 200000 in
/-- a block's cell 6 does nothing in a year -/
theorem ages6 (c : Nat → Int32) (v : Int32) {P : Nat} (hP : P ≤ 6) : y_ages (ud c 6 v) P = ud (y_ages c P) 6 v := by
  funext k
  unfold y_ages y_age y_liv
  by_cases h6 : k = 6
  · subst h6
    rw [if_neg (by omega), if_neg (by omega), ud_at, ud_at]
  · rw [ud_ne (k := 6) (j := k) h6]
    by_cases h1 : 7 ≤ k ∧ k < 7 + P
    · simp (disch := omega) only [if_pos h1, ud_ne]
    · by_cases h2 : 19 ≤ k ∧ k < 19 + P
      · simp (disch := omega) only [if_neg h1, if_pos h2, ud_ne]
      · simp (disch := omega) only [if_neg h1, if_neg h2, ud_ne]
set_option maxHeartbeats 200000 in
theorem bit6 (c : Nat → Int32) (v : Int32) {P t : Nat} (hP : P ≤ 6) (ht : t < 8) : y_bit (ud c 6 v) P t = y_bit c P t := by
  unfold y_bit
  rw [i_lvf_congr (b' := i_sho c) (c' := c) P (fun k hk => ?_) (fun k hk => ud_ne (by omega)), ud_ne (by omega), ud_ne (by omega), ud_ne (by omega), ud_ne (by omega)]
  unfold i_sho
  rw [ud_ne (by omega), ud_ne (by omega), ud_ne (by omega), ud_ne (by omega)]
set_option maxHeartbeats 200000 in
theorem bites6 (c : Nat → Int32) (v : Int32) {P T : Nat} (hP : P ≤ 6) (hT : T ≤ 8) : y_bites (ud c 6 v) P T = ud (y_bites c P T) 6 v := by
  funext k
  by_cases h6 : k = 6
  · subst h6
    rw [y_bites_at (by omega) (by omega) (by omega), ud_at, ud_at]
  · rw [ud_ne (k := 6) (j := k) h6]
    unfold y_bites
    by_cases h1 : 33 ≤ k ∧ k < 33 + T
    · rw [if_pos h1, if_pos h1, bit6 c v hP (by omega), ud_ne (by omega)]
    · by_cases h2 : 41 ≤ k ∧ k < 41 + T
      · rw [if_neg h1, if_pos h2, if_neg h1, if_pos h2, bit6 c v hP (by omega), ud_ne (by omega), ud_ne (by omega)]
      · by_cases h3 : 49 ≤ k ∧ k < 49 + T
        · rw [if_neg h1, if_neg h2, if_pos h3, if_neg h1, if_neg h2, if_pos h3, ud_ne (by omega)]
        · rw [if_neg h1, if_neg h2, if_neg h3, if_neg h1, if_neg h2, if_neg h3, ud_ne (by omega)]
set_option maxHeartbeats 200000 in
theorem yrs_sts {c : Nat → Int32} {P T : Nat} (hP : P ≤ 6) (hT : T ≤ 8) : ∀ n, y_yrs c P T n = ud (y_sts c P T n) 6 (c 6 + nI n)
  | 0 => by
    rw [y_yrs, y_sts, nI_0, Int32.add_zero, ud_self]
  | n + 1 => by
    have e : y_step (ud (y_sts c P T n) 6 (c 6 + nI n)) P T = ud (y_step (y_sts c P T n) P T) 6 (c 6 + nI n) := by
      unfold y_step
      rw [ages6 _ _ hP, bites6 _ _ hP hT]
    rw [y_yrs, yrs_sts hP hT n, y_sts]
    unfold y_year
    rw [show y_bites (y_ages (ud (y_sts c P T n) 6 (c 6 + nI n)) P) P T = y_step (ud (y_sts c P T n) 6 (c 6 + nI n)) P T from rfl, e, ud_ud, ud_at, nI_succ, Int32.add_assoc]
set_option maxHeartbeats 200000 in
theorem Okc_yrs {c : Nat → Int32} {P T n y : Nat} (h : Okc c P T) (hP : P ≤ 6) (hT : T ≤ 8) (hy : c 6 = nI y) (hn : y + n ≤ 9999) : Okc (y_yrs c P T n) P T := by
  rw [yrs_sts hP hT, hy, nI_add]
  exact Okc_f6 (Okc_sts h hP hT n) hP hT ⟨y + n, hn, rfl⟩
/-- with nobody living only oil goes -/
def y_oils (c : Nat → Int32) (T j : Nat) : Nat → Int32 := fun k => if 49 ≤ k ∧ k < 49 + T then iMax 0 (c k - nI j) else c k
set_option maxHeartbeats 200000 in
theorem lvf_dead {b c : Nat → Int32} {t : Nat} : ∀ n, (∀ k, k < n → b k = 0) → i_lvf b c t n = 0
  | 0, _ => rfl
  | n + 1, h => by
    simp only [i_lvf, lvf_dead n (fun k hk => h k (by omega)), h n (by omega), if_true]
    rfl
set_option maxHeartbeats 200000 in
theorem y_step_dead {c : Nat → Int32} {P T : Nat} (h : Okc c P T) (hP : P ≤ 6) (hT : T ≤ 8) (hd : ∀ p, p < P → c (19 + p) = 0) : y_step c P T = y_oils c T 1 := by
  have ha : y_ages c P = c := by
    funext k
    unfold y_ages y_age y_liv
    by_cases h1 : 7 ≤ k ∧ k < 7 + P
    · rw [if_pos h1, if_pos (hd _ (by omega)), show 7 + (k - 7) = k by omega]
    · rw [if_neg h1]
      by_cases h2 : 19 ≤ k ∧ k < 19 + P
      · rw [if_pos h2, if_pos (hd _ (by omega)), show 19 + (k - 19) = k by omega]
      · rw [if_neg h2]
  have hb : ∀ t, t < T → y_bit c P t = 0 := fun t ht => by
    unfold y_bit
    rw [lvf_dead P (fun k hk => by unfold i_sho; rw [hd k hk]; rfl)]
    obtain ⟨⟨-, -, ⟨d, hd, ed⟩, -⟩, -, -⟩ := id h
    unfold q_bit
    have e0 : (0 : Int32) * c 4 / 4 = 0 := by
      rw [ed, show (0 : Int32) = nI 0 from rfl, pk_mul, Nat.zero_mul]
      rfl
    rw [e0]
    split
    · split <;> rfl
    · rfl
  unfold y_step
  rw [ha]
  funext k
  unfold y_bites y_oils
  by_cases h1 : 33 ≤ k ∧ k < 33 + T
  · obtain ⟨-, ⟨co, hco, eco⟩, -, -⟩ := h.2.2 (k - 33) (by omega)
    rw [show 33 + (k - 33) = k by omega] at eco
    rw [if_pos h1, if_neg (by omega), hb _ (by omega), eco, show (0 : Int32) = nI 0 from rfl, q_coa_n (by omega) (by omega)]
    rfl
  · by_cases h2 : 41 ≤ k ∧ k < 41 + T
    · obtain ⟨-, ⟨co, hco, eco⟩, ⟨ru, hru, eru⟩, -⟩ := h.2.2 (k - 41) (by omega)
      rw [show 33 + (k - 41) = k - 8 by omega] at eco
      rw [show 41 + (k - 41) = k by omega] at eru
      rw [if_neg h1, if_pos h2, if_neg (by omega), hb _ (by omega), eco, eru, show (0 : Int32) = nI 0 from rfl, q_rus_n (by omega) (by omega) (by omega)]
      congr 1
      omega
    · rw [if_neg h1, if_neg h2]
      rfl
set_option maxHeartbeats 200000 in
theorem y_oils_Okc {c : Nat → Int32} {P T j : Nat} (h : Okc c P T) (hP : P ≤ 6) (hT : T ≤ 8) (hj : j < 2000) : Okc (y_oils c T j) P T ∧ ∀ k, ¬ (49 ≤ k ∧ k < 49 + T) → y_oils c T j k = c k := by
  have hn : ∀ k, ¬ (49 ≤ k ∧ k < 49 + T) → y_oils c T j k = c k := fun k hk => if_neg hk
  refine ⟨?_, hn⟩
  obtain ⟨h1, h2, h3⟩ := h
  refine ⟨?_, fun p hp => ⟨?_, fun t ht => ?_⟩, fun t ht => ?_⟩
  · simp (disch := omega) only [hn]
    exact h1
  · simp (disch := omega) only [hn]
    exact (h2 p hp).1
  · rw [hn _ (by omega)]
    exact (h2 p hp).2 t ht
  · obtain ⟨b1, b2, b3, ⟨oi, hoi, eoi⟩⟩ := h3 t ht
    rw [hn _ (by omega), hn _ (by omega), hn _ (by omega)]
    refine ⟨b1, b2, b3, ?_⟩
    unfold y_oils
    rw [if_pos (by omega), eoi, oil_n (by omega) j hj]
    exact ⟨oi - j, by omega, rfl⟩
set_option maxHeartbeats 200000 in
theorem y_oils_oils {c : Nat → Int32} {P T : Nat} (h : Okc c P T) {i j : Nat} (hi : i < 1000) (hj : j < 1000) : y_oils (y_oils c T i) T j = y_oils c T (i + j) := by
  funext k
  unfold y_oils
  by_cases h1 : 49 ≤ k ∧ k < 49 + T
  · obtain ⟨-, -, -, ⟨oi, hoi, eoi⟩⟩ := h.2.2 (k - 49) (by omega)
    rw [show 49 + (k - 49) = k by omega] at eoi
    rw [if_pos h1, if_pos h1, if_pos h1, eoi, oil_n (by omega) i (by omega), oil_n (by omega) j (by omega), oil_n (by omega) (i + j) (by omega)]
    congr 1
    omega
  · rw [if_neg h1, if_neg h1, if_neg h1]
set_option maxHeartbeats 200000 in
theorem y_oils_0 {c : Nat → Int32} {P T : Nat} (h : Okc c P T) : y_oils c T 0 = c := by
  funext k
  unfold y_oils
  by_cases h1 : 49 ≤ k ∧ k < 49 + T
  · obtain ⟨-, -, -, ⟨oi, hoi, eoi⟩⟩ := h.2.2 (k - 49) (by omega)
    rw [show 49 + (k - 49) = k by omega] at eoi
    rw [if_pos h1, eoi, oil_n (by omega) 0 (by omega)]
    rfl
  · rw [if_neg h1]
set_option maxHeartbeats 200000 in
theorem y_sts_dead {c : Nat → Int32} {P T : Nat} (h : Okc c P T) (hP : P ≤ 6) (hT : T ≤ 8) (hd : ∀ p, p < P → c (19 + p) = 0) : ∀ n, n < 1000 → y_sts c P T n = y_oils c T n
  | 0, _ => (y_oils_0 h).symm
  | n + 1, hn => by
    obtain ⟨q1, q2⟩ := y_oils_Okc (j := n) h hP hT (by omega)
    rw [y_sts, y_sts_dead h hP hT hd n (by omega), y_step_dead q1 hP hT (fun p hp => by rw [q2 _ (by omega)]; exact hd p hp), y_oils_oils h (by omega) (by omega)]
set_option maxHeartbeats 200000 in
theorem y_sts_add {c : Nat → Int32} {P T i : Nat} : ∀ j, y_sts c P T (i + j) = y_sts (y_sts c P T i) P T j
  | 0 => rfl
  | j + 1 => by
    show y_step (y_sts c P T (i + j)) P T = _
    rw [y_sts_add j]
    rfl
