/-! Part 69o: who keeps what, in natural numbers -/
set_option maxHeartbeats 200000 in
theorem or_bit : ∀ U : Nat, U < 256 → ∀ t : Nat, t < 8 → U.testBit t = false → nI U ||| (1 <<< (nI t &&& 31)) = nI (U + 2 ^ t) := by decide +kernel
set_option maxHeartbeats 200000 in
theorem bit_add : ∀ U : Nat, U < 256 → ∀ t : Nat, t < 8 → U.testBit t = false → ∀ k : Nat, k < 8 → (U + 2 ^ t).testBit k = (U.testBit k || decide (k = t)) := by decide +kernel
set_option maxHeartbeats 200000 in
theorem bit_lt : ∀ T : Nat, T < 9 → ∀ t : Nat, t < T → ∀ U : Nat, U < 2 ^ T → U.testBit t = false → U + 2 ^ t < 2 ^ T := by decide +kernel
set_option maxHeartbeats 200000 in
theorem bcv_n : ∀ U : Nat, U < 256 → bcv (nI U) = nI (cnt U.testBit 8) := by decide +kernel
set_option maxHeartbeats 200000 in
theorem cnt_add : ∀ U : Nat, U < 256 → ∀ t : Nat, t < 8 → U.testBit t = false → cnt (U + 2 ^ t).testBit 8 = cnt U.testBit 8 + 1 := by decide +kernel
set_option maxHeartbeats 200000 in
theorem cnt_s (S : Nat → Bool) (n : Nat) : cnt S (n + 1) = cnt S n + (if S n = true then 1 else 0) := rfl
set_option maxHeartbeats 200000 in
theorem cnt_c {S S' : Nat → Bool} : ∀ n, (∀ k, k < n → S k = S' k) → cnt S n = cnt S' n
  | 0, _ => rfl
  | n + 1, h => by rw [cnt_s, cnt_s, cnt_c n (fun k hk => h k (by omega)), h n (by omega)]
set_option maxHeartbeats 200000 in
theorem cnt_ex {S : Nat → Bool} : ∀ n, 0 < cnt S n → ∃ t, t < n ∧ S t = true
  | 0, h => absurd h (Nat.lt_irrefl 0)
  | n + 1, h => by
    rw [cnt_s] at h
    by_cases z : S n = true
    · exact ⟨n, by omega, z⟩
    · rw [if_neg z] at h
      obtain ⟨t, h1, h2⟩ := cnt_ex n h
      exact ⟨t, by omega, h2⟩
set_option maxHeartbeats 200000 in
theorem cnt_find {S : Nat → Bool} {i : Nat} : ∀ n, i < cnt S n → ∃ p, p < n ∧ S p = true ∧ cnt S p = i
  | 0, h => absurd h (by show ¬ i < 0; omega)
  | n + 1, h => by
    rw [cnt_s] at h
    by_cases z : i < cnt S n
    · obtain ⟨p, h1, h2⟩ := cnt_find n z
      exact ⟨p, by omega, h2⟩
    · by_cases y : S n = true
      · rw [if_pos y] at h
        exact ⟨n, by omega, y, by omega⟩
      · rw [if_neg y] at h
        omega
/-- without t -/
def rm (av : Nat → Bool) (t : Nat) : Nat → Bool := fun k => av k && decide (k ≠ t)
set_option maxHeartbeats 200000 in
theorem rm_at {av : Nat → Bool} {t : Nat} : rm av t t = false := by
  unfold rm
  rw [decide_eq_false (by simp), Bool.and_false]
set_option maxHeartbeats 200000 in
theorem rm_ne {av : Nat → Bool} {t k : Nat} (h : k ≠ t) : rm av t k = av k := by
  unfold rm
  rw [decide_eq_true h, Bool.and_true]
set_option maxHeartbeats 200000 in
theorem cnt_rm {av : Nat → Bool} {t : Nat} (ha : av t = true) : ∀ n, t < n → cnt (rm av t) n + 1 = cnt av n
  | 0, h => by omega
  | n + 1, h => by
    rw [cnt_s, cnt_s]
    by_cases z : n = t
    · subst z
      rw [rm_at, if_pos ha, cnt_c (S' := av) n (fun k hk => rm_ne (by omega))]
      simp
    · have := cnt_rm ha n (by omega)
      rw [rm_ne z]
      omega
/-- the least of those that are there, 1,000,000 without -/
def mn (g : Nat → Nat) (av : Nat → Bool) : Nat → Nat
  | 0 => 1000000
  | n + 1 => if av n = true then min (mn g av n) (g n) else mn g av n
/-- where it is first -/
def ft (g : Nat → Nat) (av : Nat → Bool) : Nat → Nat
  | 0 => 0
  | n + 1 => if av n = true ∧ g n < mn g av n then n else ft g av n
set_option maxHeartbeats 200000 in
theorem mn_c {g g' : Nat → Nat} {av av' : Nat → Bool} : ∀ n, (∀ k, k < n → av k = av' k ∧ g k = g' k) → mn g av n = mn g' av' n
  | 0, _ => rfl
  | n + 1, h => by
    have ih := mn_c n (fun k hk => h k (by omega))
    obtain ⟨h1, h2⟩ := h n (by omega)
    show (if av n = true then min (mn g av n) (g n) else mn g av n) = if av' n = true then min (mn g' av' n) (g' n) else mn g' av' n
    rw [ih, h1, h2]
set_option maxHeartbeats 200000 in
theorem ft_c {g g' : Nat → Nat} {av av' : Nat → Bool} : ∀ n, (∀ k, k < n → av k = av' k ∧ g k = g' k) → ft g av n = ft g' av' n
  | 0, _ => rfl
  | n + 1, h => by
    have ih := ft_c n (fun k hk => h k (by omega))
    obtain ⟨h1, h2⟩ := h n (by omega)
    show (if av n = true ∧ g n < mn g av n then n else ft g av n) = if av' n = true ∧ g' n < mn g' av' n then n else ft g' av' n
    rw [ih, h1, h2, mn_c n (fun k hk => h k (by omega))]
set_option maxHeartbeats 200000 in
theorem mn_le {g : Nat → Nat} {av : Nat → Bool} : ∀ n, mn g av n ≤ 1000000
  | 0 => Nat.le_refl _
  | n + 1 => by
    have ih := mn_le (g := g) (av := av) n
    unfold mn
    split <;> omega
set_option maxHeartbeats 200000 in
theorem mn_lb {g : Nat → Nat} {av : Nat → Bool} {t : Nat} (ha : av t = true) : ∀ n, t < n → mn g av n ≤ g t
  | 0, h => by omega
  | n + 1, h => by
    unfold mn
    by_cases z : n = t
    · subst z
      rw [if_pos ha]
      omega
    · have := mn_lb (g := g) ha n (by omega)
      split <;> omega
set_option maxHeartbeats 200000 in
theorem mn_ft {g : Nat → Nat} {av : Nat → Bool} : ∀ n, mn g av n < 1000000 → ft g av n < n ∧ av (ft g av n) = true ∧ g (ft g av n) = mn g av n ∧ ∀ t, t < ft g av n → av t = true → mn g av n < g t
  | 0, h => absurd h (by show ¬ 1000000 < 1000000; omega)
  | n + 1, h => by
    show (if av n = true ∧ g n < mn g av n then n else ft g av n) < n + 1 ∧ _
    by_cases z : av n = true ∧ g n < mn g av n
    · have e1 : ft g av (n + 1) = n := if_pos z
      have e2 : mn g av (n + 1) = g n := by
        show (if av n = true then min (mn g av n) (g n) else mn g av n) = g n
        rw [if_pos z.1]
        omega
      rw [e1, e2, if_pos z]
      exact ⟨by omega, z.1, rfl, fun t ht hat => Nat.lt_of_lt_of_le z.2 (mn_lb hat n ht)⟩
    · have e1 : ft g av (n + 1) = ft g av n := if_neg z
      have e2 : mn g av (n + 1) = mn g av n := by
        show (if av n = true then min (mn g av n) (g n) else mn g av n) = mn g av n
        split
        · next y =>
          have : ¬ g n < mn g av n := fun w => z ⟨y, w⟩
          omega
        · rfl
      rw [e2] at h
      obtain ⟨h1, h2, h3, h4⟩ := mn_ft n h
      rw [e1, e2, if_neg z]
      exact ⟨by omega, h2, h3, h4⟩
/-- the least love of the last j people's keepings of what is there -/
def lst (S : Nat → Bool) (lv : Nat → Nat → Nat) (P T : Nat) : Nat → (Nat → Bool) → Nat
  | 0, _ => 0
  | j + 1, av => if S (P - (j + 1)) = true then mn (fun t => lv (P - (j + 1)) t + lst S lv P T j (rm av t)) av T else lst S lv P T j av
abbrev lg (S : Nat → Bool) (lv : Nat → Nat → Nat) (P T j p : Nat) (av : Nat → Bool) : Nat → Nat := fun t => lv p t + lst S lv P T j (rm av t)
/-- what r keeps by the first of these -/
def ch (S : Nat → Bool) (lv : Nat → Nat → Nat) (P T : Nat) : Nat → (Nat → Bool) → Nat → Int32
  | 0, _, _ => -1
  | j + 1, av, r => if S (P - (j + 1)) = true then (if r = P - (j + 1) then nI (ft (lg S lv P T j (P - (j + 1)) av) av T) else ch S lv P T j (rm av (ft (lg S lv P T j (P - (j + 1)) av) av T)) r) else if r = P - (j + 1) then -1 else ch S lv P T j av r
section LS
variable {S : Nat → Bool} {lv : Nat → Nat → Nat} {P T : Nat}
set_option maxHeartbeats 200000 in
theorem lst_c : ∀ j (av av' : Nat → Bool), (∀ k, k < T → av k = av' k) → lst S lv P T j av = lst S lv P T j av'
  | 0, _, _, _ => rfl
  | j + 1, av, av', h => by
    have hr : ∀ t, lst S lv P T j (rm av t) = lst S lv P T j (rm av' t) := fun t => lst_c j _ _ fun k hk => by
      unfold rm
      rw [h k hk]
    unfold lst
    rw [lst_c j av av' h, mn_c T (fun k hk => ⟨h k hk, by rw [hr]⟩)]
set_option maxHeartbeats 200000 in
theorem ch_c : ∀ j (av av' : Nat → Bool) (r : Nat), (∀ k, k < T → av k = av' k) → ch S lv P T j av r = ch S lv P T j av' r
  | 0, _, _, _, _ => rfl
  | j + 1, av, av', r, h => by
    have hr : ∀ t, lst S lv P T j (rm av t) = lst S lv P T j (rm av' t) := fun t => lst_c j _ _ fun k hk => by
      unfold rm
      rw [h k hk]
    have hf : ft (lg S lv P T j (P - (j + 1)) av) av T = ft (lg S lv P T j (P - (j + 1)) av') av' T := ft_c T (fun k hk => ⟨h k hk, by unfold lg; rw [hr]⟩)
    unfold ch
    rw [ch_c j av av' r h, hf, ch_c j (rm av _) (rm av' _) r (fun k hk => by unfold rm; rw [h k hk])]
set_option maxHeartbeats 200000 in
theorem lst_le : ∀ j (av : Nat → Bool), lst S lv P T j av ≤ 1000000
  | 0, _ => by show 0 ≤ 1000000; omega
  | j + 1, av => by
    unfold lst
    split
    · exact mn_le T
    · exact lst_le j av
/-- how many of the last j people are of the set -/
def mem (S : Nat → Bool) (P : Nat) : Nat → Nat
  | 0 => 0
  | j + 1 => (if S (P - (j + 1)) = true then 1 else 0) + mem S P j
set_option maxHeartbeats 200000 in
theorem mem_cnt : ∀ j, j ≤ P → cnt S (P - j) + mem S P j = cnt S P
  | 0, _ => rfl
  | j + 1, h => by
    have ih := mem_cnt j (by omega)
    have e := cnt_s S (P - (j + 1))
    rw [show P - (j + 1) + 1 = P - j by omega] at e
    unfold mem
    omega
set_option maxHeartbeats 200000 in
theorem lst_fin (hlv : ∀ p t, lv p t ≤ 9) : ∀ j, j ≤ P → ∀ av : Nat → Bool, (mem S P j ≤ cnt av T → lst S lv P T j av ≤ 9 * j) ∧ (cnt av T < mem S P j → lst S lv P T j av = 1000000)
  | 0, _, av => ⟨fun _ => Nat.le_refl _, fun h => absurd h (Nat.not_lt_zero _)⟩
  | j + 1, h, av => by
    have ih := lst_fin hlv j (by omega)
    unfold mem lst
    by_cases z : S (P - (j + 1)) = true
    · rw [if_pos z, if_pos z]
      constructor
      · intro q
        obtain ⟨t, h1, h2⟩ := cnt_ex T (show 0 < cnt av T by omega)
        have h3 := cnt_rm h2 T h1
        have h4 := (ih (rm av t)).1 (by omega)
        have h5 := mn_lb (g := fun t => lv (P - (j + 1)) t + lst S lv P T j (rm av t)) h2 T h1
        have h6 := hlv (P - (j + 1)) t
        have h7 : mn (fun t => lv (P - (j + 1)) t + lst S lv P T j (rm av t)) av T ≤ lv (P - (j + 1)) t + lst S lv P T j (rm av t) := h5
        omega
      · intro q
        have key : ∀ n, n ≤ T → mn (fun t => lv (P - (j + 1)) t + lst S lv P T j (rm av t)) av n = 1000000 := by
          intro n
          induction n with
          | zero => exact fun _ => rfl
          | succ n ihn =>
            intro hn
            show (if av n = true then min (mn _ av n) _ else mn _ av n) = 1000000
            rw [ihn (by omega)]
            split
            · next y =>
              have h3 := cnt_rm y T (by omega)
              have h4 := (ih (rm av n)).2 (by omega)
              show min 1000000 (lv (P - (j + 1)) n + lst S lv P T j (rm av n)) = 1000000
              omega
            · rfl
        exact key T (Nat.le_refl T)
    · rw [if_neg z, if_neg z]
      have := ih av
      exact ⟨fun q => by have := this.1 (by omega); omega, fun q => this.2 (by omega)⟩
end LS
