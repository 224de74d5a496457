/-! Part 69t: the first stable keeping, as functions -/
abbrev sK : Type := (Nat → Int32) × (Nat → Int32) × (Nat → Nat)
/-- the first largest of those that are there, and how large (0: none) -/
def nxa (lv : Nat → Nat) (av : Nat → Bool) : Nat → Int32 × Nat
  | 0 => (-1, 0)
  | n + 1 => if av n = true ∧ (nxa lv av n).2 < lv n then (nI n, lv n) else nxa lv av n
set_option maxHeartbeats 200000 in
theorem nxa_sp {lv : Nat → Nat} {av : Nat → Bool} : ∀ n, nxa lv av n = (-1, 0) ∨ ∃ t, t < n ∧ nxa lv av n = (nI t, lv t) ∧ av t = true ∧ 0 < lv t
  | 0 => .inl rfl
  | n + 1 => by
    by_cases z : av n = true ∧ (nxa lv av n).2 < lv n
    · exact .inr ⟨n, by omega, if_pos z, z.1, by omega⟩
    · have e : nxa lv av (n + 1) = nxa lv av n := if_neg z
      rw [e]
      rcases nxa_sp (lv := lv) (av := av) n with h | ⟨t, h1, h2⟩
      · exact .inl h
      · exact .inr ⟨t, by omega, h2⟩
set_option maxHeartbeats 200000 in
theorem nxa_none {lv : Nat → Nat} {av : Nat → Bool} : ∀ n, (∀ k, k < n → av k = false) → nxa lv av n = (-1, 0)
  | 0, _ => rfl
  | n + 1, h => by
    have e : nxa lv av (n + 1) = nxa lv av n := if_neg fun w => Bool.noConfusion ((h n (by omega)).symm.trans w.1)
    rw [e]
    exact nxa_none n fun k hk => h k (by omega)
/-- the first of n that is so; n if none is -/
def fp (W : Nat → Bool) : Nat → Nat
  | 0 => 0
  | n + 1 => if fp W n < n then fp W n else if W n = true then n else n + 1
set_option maxHeartbeats 200000 in
theorem fp_sp {W : Nat → Bool} : ∀ n, fp W n ≤ n ∧ (fp W n < n → W (fp W n) = true) ∧ ∀ k, k < fp W n → W k = false
  | 0 => ⟨Nat.le_refl 0, fun h => absurd h (Nat.lt_irrefl 0), fun k h => absurd h (Nat.not_lt_zero k)⟩
  | n + 1 => by
    obtain ⟨h1, h2, h3⟩ := fp_sp (W := W) n
    by_cases z : fp W n < n
    · have e : fp W (n + 1) = fp W n := if_pos z
      rw [e]
      exact ⟨by omega, fun _ => h2 z, h3⟩
    · have hn : fp W n = n := by omega
      rw [hn] at h3
      by_cases y : W n = true
      · have e : fp W (n + 1) = n := by
          show (if fp W n < n then fp W n else if W n = true then n else n + 1) = n
          rw [if_neg z, if_pos y]
        rw [e]
        exact ⟨by omega, fun _ => y, h3⟩
      · have e : fp W (n + 1) = n + 1 := by
          show (if fp W n < n then fp W n else if W n = true then n else n + 1) = n + 1
          rw [if_neg z, if_neg y]
        rw [e]
        refine ⟨by omega, fun h => by omega, fun k hk => ?_⟩
        by_cases x : k = n
        · subst x
          exact Bool.eq_false_iff.mpr y
        · exact h3 k (by omega)
set_option maxHeartbeats 200000 in
theorem fp_eq {W : Nat → Bool} {n p : Nat} (hp : p < n) (hW : W p = true) (h : ∀ k, k < p → W k = false) : fp W n = p := by
  obtain ⟨h1, h2, h3⟩ := fp_sp (W := W) n
  rcases Nat.lt_trichotomy (fp W n) p with q | q | q
  · exact Bool.noConfusion ((h _ q).symm.trans (h2 (by omega)))
  · exact q
  · exact Bool.noConfusion ((h3 _ q).symm.trans hW)
set_option maxHeartbeats 200000 in
theorem fp_none {W : Nat → Bool} {n : Nat} (h : ∀ k, k < n → W k = false) : fp W n = n := by
  obtain ⟨h1, h2, h3⟩ := fp_sp (W := W) n
  rcases Nat.lt_or_ge (fp W n) n with q | q
  · exact Bool.noConfusion ((h _ q).symm.trans (h2 q))
  · omega
/-- which thing p asks for next -/
def nx (c : Nat → Int32) (T : Nat) (σ : sK) (p : Nat) : Int32 := (nxa (lvv c p) (avC c (σ.2.2 p)) T).1
def asks (S : Nat → Bool) (c : Nat → Int32) (T : Nat) (σ : sK) (p : Nat) : Bool := S p && (decide (σ.1 p = -1) && decide (nx c T σ p ≠ -1))
/-- does t take p? -/
def tk (c : Nat → Int32) (kr : Nat → Int32) (p t : Nat) : Bool := decide (kr t = -1) || decide (lvv c p t < lvv c (kr t).toNatClampNeg t)
def stp (c : Nat → Int32) (σ : sK) (p t : Nat) : sK := if tk c σ.2.1 p t = true then (ud (if σ.2.1 t = -1 then σ.1 else ud σ.1 (σ.2.1 t).toNatClampNeg (-1)) p (nI t), ud σ.2.1 t (nI p), ud σ.2.2 p (σ.2.2 p + 2 ^ t)) else (σ.1, σ.2.1, ud σ.2.2 p (σ.2.2 p + 2 ^ t))
def sth (S : Nat → Bool) (c : Nat → Int32) (P T : Nat) (σ : sK) : sK := if fp (asks S c T σ) P < P then stp c σ (fp (asks S c T σ) P) (nx c T σ (fp (asks S c T σ) P)).toNatClampNeg else σ
def sgo (S : Nat → Bool) (c : Nat → Int32) (P T : Nat) : Nat → sK
  | 0 => (fun _ => -1, fun _ => -1, fun _ => 0)
  | n + 1 => sth S c P T (sgo S c P T n)
/-- such as can be -/
def Vl (P T : Nat) (σ : sK) : Prop := (∀ p, p < P → σ.1 p = -1 ∨ ∃ t, t < T ∧ σ.1 p = nI t) ∧ (∀ t, t < T → σ.2.1 t = -1 ∨ ∃ q, q < P ∧ σ.2.1 t = nI q) ∧ ∀ p, p < P → σ.2.2 p < 2 ^ T
section SG
variable {S : Nat → Bool} {c : Nat → Int32} {P T : Nat}
set_option maxHeartbeats 200000 in
theorem nx_sp (σ : sK) (p : Nat) : nx c T σ p = -1 ∨ ∃ t, t < T ∧ nx c T σ p = nI t ∧ avC c (σ.2.2 p) t = true := by
  unfold nx
  rcases nxa_sp (lv := lvv c p) (av := avC c (σ.2.2 p)) T with h | ⟨t, h1, h2, h3, -⟩
  · exact .inl (by rw [h])
  · exact .inr ⟨t, h1, by rw [h2], h3⟩
set_option maxHeartbeats 200000 in
theorem asks_sp {σ : sK} {p : Nat} (h : asks S c T σ p = true) : S p = true ∧ σ.1 p = -1 ∧ ∃ t, t < T ∧ nx c T σ p = nI t ∧ avC c (σ.2.2 p) t = true := by
  unfold asks at h
  rw [Bool.and_eq_true, Bool.and_eq_true] at h
  obtain ⟨h1, h2, h3⟩ := h
  refine ⟨h1, of_decide_eq_true h2, ?_⟩
  rcases nx_sp (c := c) (T := T) σ p with q | q
  · exact absurd q (of_decide_eq_true h3)
  · exact q
set_option maxHeartbeats 200000 in
theorem Vl_stp {σ : sK} (h : Vl P T σ) (hT : T ≤ 8) (hP : P ≤ 6) {p t : Nat} (hp : p < P) (ht : t < T) (hb : (σ.2.2 p).testBit t = false) : Vl P T (stp c σ p t) := by
  obtain ⟨h1, h2, h3⟩ := h
  have hlt := bit_lt T (by omega) t ht _ (h3 p hp) hb
  have h4 : ∀ q, q < P → ud σ.2.2 p (σ.2.2 p + 2 ^ t) q < 2 ^ T := fun q hq => by
    unfold ud
    split
    · exact hlt
    · exact h3 q hq
  have h5 : ∀ (kp : Nat → Int32) (r : Nat) (v : Int32), (∀ q, q < P → kp q = -1 ∨ ∃ t, t < T ∧ kp q = nI t) → (v = -1 ∨ ∃ t, t < T ∧ v = nI t) → ∀ q, q < P → ud kp r v q = -1 ∨ ∃ t, t < T ∧ ud kp r v q = nI t := fun kp r v h hv q hq => by
    by_cases z : q = r
    · rw [z, ud_at]
      exact hv
    · rw [ud_ne z]
      exact h q hq
  unfold stp
  split
  · refine ⟨h5 _ p (nI t) ?_ (.inr ⟨t, ht, rfl⟩), fun t' ht' => ?_, h4⟩
    · split
      · exact h1
      · exact h5 _ _ _ h1 (.inl rfl)
    · show ud σ.2.1 t (nI p) t' = -1 ∨ ∃ q, q < P ∧ ud σ.2.1 t (nI p) t' = nI q
      by_cases w : t' = t
      · rw [w, ud_at]
        exact .inr ⟨p, hp, rfl⟩
      · rw [ud_ne w]
        exact h2 t' ht'
  · exact ⟨h1, h2, h4⟩
set_option maxHeartbeats 200000 in
theorem Vl_sth {σ : sK} (h : Vl P T σ) (hT : T ≤ 8) (hP : P ≤ 6) : Vl P T (sth S c P T σ) := by
  unfold sth
  split
  · rename_i w
    obtain ⟨-, -, t, h1, h2, h3⟩ := asks_sp ((fp_sp P).2.1 w)
    rw [h2, nI_clamp (by omega)]
    exact Vl_stp h hT hP w h1 (avC_bit h3).1
  · exact h
set_option maxHeartbeats 200000 in
theorem Vl_sgo (hT : T ≤ 8) (hP : P ≤ 6) : ∀ n, Vl P T (sgo S c P T n)
  | 0 => ⟨fun _ _ => .inl rfl, fun _ _ => .inl rfl, fun _ _ => Nat.two_pow_pos T⟩
  | n + 1 => Vl_sth (Vl_sgo hT hP n) hT hP
/-- how much was asked -/
def askN (P : Nat) (as : Nat → Nat) : Nat := nsum (fun p => cnt (as p).testBit 8) P
set_option maxHeartbeats 200000 in
theorem askN_ud {as : Nat → Nat} {p v : Nat} (hv : cnt v.testBit 8 = cnt (as p).testBit 8 + 1) : ∀ n, p < n → askN n (ud as p v) = askN n as + 1
  | 0, h => by omega
  | n + 1, h => by
    show askN n (ud as p v) + cnt (ud as p v n).testBit 8 = askN n as + cnt (as n).testBit 8 + 1
    by_cases z : n = p
    · subst z
      have : askN n (ud as n v) = askN n as := nsum_c n fun k hk => by rw [ud_ne (by omega)]
      rw [ud_at, this, hv]
      omega
    · rw [ud_ne z, askN_ud hv n (by omega)]
      omega
set_option maxHeartbeats 200000 in
theorem sgo_asks (hT : T ≤ 8) (hP : P ≤ 6) (n : Nat) (h : fp (asks S c T (sgo S c P T n)) P < P) : askN P (sgo S c P T (n + 1)).2.2 = askN P (sgo S c P T n).2.2 + 1 := by
  show askN P (sth S c P T (sgo S c P T n)).2.2 = _
  have hV := Vl_sgo (S := S) (c := c) hT hP n
  generalize sgo S c P T n = σ at *
  unfold sth
  rw [if_pos h]
  obtain ⟨-, -, t, h1, h2, h3⟩ := asks_sp ((fp_sp P).2.1 h)
  rw [h2, nI_clamp (by omega)]
  have h256 : 2 ^ T ≤ 2 ^ 8 := Nat.pow_le_pow_right (by omega) hT
  have := hV.2.2 _ h
  have e : (stp c σ (fp (asks S c T σ) P) t).2.2 = ud σ.2.2 (fp (asks S c T σ) P) (σ.2.2 (fp (asks S c T σ) P) + 2 ^ t) := by
    unfold stp
    split <;> rfl
  rw [e]
  exact askN_ud (cnt_add _ (by omega) t (by omega) (avC_bit h3).1) P h
set_option maxHeartbeats 200000 in
theorem sgo_end (hT : T ≤ 8) (hP : P ≤ 6) : ∃ N, N ≤ 48 ∧ ¬ fp (asks S c T (sgo S c P T N)) P < P ∧ ∀ n, n < N → fp (asks S c T (sgo S c P T n)) P < P := by
  have hex : ∃ n, ¬ fp (asks S c T (sgo S c P T n)) P < P := by
    by_cases z : ∃ n, ¬ fp (asks S c T (sgo S c P T n)) P < P
    · exact z
    · have hall : ∀ n, fp (asks S c T (sgo S c P T n)) P < P := fun n => Decidable.by_contra fun w => z ⟨n, w⟩
      have hs : ∀ n, askN P (sgo S c P T n).2.2 = n := by
        intro n
        induction n with
        | zero =>
          have hz : cnt (0 : Nat).testBit 8 = 0 := by decide +kernel
          exact nsum_0 P fun k hk => hz
        | succ n ih => rw [sgo_asks hT hP n (hall n), ih]
      have h1 := hs 49
      have h2 : askN P (sgo S c P T 49).2.2 ≤ 8 * P := by
        have := nsum_le (g := fun p => cnt ((sgo S c P T 49).2.2 p).testBit 8) (B := 8) P (fun p _ => cnt_le _ 8)
        unfold askN
        omega
      omega
  obtain ⟨N, h1, h2⟩ := pk_least (fun n => ¬ fp (asks S c T (sgo S c P T n)) P < P) hex
  have h3 : ∀ n, n < N → fp (asks S c T (sgo S c P T n)) P < P := fun n hn => Decidable.by_contra (h2 n hn)
  refine ⟨N, ?_, h1, h3⟩
  have hs : ∀ n, n ≤ N → askN P (sgo S c P T n).2.2 = n := by
    intro n
    induction n with
    | zero =>
      intro _
      have hz : cnt (0 : Nat).testBit 8 = 0 := by decide +kernel
      exact nsum_0 P fun k hk => hz
    | succ n ih =>
      intro hn
      rw [sgo_asks hT hP n (h3 n (by omega)), ih (by omega)]
  have h4 := hs N (Nat.le_refl N)
  have h5 := nsum_le (g := fun p => cnt ((sgo S c P T N).2.2 p).testBit 8) (B := 8) P (fun p _ => cnt_le _ 8)
  unfold askN at h4
  omega
end SG
/-- how the rows x, y, z hold it -/
def KS (x y z : Nat) (σ : sK) (μ : mM) : Prop := (∀ k, k < 6 → m_I μ (x, 0, 0) k = σ.1 k) ∧ (∀ k, k < 8 → m_I μ (y, 0, 0) k = σ.2.1 k) ∧ ∀ k, k < 6 → m_I μ (z, 0, 0) k = nI (σ.2.2 k)
