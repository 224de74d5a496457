/-! Part 69h: who is sure -/
set_option maxHeartbeats 200000 in
theorem nsum_one (g : Nat → Nat) {s : Nat} : ∀ n, s < n → nsum (fun k => if k = s then g k else 0) n = g s
  | 0, h => by omega
  | n + 1, h => by
    show nsum (fun k => if k = s then g k else 0) n + (if n = s then g n else 0) = g s
    by_cases z : n = s
    · subst z
      rw [if_pos rfl, nsum_0 n (fun k hk => if_neg (by omega)), Nat.zero_add]
    · rw [if_neg z, nsum_one g n (by omega), Nat.add_zero]
set_option maxHeartbeats 200000 in
theorem nGood_all (al F : Nat → Bool) : nGood al F 4096 = nsum (fun s => if fitW F (cnt al 6) s = true then Nn (cnt al 6) s else 0) 19 := by
  have h := count al 6 (Nat.le_refl 6) (fun s => if F s = true then 1 else 0)
  have e1 : nGood al F 4096 = nsum (fun m => if okb al m 6 = true then (if F (lov m 6) = true then 1 else 0) else 0) (4 ^ 6) := nsum_c 4096 fun m _ => by
    unfold gdc
    cases okb al m 6 <;> cases F (lov m 6) <;> rfl
  rw [e1, h]
  refine nsum_c 19 fun s _ => ?_
  by_cases q : s ≤ 3 * cnt al 6
  · have : fitW F (cnt al 6) s = F s := by
      unfold fitW
      rw [decide_eq_true q]
      rfl
    rw [this]
    cases F s <;> simp
  · rw [Nn_out _ s (by omega)]
    simp
set_option maxHeartbeats 200000 in
theorem nWay_all (al F : Nat → Bool) {s : Nat} (hs : s < 19) : nWay al F s 4096 = if fitW F (cnt al 6) s = true then Nn (cnt al 6) s else 0 := by
  have h := count al 6 (Nat.le_refl 6) (fun x => if F x = true ∧ x = s then 1 else 0)
  have e1 : nWay al F s 4096 = nsum (fun m => if okb al m 6 = true then (if F (lov m 6) = true ∧ lov m 6 = s then 1 else 0) else 0) (4 ^ 6) := nsum_c 4096 fun m _ => by
    unfold gdc
    cases okb al m 6 <;> cases F (lov m 6) <;> simp
  have e2 : nsum (fun x => Nn (cnt al 6) x * (if F x = true ∧ x = s then 1 else 0)) 19 = nsum (fun x => if x = s then Nn (cnt al 6) x * (if F x = true then 1 else 0) else 0) 19 := nsum_c 19 fun x _ => by
    by_cases z : x = s
    · subst z
      simp
    · rw [if_neg (fun y => z y.2), if_neg z, Nat.mul_zero]
  rw [e1, h, e2, nsum_one _ 19 hs]
  by_cases q : s ≤ 3 * cnt al 6
  · have : fitW F (cnt al 6) s = F s := by
      unfold fitW
      rw [decide_eq_true q]
      rfl
    rw [this]
    cases F s <;> simp
  · rw [Nn_out _ s (by omega)]
    simp
set_option maxHeartbeats 200000 in
theorem nWay_0 (al F : Nat → Bool) {s : Nat} (hs : s < 19) : nI (nWay al F s 4096) = 0 ↔ fitW F (cnt al 6) s = false := by
  have hb := nWay_le al F s 4096
  have e : (nI (nWay al F s 4096) = 0) = (nWay al F s 4096 = 0) := propext (nI_eq (b := 0) (by omega) (by decide))
  rw [e, nWay_all al F hs]
  by_cases q : fitW F (cnt al 6) s = true
  · have h1 : s ≤ 3 * cnt al 6 := by
      unfold fitW at q
      rw [Bool.and_eq_true, decide_eq_true_eq] at q
      exact q.1
    have := Nn_pos (cnt al 6) s h1
    rw [if_pos q, q]
    simp
    omega
  · rw [if_neg q]
    cases z : fitW F (cnt al 6) s <;> simp_all
set_option maxHeartbeats 200000 in
theorem lov_cnt {al : Nat → Bool} {m : Nat} : ∀ k, okb al m k = true → lov m k ≤ 3 * cnt al k
  | 0, _ => Nat.zero_le _
  | k + 1, h => by
    have e : okb al m (k + 1) = (okb al m k && (decide (dig m k = 0) || al k)) := rfl
    rw [e, Bool.and_eq_true, Bool.or_eq_true, decide_eq_true_eq] at h
    have ih := lov_cnt k h.1
    have hd := dig_lt m k
    show lov m k + dig m k ≤ 3 * (cnt al k + (if al k = true then 1 else 0))
    rcases h.2 with q | q
    · omega
    · rw [if_pos q]
      omega
set_option maxHeartbeats 200000 in
theorem lov_at {al : Nat → Bool} {m p : Nat} (ha : al p = true) : ∀ k, p < k → okb al m k = true → dig m p ≤ lov m k ∧ lov m k ≤ dig m p + 3 * (cnt al k - 1) ∧ 1 ≤ cnt al k
  | 0, h, _ => by omega
  | k + 1, h, ho => by
    have e : okb al m (k + 1) = (okb al m k && (decide (dig m k = 0) || al k)) := rfl
    rw [e, Bool.and_eq_true, Bool.or_eq_true, decide_eq_true_eq] at ho
    have hd := dig_lt m k
    show dig m p ≤ lov m k + dig m k ∧ lov m k + dig m k ≤ dig m p + 3 * (cnt al k + (if al k = true then 1 else 0) - 1) ∧ 1 ≤ cnt al k + (if al k = true then 1 else 0)
    by_cases z : p = k
    · subst z
      have := lov_cnt p ho.1
      rw [if_pos ha]
      omega
    · obtain ⟨h1, h2, h3⟩ := lov_at ha k (by omega) ho.1
      rcases ho.2 with q | q
      · refine ⟨by omega, ?_, by omega⟩
        split <;> omega
      · rw [if_pos q]
        omega
set_option maxHeartbeats 200000 in
theorem code_ex (al : Nat → Bool) : ∀ k, k ≤ 6 → ∀ o, o ≤ 3 * cnt al k → ∃ m, m < 4 ^ k ∧ okb al m k = true ∧ lov m k = o
  | 0, _, o, h => ⟨0, by decide, rfl, by
    have : cnt al 0 = 0 := rfl
    show 0 = o
    omega⟩
  | k + 1, hk, o, h => by
    have hc : cnt al (k + 1) = cnt al k + (if al k = true then 1 else 0) := rfl
    rw [hc] at h
    have go : ∀ d, d < 4 → d ≤ o → (d = 0 ∨ al k = true) → o - d ≤ 3 * cnt al k → ∃ m, m < 4 ^ (k + 1) ∧ okb al m (k + 1) = true ∧ lov m (k + 1) = o := by
      intro d hd hdo hal ho
      obtain ⟨m, h1, h2, h3⟩ := code_ex al k (by omega) (o - d) ho
      refine ⟨4 ^ k * d + m, ?_, ?_, ?_⟩
      · have : 4 ^ k * d ≤ 4 ^ k * 3 := Nat.mul_le_mul_left _ (by omega)
        rw [Nat.pow_succ]
        omega
      · show (okb al (4 ^ k * d + m) k && (decide (dig (4 ^ k * d + m) k = 0) || al k)) = true
        rw [okb_low k (Nat.le_refl k), dig_top k (by omega) d hd m h1, h2, Bool.true_and, Bool.or_eq_true, decide_eq_true_eq]
        exact hal
      · show lov (4 ^ k * d + m) k + dig (4 ^ k * d + m) k = o
        rw [lov_low (Nat.le_refl k), dig_top k (by omega) d hd m h1, h3]
        omega
    by_cases q : al k = true
    · rw [if_pos q] at h
      exact go (min 3 o) (by omega) (by omega) (.inr q) (by omega)
    · rw [if_neg q] at h
      exact go 0 (by omega) (by omega) (.inl rfl) (by omega)
set_option maxHeartbeats 200000 in
theorem code_at {al : Nat → Bool} {p v : Nat} (ha : al p = true) (hv : v < 4) : ∀ k, p < k → k ≤ 6 → ∀ o, o ≤ 3 * (cnt al k - 1) → 1 ≤ cnt al k ∧ ∃ m, m < 4 ^ k ∧ okb al m k = true ∧ dig m p = v ∧ lov m k = v + o
  | 0, h, _, _, _ => by omega
  | k + 1, hp, hk, o, h => by
    have hc : cnt al (k + 1) = cnt al k + (if al k = true then 1 else 0) := rfl
    rw [hc] at h ⊢
    by_cases z : p = k
    · subst z
      rw [if_pos ha] at h ⊢
      obtain ⟨m, h1, h2, h3⟩ := code_ex al p (by omega) o (by omega)
      refine ⟨by omega, 4 ^ p * v + m, ?_, ?_, dig_top p (by omega) v hv m h1, ?_⟩
      · have : 4 ^ p * v ≤ 4 ^ p * 3 := Nat.mul_le_mul_left _ (by omega)
        rw [Nat.pow_succ]
        omega
      · show (okb al (4 ^ p * v + m) p && (decide (dig (4 ^ p * v + m) p = 0) || al p)) = true
        rw [okb_low p (Nat.le_refl p), h2, ha, Bool.or_true]
        rfl
      · show lov (4 ^ p * v + m) p + dig (4 ^ p * v + m) p = v + o
        rw [lov_low (Nat.le_refl p), dig_top p (by omega) v hv m h1, h3]
        omega
    · have h1c := (code_at ha hv k (by omega) (by omega) 0 (Nat.zero_le _)).1
      refine ⟨by omega, ?_⟩
      have go : ∀ d, d < 4 → d ≤ o → (d = 0 ∨ al k = true) → o - d ≤ 3 * (cnt al k - 1) → ∃ m, m < 4 ^ (k + 1) ∧ okb al m (k + 1) = true ∧ dig m p = v ∧ lov m (k + 1) = v + o := by
        intro d hd hdo hal ho
        obtain ⟨-, m, h1, h2, h4, h3⟩ := code_at ha hv k (by omega) (by omega) (o - d) ho
        refine ⟨4 ^ k * d + m, ?_, ?_, ?_, ?_⟩
        · have : 4 ^ k * d ≤ 4 ^ k * 3 := Nat.mul_le_mul_left _ (by omega)
          rw [Nat.pow_succ]
          omega
        · show (okb al (4 ^ k * d + m) k && (decide (dig (4 ^ k * d + m) k = 0) || al k)) = true
          rw [okb_low k (Nat.le_refl k), dig_top k (by omega) d hd m h1, h2, Bool.true_and, Bool.or_eq_true, decide_eq_true_eq]
          exact hal
        · rw [dig_low (by omega), h4]
        · show lov (4 ^ k * d + m) k + dig (4 ^ k * d + m) k = v + o
          rw [lov_low (Nat.le_refl k), dig_top k (by omega) d hd m h1, h3]
          omega
      by_cases q : al k = true
      · rw [if_pos q] at h
        exact go (min 3 o) (by omega) (by omega) (.inr q) (by omega)
      · rw [if_neg q] at h
        exact go 0 (by omega) (by omega) (.inl rfl) (by omega)
def exB (f : Nat → Bool) : Nat → Bool
  | 0 => false
  | n + 1 => exB f n || f n
set_option maxHeartbeats 200000 in
theorem exB_iff (f : Nat → Bool) : ∀ n, exB f n = true ↔ ∃ k, k < n ∧ f k = true
  | 0 => ⟨fun h => Bool.noConfusion h, fun ⟨_, h, _⟩ => by omega⟩
  | n + 1 => by
    show (exB f n || f n) = true ↔ _
    rw [Bool.or_eq_true, exB_iff f n]
    constructor
    · rintro (⟨k, h, q⟩ | q)
      · exact ⟨k, by omega, q⟩
      · exact ⟨n, by omega, q⟩
    · rintro ⟨k, h, q⟩
      by_cases z : k = n
      · exact .inr (z ▸ q)
      · exact .inl ⟨k, by omega, q⟩
/-- so much love of one can be -/
def canL (F : Nat → Bool) (L v : Nat) : Bool := exB (fun o => fitW F L (v + o)) (3 * (L - 1) + 1)
set_option maxHeartbeats 200000 in
theorem canL_iff {al F : Nat → Bool} {p v : Nat} (ha : al p = true) (hp : p < 6) (hv : v < 4) : canL F (cnt al 6) v = true ↔ ∃ m, m < 4096 ∧ gdc al F m = true ∧ dig m p = v := by
  unfold canL
  rw [exB_iff]
  have h1c := (code_at ha hv 6 hp (Nat.le_refl 6) 0 (Nat.zero_le _)).1
  constructor
  · rintro ⟨o, ho, q⟩
    unfold fitW at q
    rw [Bool.and_eq_true] at q
    obtain ⟨-, m, h1, h2, h3, h4⟩ := code_at ha hv 6 hp (Nat.le_refl 6) o (by omega)
    refine ⟨m, h1, ?_, h3⟩
    unfold gdc
    rw [h2, h4, q.2]
    rfl
  · rintro ⟨m, hm, q, h3⟩
    unfold gdc at q
    rw [Bool.and_eq_true] at q
    obtain ⟨h4, h5, -⟩ := lov_at ha 6 hp q.1
    have h6 := lov_cnt 6 q.1
    refine ⟨lov m 6 - v, by omega, ?_⟩
    unfold fitW
    rw [show v + (lov m 6 - v) = lov m 6 by omega, q.2, decide_eq_true h6]
    rfl
def olv (c : Nat → Bool) : Nat → Int32 → Nat → Int32
  | 0, o, _ => o
  | j + 1, o, v => if c v = true then (if o = -1 then olv c j (nI v) (v + 1) else -1) else olv c j o (v + 1)
set_option maxHeartbeats 200000 in
theorem olv_none {c : Nat → Bool} : ∀ j o v, (∀ k, v ≤ k → k < v + j → c k = false) → olv c j o v = o
  | 0, o, v, _ => rfl
  | j + 1, o, v, h => by
    unfold olv
    rw [h v (Nat.le_refl v) (by omega), if_neg (by decide)]
    exact olv_none j o (v + 1) fun k h1 h2 => h k (by omega) (by omega)
set_option maxHeartbeats 200000 in
theorem olv_full {c : Nat → Bool} {o : Int32} (ho : o ≠ -1) : ∀ j v, (∃ k, v ≤ k ∧ k < v + j ∧ c k = true) → olv c j o v = -1
  | 0, v, ⟨k, h1, h2, _⟩ => by omega
  | j + 1, v, ⟨k, h1, h2, h3⟩ => by
    unfold olv
    by_cases q : c v = true
    · rw [if_pos q, if_neg ho]
    · rw [if_neg q]
      refine olv_full ho j (v + 1) ⟨k, ?_, by omega, h3⟩
      by_cases z : k = v
      · rw [z] at h3
        exact absurd h3 q
      · omega
set_option maxHeartbeats 200000 in
theorem nI_m1 {v : Nat} (hv : v < 2 ^ 31) : nI v ≠ -1 := fun h => by
  have := congrArg Int32.toInt h
  rw [nI_toInt hv, show (-1 : Int32).toInt = -1 by decide] at this
  omega
set_option maxHeartbeats 200000 in
theorem olv_two {c : Nat → Bool} : ∀ j v, v + j < 2 ^ 31 → (∃ k k', v ≤ k ∧ k < k' ∧ k' < v + j ∧ c k = true ∧ c k' = true) → olv c j (-1) v = -1
  | 0, v, _, ⟨k, k', h1, h2, h3, _⟩ => by omega
  | j + 1, v, hb, ⟨k, k', h1, h2, h3, h4, h5⟩ => by
    unfold olv
    by_cases q : c v = true
    · rw [if_pos q, if_pos rfl]
      exact olv_full (nI_m1 (by omega)) j (v + 1) ⟨k', by omega, by omega, h5⟩
    · rw [if_neg q]
      refine olv_two j (v + 1) (by omega) ⟨k, k', ?_, h2, by omega, h4, h5⟩
      by_cases z : k = v
      · rw [z] at h4
        exact absurd h4 q
      · omega
set_option maxHeartbeats 200000 in
theorem olv_one {c : Nat → Bool} {k : Nat} (hk : c k = true) : ∀ j v, v ≤ k → k < v + j → (∀ k', v ≤ k' → k' < v + j → k' ≠ k → c k' = false) → olv c j (-1) v = nI k
  | 0, v, h1, h2, _ => by omega
  | j + 1, v, h1, h2, h => by
    unfold olv
    by_cases z : v = k
    · subst z
      rw [if_pos hk, if_pos rfl]
      exact olv_none j (nI v) (v + 1) fun k' h1 h2 => h k' (by omega) (by omega) (by omega)
    · rw [h v (Nat.le_refl v) (by omega) z, if_neg (by decide)]
      exact olv_one hk j (v + 1) (by omega) (by omega) fun k' h1 h2 h3 => h k' (by omega) (by omega) h3
set_option maxHeartbeats 200000 in
theorem nGood_pos {al F : Nat → Bool} : ∀ i, nGood al F i ≠ 0 ↔ ∃ k, k < i ∧ gdc al F k = true
  | 0 => ⟨fun h => absurd rfl h, fun ⟨_, h, _⟩ => by omega⟩
  | i + 1 => by
    have ih := nGood_pos (al := al) (F := F) i
    have e : nGood al F (i + 1) = nGood al F i + (if gdc al F i = true then 1 else 0) := rfl
    rw [e]
    constructor
    · intro h
      by_cases y : gdc al F i = true
      · exact ⟨i, by omega, y⟩
      · rw [if_neg y] at h
        obtain ⟨k, hk, hg⟩ := ih.mp h
        exact ⟨k, by omega, hg⟩
    · rintro ⟨k, hk, hg⟩
      by_cases z : k = i
      · subst z
        rw [if_pos hg]
        omega
      · have := ih.mpr ⟨k, by omega, hg⟩
        omega
set_option maxHeartbeats 200000 in
/-- both sides' sure answer -/
theorem sure_same {al F : Nat → Bool} {p : Nat} {x : Int32} (ha : al p = true) (hp : p < 6) (h : SameR al F p 4096 x) : olv (canL F (cnt al 6)) 4 (-1) 0 = if nGood al F 4096 = 0 then -1 else if x < 0 then -1 else x := by
  have hc := fun v (hv : v < 4) => canL_iff (F := F) ha hp hv
  have hf : ∀ v, v < 4 → (¬ ∃ m, m < 4096 ∧ gdc al F m = true ∧ dig m p = v) → canL F (cnt al 6) v = false := fun v hv hn => by
    cases z : canL F (cnt al 6) v
    · rfl
    · exact absurd ((hc v hv).mp z) hn
  by_cases q0 : nGood al F 4096 = 0
  · rw [if_pos q0]
    refine olv_none 4 _ 0 fun v _ hv => hf v (by omega) ?_
    rintro ⟨m, hm, hg, -⟩
    exact absurd q0 ((nGood_pos 4096).mpr ⟨m, hm, hg⟩)
  · rw [if_neg q0]
    obtain ⟨m0, hm0, hg0⟩ := (nGood_pos 4096).mp q0
    rcases h with q | ⟨v, hv, rfl, q⟩ | ⟨rfl, m, m', h1, h2, h3, h4, h5⟩
    · exact absurd q q0
    · have hn0 : ¬ nI v < 0 := Int32.not_lt.mpr (nI_le (a := 0) (Nat.zero_le v) (by omega))
      rw [if_neg hn0]
      refine olv_one ((hc v hv).mpr ⟨m0, hm0, hg0, q m0 hm0 hg0⟩) 4 0 (Nat.zero_le v) (by omega) fun k' _ hk hne => hf k' (by omega) ?_
      rintro ⟨m, hm, hg, hd⟩
      exact hne (by rw [← hd, q m hm hg])
    · rw [if_pos (by decide)]
      have d1 := dig_lt m p
      have d2 := dig_lt m' p
      have c1 := (hc _ d1).mpr ⟨m, h1, h3, rfl⟩
      have c2 := (hc _ d2).mpr ⟨m', h2, h4, rfl⟩
      by_cases z : dig m p < dig m' p
      · exact olv_two 4 0 (by omega) ⟨_, _, Nat.zero_le _, z, by omega, c1, c2⟩
      · exact olv_two 4 0 (by omega) ⟨dig m' p, dig m p, Nat.zero_le _, by omega, by omega, c2, c1⟩
section KO
variable {μ : mM} {F : Nat → Bool} {L : Nat}
set_option maxHeartbeats 200000 in
theorem k_canLove (hC : ClsP μ) (hL1 : 1 ≤ L) (hL : L ≤ 6) (hl : m_I μ (20, 0, 0) 2 = nI L) (hW : ∀ s, s < 19 → m_I μ (21, 0, 0) s = if fitW F L s = true then 1 else 0) {v : Nat} (hv : v < 4) : fn_Si_canLove (some (20, 0, 0)) (nI v) μ = some (if canL F L v = true then 1 else 0, μ) := by
  have e3 : (3 : Int32) * (nI L - 1) = nI (3 * (L - 1)) := by
    rw [show nI L - 1 = nI (L - 1) from pk_sub (b := 1) (by omega)]
    exact pk_mul 3 (L - 1)
  have key : ∀ j k, k + j = 3 * (L - 1) + 1 → exB (fun o => fitW F L (v + o)) k = false → ∀ G, j < G → m_lp (fn_Si_canLove_l2 (some (20, 0, 0)) (nI v)) G (nI k) μ = some (if canL F L v = true then 1 else 0, μ) := by
    intro j
    induction j with
    | zero =>
      intro k hk hall G hG
      obtain ⟨G', rfl⟩ : ∃ G', G = G' + 1 := ⟨G - 1, by omega⟩
      obtain rfl : k = 3 * (L - 1) + 1 := by omega
      have hlt : (nI (3 * (L - 1)) < nI (3 * (L - 1) + 1)) = True := by rw [nI_ltq (by omega) (by omega)]; exact eq_true (by omega)
      have h1 : fn_Si_canLove_l2 (some (20, 0, 0)) (nI v) (nI (3 * (L - 1) + 1)) μ = some (.inr 0, μ) := by
        unfold fn_Si_canLove_l2
        simp (disch := first | exact hC | exact hP | exact hR | ((repeat first | apply ClsP_sI | apply ClsP_sJ | apply ClsP_rI | apply ClsP_rJ | apply ClsP_rY); exact hC) | ((repeat first | apply FamP_sI | apply FamP_sJ | apply FamP_rI | apply FamP_rJ | apply FamP_rY); exact hP) | ((repeat first | apply RefP_sI | apply RefP_sJ | apply RefP_rI | apply RefP_rJ | apply RefP_rY); exact hR) | ((repeat first | apply PlanP_sI | apply PlanP_sJ | apply PlanP_rI | apply PlanP_rJ | apply PlanP_rY); exact hL) | omega) only [↓c_main_thb, ↓c_tray_thb, ↓c_text_thb, ↓c_fam_thb, ↓c_per_thb, ↓c_thi_thb, ↓c_plan_thb, ↓c_ahd_thb, ↓c_then_thb, ↓c_sig_thb, ↓c_kee_thb, ↓c_gam_thb, ↓c_brd_thb, ↓c_main_r3, ↓c_main_r4, ↓c_main_r8, ↓c_main_r10, ↓c_main_r11, ↓c_main_r12, ↓c_main_r13, ↓c_main_r14, ↓c_text_r0, ↓c_ahd_r1, ↓c_ahd_r2, ↓c_ahd_r3, ↓c_sig_r0, ↓c_sig_r1, ↓c_kee_r0, ↓c_kee_r1, ↓c_kee_r2, ↓c_kee_r3, ↓c_kee_r5, ↓c_gam_r1, ↓c_gam_r2, ↓c_trays_r, ↓c_tray_r2, ↓c_brds_r, ↓c_brds_r0, ↓c_brds_r1, ↓c_fam_r7, ↓c_fam_r8, ↓c_pers_r, ↓c_per_r4, ↓c_itm_r, ↓c_plan_r2, ↓c_plan_r3, ↓c_plan_r4, ↓c_plan_r5, ↓c_plan_r6, ↓c_plan_r11, ↓c_plan_r12, ↓c_main_R5, ↓c_main_R6, ↓c_main_R7, ↓c_fam_R9, ↓c_main_th, ↓c_main_gI, ↓c_main_gJ, ↓c_main_pI, ↓c_main_pJ, ↓c_main_pR, ↓c_main_pZ, ↓c_tray_th, ↓c_tray_gI, ↓c_tray_pI, ↓c_tray_pR, ↓c_text_th, ↓c_text_gI, ↓c_text_gJ, ↓c_text_pI, ↓c_text_pJ, ↓c_text_pR, ↓c_fam_th, ↓c_fam_gI, ↓c_fam_pI, ↓c_fam_pR, ↓c_per_th, ↓c_per_gI, ↓c_per_gJ, ↓c_per_pI, ↓c_per_pJ, ↓c_per_pR, ↓c_per_pZ, ↓c_thi_th, ↓c_thi_gI, ↓c_thi_gJ, ↓c_thi_pI, ↓c_thi_pJ, ↓c_plan_th, ↓c_plan_gI, ↓c_plan_pI, ↓c_plan_pR, ↓c_plan_pZ, ↓c_ahd_th, ↓c_ahd_gI, ↓c_ahd_pI, ↓c_ahd_pR, ↓c_then_th, ↓c_then_gI, ↓c_then_gJ, ↓c_then_pI, ↓c_then_pJ, ↓c_sig_th, ↓c_sig_gI, ↓c_sig_pI, ↓c_sig_pR, ↓c_kee_th, ↓c_kee_gI, ↓c_kee_pI, ↓c_kee_pR, ↓c_gam_th, ↓c_gam_gI, ↓c_gam_pI, ↓c_gam_pR, ↓c_brd_th, ↓c_brd_gI, ↓c_brd_gJ, ↓c_brd_pI, ↓c_brd_pJ, ↓c_nums_a, ↓c_nums_t, ↓c_bytes_a, ↓c_bytes_t, ↓c_lov_a, ↓c_lov_t, ↓c_parr_a, ↓c_parr_t, ↓c_plps_a, ↓c_plps_t, ↓c_mkd_a, ↓c_sav_a, ↓c_sav_t, ↓c_wut_a, ↓c_wut_t, ↓c_wut_a0, ↓c_wut_t0, ↓c_fits_a, ↓c_fits_t, ↓c_wsum_a, ↓c_wsum_t, ↓c_wsum_a0, ↓c_wsum_t0, ↓c_ckp_a, ↓c_ckp_t, ↓c_ckr_a, ↓c_ckr_t, ↓c_cas_a, ↓c_cas_t, ↓c_cmb_a, ↓c_cmb_t, ↓c_clb_a, ↓c_clb_t, ↓c_clb_a0, ↓c_clb_t0, ↓c_glv_a, ↓c_glv_t, ↓c_clv_a, ↓c_clv_t, ↓c_clv_a0, ↓c_clv_t0, ↓c_clv_a1, ↓c_clv_t1, ↓c_clv_a2, ↓c_clv_t2, ↓c_clv_a3, ↓c_clv_t3, ↓c_clv_a4, ↓c_clv_t4, ↓bd_bd, ↓bd_rt, c_main_thb, c_tray_thb, c_text_thb, c_fam_thb, c_per_thb, c_thi_thb, c_plan_thb, c_ahd_thb, c_then_thb, c_sig_thb, c_kee_thb, c_gam_thb, c_brd_thb, c_main_r3, c_main_r4, c_main_r8, c_main_r10, c_main_r11, c_main_r12, c_main_r13, c_main_r14, c_text_r0, c_ahd_r1, c_ahd_r2, c_ahd_r3, c_sig_r0, c_sig_r1, c_kee_r0, c_kee_r1, c_kee_r2, c_kee_r3, c_kee_r5, c_gam_r1, c_gam_r2, c_trays_r, c_tray_r2, c_brds_r, c_brds_r0, c_brds_r1, c_fam_r7, c_fam_r8, c_pers_r, c_per_r4, c_itm_r, c_plan_r2, c_plan_r3, c_plan_r4, c_plan_r5, c_plan_r6, c_plan_r11, c_plan_r12, c_main_R5, c_main_R6, c_main_R7, c_fam_R9, c_main_th, c_main_gI, c_main_gJ, c_main_pI, c_main_pJ, c_main_pR, c_main_pZ, c_tray_th, c_tray_gI, c_tray_pI, c_tray_pR, c_text_th, c_text_gI, c_text_gJ, c_text_pI, c_text_pJ, c_text_pR, c_fam_th, c_fam_gI, c_fam_pI, c_fam_pR, c_per_th, c_per_gI, c_per_gJ, c_per_pI, c_per_pJ, c_per_pR, c_per_pZ, c_thi_th, c_thi_gI, c_thi_gJ, c_thi_pI, c_thi_pJ, c_plan_th, c_plan_gI, c_plan_pI, c_plan_pR, c_plan_pZ, c_ahd_th, c_ahd_gI, c_ahd_pI, c_ahd_pR, c_then_th, c_then_gI, c_then_gJ, c_then_pI, c_then_pJ, c_sig_th, c_sig_gI, c_sig_pI, c_sig_pR, c_kee_th, c_kee_gI, c_kee_pI, c_kee_pR, c_gam_th, c_gam_gI, c_gam_pI, c_gam_pR, c_brd_th, c_brd_gI, c_brd_gJ, c_brd_pI, c_brd_pJ, c_nums_a, c_nums_t, c_bytes_a, c_bytes_t, c_lov_a, c_lov_t, c_parr_a, c_parr_t, c_plps_a, c_plps_t, c_mkd_a, c_sav_a, c_sav_t, c_wut_a, c_wut_t, c_wut_a0, c_wut_t0, c_fits_a, c_fits_t, c_wsum_a, c_wsum_t, c_wsum_a0, c_wsum_t0, c_ckp_a, c_ckp_t, c_ckr_a, c_ckr_t, c_cas_a, c_cas_t, c_cmb_a, c_cmb_t, c_clb_a, c_clb_t, c_clb_a0, c_clb_t0, c_glv_a, c_glv_t, c_clv_a, c_clv_t, c_clv_a0, c_clv_t0, c_clv_a1, c_clv_t1, c_clv_a2, c_clv_t2, c_clv_a3, c_clv_t3, c_clv_a4, c_clv_t4, ↓reduceIte, ↓ap_ite, ↓bd_ite, bd_bd, bd_rt, ap_rt, ite_some, nI_add, nI_1, R_sI, R_sJ, nz_1, nz_2, nz_3, nz_4, nz_5, nz_6, nz_7, nz_8, nz_9, nz_10, nz_11, nz_12, nz_m1, z_eq, if_true, if_false, e_some, ite_self, hl, e3, hlt]
      rw [lp_s, bd_of h1, if_neg (fun z => Bool.noConfusion ((show canL F L v = false from hall).symm.trans z))]
      rfl
    | succ j ih =>
      intro k hk hall G hG
      obtain ⟨G', rfl⟩ : ∃ G', G = G' + 1 := ⟨G - 1, by omega⟩
      have hlt : (nI (3 * (L - 1)) < nI k) = False := by rw [nI_ltq (by omega) (by omega)]; exact eq_false (by omega)
      have e1 := hW (v + k) (by omega)
      rw [lp_s]
      cases q : fitW F L (v + k)
      · rw [q, if_neg (by decide)] at e1
        have hst : fn_Si_canLove_l2 (some (20, 0, 0)) (nI v) (nI k) μ = some (.inl (nI (k + 1)), μ) := by
          unfold fn_Si_canLove_l2
          simp (disch := first | exact hC | exact hP | exact hR | ((repeat first | apply ClsP_sI | apply ClsP_sJ | apply ClsP_rI | apply ClsP_rJ | apply ClsP_rY); exact hC) | ((repeat first | apply FamP_sI | apply FamP_sJ | apply FamP_rI | apply FamP_rJ | apply FamP_rY); exact hP) | ((repeat first | apply RefP_sI | apply RefP_sJ | apply RefP_rI | apply RefP_rJ | apply RefP_rY); exact hR) | ((repeat first | apply PlanP_sI | apply PlanP_sJ | apply PlanP_rI | apply PlanP_rJ | apply PlanP_rY); exact hL) | omega) only [↓c_main_thb, ↓c_tray_thb, ↓c_text_thb, ↓c_fam_thb, ↓c_per_thb, ↓c_thi_thb, ↓c_plan_thb, ↓c_ahd_thb, ↓c_then_thb, ↓c_sig_thb, ↓c_kee_thb, ↓c_gam_thb, ↓c_brd_thb, ↓c_main_r3, ↓c_main_r4, ↓c_main_r8, ↓c_main_r10, ↓c_main_r11, ↓c_main_r12, ↓c_main_r13, ↓c_main_r14, ↓c_text_r0, ↓c_ahd_r1, ↓c_ahd_r2, ↓c_ahd_r3, ↓c_sig_r0, ↓c_sig_r1, ↓c_kee_r0, ↓c_kee_r1, ↓c_kee_r2, ↓c_kee_r3, ↓c_kee_r5, ↓c_gam_r1, ↓c_gam_r2, ↓c_trays_r, ↓c_tray_r2, ↓c_brds_r, ↓c_brds_r0, ↓c_brds_r1, ↓c_fam_r7, ↓c_fam_r8, ↓c_pers_r, ↓c_per_r4, ↓c_itm_r, ↓c_plan_r2, ↓c_plan_r3, ↓c_plan_r4, ↓c_plan_r5, ↓c_plan_r6, ↓c_plan_r11, ↓c_plan_r12, ↓c_main_R5, ↓c_main_R6, ↓c_main_R7, ↓c_fam_R9, ↓c_main_th, ↓c_main_gI, ↓c_main_gJ, ↓c_main_pI, ↓c_main_pJ, ↓c_main_pR, ↓c_main_pZ, ↓c_tray_th, ↓c_tray_gI, ↓c_tray_pI, ↓c_tray_pR, ↓c_text_th, ↓c_text_gI, ↓c_text_gJ, ↓c_text_pI, ↓c_text_pJ, ↓c_text_pR, ↓c_fam_th, ↓c_fam_gI, ↓c_fam_pI, ↓c_fam_pR, ↓c_per_th, ↓c_per_gI, ↓c_per_gJ, ↓c_per_pI, ↓c_per_pJ, ↓c_per_pR, ↓c_per_pZ, ↓c_thi_th, ↓c_thi_gI, ↓c_thi_gJ, ↓c_thi_pI, ↓c_thi_pJ, ↓c_plan_th, ↓c_plan_gI, ↓c_plan_pI, ↓c_plan_pR, ↓c_plan_pZ, ↓c_ahd_th, ↓c_ahd_gI, ↓c_ahd_pI, ↓c_ahd_pR, ↓c_then_th, ↓c_then_gI, ↓c_then_gJ, ↓c_then_pI, ↓c_then_pJ, ↓c_sig_th, ↓c_sig_gI, ↓c_sig_pI, ↓c_sig_pR, ↓c_kee_th, ↓c_kee_gI, ↓c_kee_pI, ↓c_kee_pR, ↓c_gam_th, ↓c_gam_gI, ↓c_gam_pI, ↓c_gam_pR, ↓c_brd_th, ↓c_brd_gI, ↓c_brd_gJ, ↓c_brd_pI, ↓c_brd_pJ, ↓c_nums_a, ↓c_nums_t, ↓c_bytes_a, ↓c_bytes_t, ↓c_lov_a, ↓c_lov_t, ↓c_parr_a, ↓c_parr_t, ↓c_plps_a, ↓c_plps_t, ↓c_mkd_a, ↓c_sav_a, ↓c_sav_t, ↓c_wut_a, ↓c_wut_t, ↓c_wut_a0, ↓c_wut_t0, ↓c_fits_a, ↓c_fits_t, ↓c_wsum_a, ↓c_wsum_t, ↓c_wsum_a0, ↓c_wsum_t0, ↓c_ckp_a, ↓c_ckp_t, ↓c_ckr_a, ↓c_ckr_t, ↓c_cas_a, ↓c_cas_t, ↓c_cmb_a, ↓c_cmb_t, ↓c_clb_a, ↓c_clb_t, ↓c_clb_a0, ↓c_clb_t0, ↓c_glv_a, ↓c_glv_t, ↓c_clv_a, ↓c_clv_t, ↓c_clv_a0, ↓c_clv_t0, ↓c_clv_a1, ↓c_clv_t1, ↓c_clv_a2, ↓c_clv_t2, ↓c_clv_a3, ↓c_clv_t3, ↓c_clv_a4, ↓c_clv_t4, ↓bd_bd, ↓bd_rt, c_main_thb, c_tray_thb, c_text_thb, c_fam_thb, c_per_thb, c_thi_thb, c_plan_thb, c_ahd_thb, c_then_thb, c_sig_thb, c_kee_thb, c_gam_thb, c_brd_thb, c_main_r3, c_main_r4, c_main_r8, c_main_r10, c_main_r11, c_main_r12, c_main_r13, c_main_r14, c_text_r0, c_ahd_r1, c_ahd_r2, c_ahd_r3, c_sig_r0, c_sig_r1, c_kee_r0, c_kee_r1, c_kee_r2, c_kee_r3, c_kee_r5, c_gam_r1, c_gam_r2, c_trays_r, c_tray_r2, c_brds_r, c_brds_r0, c_brds_r1, c_fam_r7, c_fam_r8, c_pers_r, c_per_r4, c_itm_r, c_plan_r2, c_plan_r3, c_plan_r4, c_plan_r5, c_plan_r6, c_plan_r11, c_plan_r12, c_main_R5, c_main_R6, c_main_R7, c_fam_R9, c_main_th, c_main_gI, c_main_gJ, c_main_pI, c_main_pJ, c_main_pR, c_main_pZ, c_tray_th, c_tray_gI, c_tray_pI, c_tray_pR, c_text_th, c_text_gI, c_text_gJ, c_text_pI, c_text_pJ, c_text_pR, c_fam_th, c_fam_gI, c_fam_pI, c_fam_pR, c_per_th, c_per_gI, c_per_gJ, c_per_pI, c_per_pJ, c_per_pR, c_per_pZ, c_thi_th, c_thi_gI, c_thi_gJ, c_thi_pI, c_thi_pJ, c_plan_th, c_plan_gI, c_plan_pI, c_plan_pR, c_plan_pZ, c_ahd_th, c_ahd_gI, c_ahd_pI, c_ahd_pR, c_then_th, c_then_gI, c_then_gJ, c_then_pI, c_then_pJ, c_sig_th, c_sig_gI, c_sig_pI, c_sig_pR, c_kee_th, c_kee_gI, c_kee_pI, c_kee_pR, c_gam_th, c_gam_gI, c_gam_pI, c_gam_pR, c_brd_th, c_brd_gI, c_brd_gJ, c_brd_pI, c_brd_pJ, c_nums_a, c_nums_t, c_bytes_a, c_bytes_t, c_lov_a, c_lov_t, c_parr_a, c_parr_t, c_plps_a, c_plps_t, c_mkd_a, c_sav_a, c_sav_t, c_wut_a, c_wut_t, c_wut_a0, c_wut_t0, c_fits_a, c_fits_t, c_wsum_a, c_wsum_t, c_wsum_a0, c_wsum_t0, c_ckp_a, c_ckp_t, c_ckr_a, c_ckr_t, c_cas_a, c_cas_t, c_cmb_a, c_cmb_t, c_clb_a, c_clb_t, c_clb_a0, c_clb_t0, c_glv_a, c_glv_t, c_clv_a, c_clv_t, c_clv_a0, c_clv_t0, c_clv_a1, c_clv_t1, c_clv_a2, c_clv_t2, c_clv_a3, c_clv_t3, c_clv_a4, c_clv_t4, ↓reduceIte, ↓ap_ite, ↓bd_ite, bd_bd, bd_rt, ap_rt, ite_some, nI_add, nI_1, R_sI, R_sJ, nz_1, nz_2, nz_3, nz_4, nz_5, nz_6, nz_7, nz_8, nz_9, nz_10, nz_11, nz_12, nz_m1, z_eq, if_true, if_false, e_some, ite_self, hl, e3, hlt, e1]
        rw [bd_of hst]
        refine ih (k + 1) (by omega) ?_ G' (by omega)
        show (exB _ k || fitW F L (v + k)) = false
        rw [hall, q]
        rfl
      · rw [q, if_pos rfl] at e1
        have hst : fn_Si_canLove_l2 (some (20, 0, 0)) (nI v) (nI k) μ = some (.inr 1, μ) := by
          unfold fn_Si_canLove_l2
          simp (disch := first | exact hC | exact hP | exact hR | ((repeat first | apply ClsP_sI | apply ClsP_sJ | apply ClsP_rI | apply ClsP_rJ | apply ClsP_rY); exact hC) | ((repeat first | apply FamP_sI | apply FamP_sJ | apply FamP_rI | apply FamP_rJ | apply FamP_rY); exact hP) | ((repeat first | apply RefP_sI | apply RefP_sJ | apply RefP_rI | apply RefP_rJ | apply RefP_rY); exact hR) | ((repeat first | apply PlanP_sI | apply PlanP_sJ | apply PlanP_rI | apply PlanP_rJ | apply PlanP_rY); exact hL) | omega) only [↓c_main_thb, ↓c_tray_thb, ↓c_text_thb, ↓c_fam_thb, ↓c_per_thb, ↓c_thi_thb, ↓c_plan_thb, ↓c_ahd_thb, ↓c_then_thb, ↓c_sig_thb, ↓c_kee_thb, ↓c_gam_thb, ↓c_brd_thb, ↓c_main_r3, ↓c_main_r4, ↓c_main_r8, ↓c_main_r10, ↓c_main_r11, ↓c_main_r12, ↓c_main_r13, ↓c_main_r14, ↓c_text_r0, ↓c_ahd_r1, ↓c_ahd_r2, ↓c_ahd_r3, ↓c_sig_r0, ↓c_sig_r1, ↓c_kee_r0, ↓c_kee_r1, ↓c_kee_r2, ↓c_kee_r3, ↓c_kee_r5, ↓c_gam_r1, ↓c_gam_r2, ↓c_trays_r, ↓c_tray_r2, ↓c_brds_r, ↓c_brds_r0, ↓c_brds_r1, ↓c_fam_r7, ↓c_fam_r8, ↓c_pers_r, ↓c_per_r4, ↓c_itm_r, ↓c_plan_r2, ↓c_plan_r3, ↓c_plan_r4, ↓c_plan_r5, ↓c_plan_r6, ↓c_plan_r11, ↓c_plan_r12, ↓c_main_R5, ↓c_main_R6, ↓c_main_R7, ↓c_fam_R9, ↓c_main_th, ↓c_main_gI, ↓c_main_gJ, ↓c_main_pI, ↓c_main_pJ, ↓c_main_pR, ↓c_main_pZ, ↓c_tray_th, ↓c_tray_gI, ↓c_tray_pI, ↓c_tray_pR, ↓c_text_th, ↓c_text_gI, ↓c_text_gJ, ↓c_text_pI, ↓c_text_pJ, ↓c_text_pR, ↓c_fam_th, ↓c_fam_gI, ↓c_fam_pI, ↓c_fam_pR, ↓c_per_th, ↓c_per_gI, ↓c_per_gJ, ↓c_per_pI, ↓c_per_pJ, ↓c_per_pR, ↓c_per_pZ, ↓c_thi_th, ↓c_thi_gI, ↓c_thi_gJ, ↓c_thi_pI, ↓c_thi_pJ, ↓c_plan_th, ↓c_plan_gI, ↓c_plan_pI, ↓c_plan_pR, ↓c_plan_pZ, ↓c_ahd_th, ↓c_ahd_gI, ↓c_ahd_pI, ↓c_ahd_pR, ↓c_then_th, ↓c_then_gI, ↓c_then_gJ, ↓c_then_pI, ↓c_then_pJ, ↓c_sig_th, ↓c_sig_gI, ↓c_sig_pI, ↓c_sig_pR, ↓c_kee_th, ↓c_kee_gI, ↓c_kee_pI, ↓c_kee_pR, ↓c_gam_th, ↓c_gam_gI, ↓c_gam_pI, ↓c_gam_pR, ↓c_brd_th, ↓c_brd_gI, ↓c_brd_gJ, ↓c_brd_pI, ↓c_brd_pJ, ↓c_nums_a, ↓c_nums_t, ↓c_bytes_a, ↓c_bytes_t, ↓c_lov_a, ↓c_lov_t, ↓c_parr_a, ↓c_parr_t, ↓c_plps_a, ↓c_plps_t, ↓c_mkd_a, ↓c_sav_a, ↓c_sav_t, ↓c_wut_a, ↓c_wut_t, ↓c_wut_a0, ↓c_wut_t0, ↓c_fits_a, ↓c_fits_t, ↓c_wsum_a, ↓c_wsum_t, ↓c_wsum_a0, ↓c_wsum_t0, ↓c_ckp_a, ↓c_ckp_t, ↓c_ckr_a, ↓c_ckr_t, ↓c_cas_a, ↓c_cas_t, ↓c_cmb_a, ↓c_cmb_t, ↓c_clb_a, ↓c_clb_t, ↓c_clb_a0, ↓c_clb_t0, ↓c_glv_a, ↓c_glv_t, ↓c_clv_a, ↓c_clv_t, ↓c_clv_a0, ↓c_clv_t0, ↓c_clv_a1, ↓c_clv_t1, ↓c_clv_a2, ↓c_clv_t2, ↓c_clv_a3, ↓c_clv_t3, ↓c_clv_a4, ↓c_clv_t4, ↓bd_bd, ↓bd_rt, c_main_thb, c_tray_thb, c_text_thb, c_fam_thb, c_per_thb, c_thi_thb, c_plan_thb, c_ahd_thb, c_then_thb, c_sig_thb, c_kee_thb, c_gam_thb, c_brd_thb, c_main_r3, c_main_r4, c_main_r8, c_main_r10, c_main_r11, c_main_r12, c_main_r13, c_main_r14, c_text_r0, c_ahd_r1, c_ahd_r2, c_ahd_r3, c_sig_r0, c_sig_r1, c_kee_r0, c_kee_r1, c_kee_r2, c_kee_r3, c_kee_r5, c_gam_r1, c_gam_r2, c_trays_r, c_tray_r2, c_brds_r, c_brds_r0, c_brds_r1, c_fam_r7, c_fam_r8, c_pers_r, c_per_r4, c_itm_r, c_plan_r2, c_plan_r3, c_plan_r4, c_plan_r5, c_plan_r6, c_plan_r11, c_plan_r12, c_main_R5, c_main_R6, c_main_R7, c_fam_R9, c_main_th, c_main_gI, c_main_gJ, c_main_pI, c_main_pJ, c_main_pR, c_main_pZ, c_tray_th, c_tray_gI, c_tray_pI, c_tray_pR, c_text_th, c_text_gI, c_text_gJ, c_text_pI, c_text_pJ, c_text_pR, c_fam_th, c_fam_gI, c_fam_pI, c_fam_pR, c_per_th, c_per_gI, c_per_gJ, c_per_pI, c_per_pJ, c_per_pR, c_per_pZ, c_thi_th, c_thi_gI, c_thi_gJ, c_thi_pI, c_thi_pJ, c_plan_th, c_plan_gI, c_plan_pI, c_plan_pR, c_plan_pZ, c_ahd_th, c_ahd_gI, c_ahd_pI, c_ahd_pR, c_then_th, c_then_gI, c_then_gJ, c_then_pI, c_then_pJ, c_sig_th, c_sig_gI, c_sig_pI, c_sig_pR, c_kee_th, c_kee_gI, c_kee_pI, c_kee_pR, c_gam_th, c_gam_gI, c_gam_pI, c_gam_pR, c_brd_th, c_brd_gI, c_brd_gJ, c_brd_pI, c_brd_pJ, c_nums_a, c_nums_t, c_bytes_a, c_bytes_t, c_lov_a, c_lov_t, c_parr_a, c_parr_t, c_plps_a, c_plps_t, c_mkd_a, c_sav_a, c_sav_t, c_wut_a, c_wut_t, c_wut_a0, c_wut_t0, c_fits_a, c_fits_t, c_wsum_a, c_wsum_t, c_wsum_a0, c_wsum_t0, c_ckp_a, c_ckp_t, c_ckr_a, c_ckr_t, c_cas_a, c_cas_t, c_cmb_a, c_cmb_t, c_clb_a, c_clb_t, c_clb_a0, c_clb_t0, c_glv_a, c_glv_t, c_clv_a, c_clv_t, c_clv_a0, c_clv_t0, c_clv_a1, c_clv_t1, c_clv_a2, c_clv_t2, c_clv_a3, c_clv_t3, c_clv_a4, c_clv_t4, ↓reduceIte, ↓ap_ite, ↓bd_ite, bd_bd, bd_rt, ap_rt, ite_some, nI_add, nI_1, R_sI, R_sJ, nz_1, nz_2, nz_3, nz_4, nz_5, nz_6, nz_7, nz_8, nz_9, nz_10, nz_11, nz_12, nz_m1, z_eq, if_true, if_false, e_some, ite_self, hl, e3, hlt, e1]
        rw [bd_of hst, if_pos (show canL F L v = true from (exB_iff _ _).mpr ⟨k, by omega, q⟩)]
        rfl
  unfold fn_Si_canLove
  simp (disch := first | exact hC | exact hP | exact hR | ((repeat first | apply ClsP_sI | apply ClsP_sJ | apply ClsP_rI | apply ClsP_rJ | apply ClsP_rY); exact hC) | ((repeat first | apply FamP_sI | apply FamP_sJ | apply FamP_rI | apply FamP_rJ | apply FamP_rY); exact hP) | ((repeat first | apply RefP_sI | apply RefP_sJ | apply RefP_rI | apply RefP_rJ | apply RefP_rY); exact hR) | ((repeat first | apply PlanP_sI | apply PlanP_sJ | apply PlanP_rI | apply PlanP_rJ | apply PlanP_rY); exact hL) | omega) only [↓c_main_thb, ↓c_tray_thb, ↓c_text_thb, ↓c_fam_thb, ↓c_per_thb, ↓c_thi_thb, ↓c_plan_thb, ↓c_ahd_thb, ↓c_then_thb, ↓c_sig_thb, ↓c_kee_thb, ↓c_gam_thb, ↓c_brd_thb, ↓c_main_r3, ↓c_main_r4, ↓c_main_r8, ↓c_main_r10, ↓c_main_r11, ↓c_main_r12, ↓c_main_r13, ↓c_main_r14, ↓c_text_r0, ↓c_ahd_r1, ↓c_ahd_r2, ↓c_ahd_r3, ↓c_sig_r0, ↓c_sig_r1, ↓c_kee_r0, ↓c_kee_r1, ↓c_kee_r2, ↓c_kee_r3, ↓c_kee_r5, ↓c_gam_r1, ↓c_gam_r2, ↓c_trays_r, ↓c_tray_r2, ↓c_brds_r, ↓c_brds_r0, ↓c_brds_r1, ↓c_fam_r7, ↓c_fam_r8, ↓c_pers_r, ↓c_per_r4, ↓c_itm_r, ↓c_plan_r2, ↓c_plan_r3, ↓c_plan_r4, ↓c_plan_r5, ↓c_plan_r6, ↓c_plan_r11, ↓c_plan_r12, ↓c_main_R5, ↓c_main_R6, ↓c_main_R7, ↓c_fam_R9, ↓c_main_th, ↓c_main_gI, ↓c_main_gJ, ↓c_main_pI, ↓c_main_pJ, ↓c_main_pR, ↓c_main_pZ, ↓c_tray_th, ↓c_tray_gI, ↓c_tray_pI, ↓c_tray_pR, ↓c_text_th, ↓c_text_gI, ↓c_text_gJ, ↓c_text_pI, ↓c_text_pJ, ↓c_text_pR, ↓c_fam_th, ↓c_fam_gI, ↓c_fam_pI, ↓c_fam_pR, ↓c_per_th, ↓c_per_gI, ↓c_per_gJ, ↓c_per_pI, ↓c_per_pJ, ↓c_per_pR, ↓c_per_pZ, ↓c_thi_th, ↓c_thi_gI, ↓c_thi_gJ, ↓c_thi_pI, ↓c_thi_pJ, ↓c_plan_th, ↓c_plan_gI, ↓c_plan_pI, ↓c_plan_pR, ↓c_plan_pZ, ↓c_ahd_th, ↓c_ahd_gI, ↓c_ahd_pI, ↓c_ahd_pR, ↓c_then_th, ↓c_then_gI, ↓c_then_gJ, ↓c_then_pI, ↓c_then_pJ, ↓c_sig_th, ↓c_sig_gI, ↓c_sig_pI, ↓c_sig_pR, ↓c_kee_th, ↓c_kee_gI, ↓c_kee_pI, ↓c_kee_pR, ↓c_gam_th, ↓c_gam_gI, ↓c_gam_pI, ↓c_gam_pR, ↓c_brd_th, ↓c_brd_gI, ↓c_brd_gJ, ↓c_brd_pI, ↓c_brd_pJ, ↓c_nums_a, ↓c_nums_t, ↓c_bytes_a, ↓c_bytes_t, ↓c_lov_a, ↓c_lov_t, ↓c_parr_a, ↓c_parr_t, ↓c_plps_a, ↓c_plps_t, ↓c_mkd_a, ↓c_sav_a, ↓c_sav_t, ↓c_wut_a, ↓c_wut_t, ↓c_wut_a0, ↓c_wut_t0, ↓c_fits_a, ↓c_fits_t, ↓c_wsum_a, ↓c_wsum_t, ↓c_wsum_a0, ↓c_wsum_t0, ↓c_ckp_a, ↓c_ckp_t, ↓c_ckr_a, ↓c_ckr_t, ↓c_cas_a, ↓c_cas_t, ↓c_cmb_a, ↓c_cmb_t, ↓c_clb_a, ↓c_clb_t, ↓c_clb_a0, ↓c_clb_t0, ↓c_glv_a, ↓c_glv_t, ↓c_clv_a, ↓c_clv_t, ↓c_clv_a0, ↓c_clv_t0, ↓c_clv_a1, ↓c_clv_t1, ↓c_clv_a2, ↓c_clv_t2, ↓c_clv_a3, ↓c_clv_t3, ↓c_clv_a4, ↓c_clv_t4, ↓bd_bd, ↓bd_rt, c_main_thb, c_tray_thb, c_text_thb, c_fam_thb, c_per_thb, c_thi_thb, c_plan_thb, c_ahd_thb, c_then_thb, c_sig_thb, c_kee_thb, c_gam_thb, c_brd_thb, c_main_r3, c_main_r4, c_main_r8, c_main_r10, c_main_r11, c_main_r12, c_main_r13, c_main_r14, c_text_r0, c_ahd_r1, c_ahd_r2, c_ahd_r3, c_sig_r0, c_sig_r1, c_kee_r0, c_kee_r1, c_kee_r2, c_kee_r3, c_kee_r5, c_gam_r1, c_gam_r2, c_trays_r, c_tray_r2, c_brds_r, c_brds_r0, c_brds_r1, c_fam_r7, c_fam_r8, c_pers_r, c_per_r4, c_itm_r, c_plan_r2, c_plan_r3, c_plan_r4, c_plan_r5, c_plan_r6, c_plan_r11, c_plan_r12, c_main_R5, c_main_R6, c_main_R7, c_fam_R9, c_main_th, c_main_gI, c_main_gJ, c_main_pI, c_main_pJ, c_main_pR, c_main_pZ, c_tray_th, c_tray_gI, c_tray_pI, c_tray_pR, c_text_th, c_text_gI, c_text_gJ, c_text_pI, c_text_pJ, c_text_pR, c_fam_th, c_fam_gI, c_fam_pI, c_fam_pR, c_per_th, c_per_gI, c_per_gJ, c_per_pI, c_per_pJ, c_per_pR, c_per_pZ, c_thi_th, c_thi_gI, c_thi_gJ, c_thi_pI, c_thi_pJ, c_plan_th, c_plan_gI, c_plan_pI, c_plan_pR, c_plan_pZ, c_ahd_th, c_ahd_gI, c_ahd_pI, c_ahd_pR, c_then_th, c_then_gI, c_then_gJ, c_then_pI, c_then_pJ, c_sig_th, c_sig_gI, c_sig_pI, c_sig_pR, c_kee_th, c_kee_gI, c_kee_pI, c_kee_pR, c_gam_th, c_gam_gI, c_gam_pI, c_gam_pR, c_brd_th, c_brd_gI, c_brd_gJ, c_brd_pI, c_brd_pJ, c_nums_a, c_nums_t, c_bytes_a, c_bytes_t, c_lov_a, c_lov_t, c_parr_a, c_parr_t, c_plps_a, c_plps_t, c_mkd_a, c_sav_a, c_sav_t, c_wut_a, c_wut_t, c_wut_a0, c_wut_t0, c_fits_a, c_fits_t, c_wsum_a, c_wsum_t, c_wsum_a0, c_wsum_t0, c_ckp_a, c_ckp_t, c_ckr_a, c_ckr_t, c_cas_a, c_cas_t, c_cmb_a, c_cmb_t, c_clb_a, c_clb_t, c_clb_a0, c_clb_t0, c_glv_a, c_glv_t, c_clv_a, c_clv_t, c_clv_a0, c_clv_t0, c_clv_a1, c_clv_t1, c_clv_a2, c_clv_t2, c_clv_a3, c_clv_t3, c_clv_a4, c_clv_t4, ↓reduceIte, ↓ap_ite, ↓bd_ite, bd_bd, bd_rt, ap_rt, ite_some, nI_add, nI_1, R_sI, R_sJ, nz_1, nz_2, nz_3, nz_4, nz_5, nz_6, nz_7, nz_8, nz_9, nz_10, nz_11, nz_12, nz_m1, z_eq, if_true, if_false, e_some, ite_self]
  exact key (3 * (L - 1) + 1) 0 (by omega) rfl m_F (by have := F_gt; omega)
set_option maxHeartbeats 200000 in
theorem k_onlyLove (hC : ClsP μ) (hL1 : 1 ≤ L) (hL : L ≤ 6) (hl : m_I μ (20, 0, 0) 2 = nI L) (hW : ∀ s, s < 19 → m_I μ (21, 0, 0) s = if fitW F L s = true then 1 else 0) : fn_Si_onlyLove (some (20, 0, 0)) μ = some (olv (canL F L) 4 (-1) 0, μ) := by
  have key : ∀ j o v, v + j = 4 → ∀ G, j < G → m_lp (fn_Si_onlyLove_l4 (some (20, 0, 0))) G (o, nI v) μ = some (olv (canL F L) j o v, μ) := by
    intro j
    induction j with
    | zero =>
      intro o v hv G hG
      obtain ⟨G', rfl⟩ : ∃ G', G = G' + 1 := ⟨G - 1, by omega⟩
      obtain rfl : v = 4 := by omega
      have h1 : fn_Si_onlyLove_l4 (some (20, 0, 0)) (o, nI 4) μ = some (.inr o, μ) := by
        unfold fn_Si_onlyLove_l4
        simp only [↓bd_bd, ↓bd_rt, ↓reduceIte, ↓ap_ite, ↓bd_ite, bd_bd, bd_rt, ap_rt, ite_some, nz_1, nz_2, nz_3, nz_4, nz_5, nz_6, nz_7, nz_8, nz_9, nz_10, nz_11, nz_12, nz_m1, z_eq, if_true, if_false, e_some, ite_self, (show (3 : Int32) < nI 4 by decide)]
      rw [lp_s, bd_of h1]
      rfl
    | succ j ih =>
      intro o v hv G hG
      obtain ⟨G', rfl⟩ : ∃ G', G = G' + 1 := ⟨G - 1, by omega⟩
      have hgt : ((3 : Int32) < nI v) = False := eq_false (Int32.not_lt.mpr (nI_le (b := 3) (by omega) (by omega)))
      have hc := k_canLove hC hL1 hL hl hW (v := v) (by omega)
      rw [lp_s]
      unfold olv
      by_cases q : canL F L v = true
      · rw [if_pos q] at hc ⊢
        by_cases q2 : o = -1
        · have q2' : (o = -1) = True := eq_true q2
          have hst : fn_Si_onlyLove_l4 (some (20, 0, 0)) (o, nI v) μ = some (.inl (nI v, nI (v + 1)), μ) := by
            unfold fn_Si_onlyLove_l4
            simp (disch := first | exact hC | exact hP | exact hR | ((repeat first | apply ClsP_sI | apply ClsP_sJ | apply ClsP_rI | apply ClsP_rJ | apply ClsP_rY); exact hC) | ((repeat first | apply FamP_sI | apply FamP_sJ | apply FamP_rI | apply FamP_rJ | apply FamP_rY); exact hP) | ((repeat first | apply RefP_sI | apply RefP_sJ | apply RefP_rI | apply RefP_rJ | apply RefP_rY); exact hR) | ((repeat first | apply PlanP_sI | apply PlanP_sJ | apply PlanP_rI | apply PlanP_rJ | apply PlanP_rY); exact hL) | omega) only [↓c_main_thb, ↓c_tray_thb, ↓c_text_thb, ↓c_fam_thb, ↓c_per_thb, ↓c_thi_thb, ↓c_plan_thb, ↓c_ahd_thb, ↓c_then_thb, ↓c_sig_thb, ↓c_kee_thb, ↓c_gam_thb, ↓c_brd_thb, ↓c_main_r3, ↓c_main_r4, ↓c_main_r8, ↓c_main_r10, ↓c_main_r11, ↓c_main_r12, ↓c_main_r13, ↓c_main_r14, ↓c_text_r0, ↓c_ahd_r1, ↓c_ahd_r2, ↓c_ahd_r3, ↓c_sig_r0, ↓c_sig_r1, ↓c_kee_r0, ↓c_kee_r1, ↓c_kee_r2, ↓c_kee_r3, ↓c_kee_r5, ↓c_gam_r1, ↓c_gam_r2, ↓c_trays_r, ↓c_tray_r2, ↓c_brds_r, ↓c_brds_r0, ↓c_brds_r1, ↓c_fam_r7, ↓c_fam_r8, ↓c_pers_r, ↓c_per_r4, ↓c_itm_r, ↓c_plan_r2, ↓c_plan_r3, ↓c_plan_r4, ↓c_plan_r5, ↓c_plan_r6, ↓c_plan_r11, ↓c_plan_r12, ↓c_main_R5, ↓c_main_R6, ↓c_main_R7, ↓c_fam_R9, ↓c_main_th, ↓c_main_gI, ↓c_main_gJ, ↓c_main_pI, ↓c_main_pJ, ↓c_main_pR, ↓c_main_pZ, ↓c_tray_th, ↓c_tray_gI, ↓c_tray_pI, ↓c_tray_pR, ↓c_text_th, ↓c_text_gI, ↓c_text_gJ, ↓c_text_pI, ↓c_text_pJ, ↓c_text_pR, ↓c_fam_th, ↓c_fam_gI, ↓c_fam_pI, ↓c_fam_pR, ↓c_per_th, ↓c_per_gI, ↓c_per_gJ, ↓c_per_pI, ↓c_per_pJ, ↓c_per_pR, ↓c_per_pZ, ↓c_thi_th, ↓c_thi_gI, ↓c_thi_gJ, ↓c_thi_pI, ↓c_thi_pJ, ↓c_plan_th, ↓c_plan_gI, ↓c_plan_pI, ↓c_plan_pR, ↓c_plan_pZ, ↓c_ahd_th, ↓c_ahd_gI, ↓c_ahd_pI, ↓c_ahd_pR, ↓c_then_th, ↓c_then_gI, ↓c_then_gJ, ↓c_then_pI, ↓c_then_pJ, ↓c_sig_th, ↓c_sig_gI, ↓c_sig_pI, ↓c_sig_pR, ↓c_kee_th, ↓c_kee_gI, ↓c_kee_pI, ↓c_kee_pR, ↓c_gam_th, ↓c_gam_gI, ↓c_gam_pI, ↓c_gam_pR, ↓c_brd_th, ↓c_brd_gI, ↓c_brd_gJ, ↓c_brd_pI, ↓c_brd_pJ, ↓c_nums_a, ↓c_nums_t, ↓c_bytes_a, ↓c_bytes_t, ↓c_lov_a, ↓c_lov_t, ↓c_parr_a, ↓c_parr_t, ↓c_plps_a, ↓c_plps_t, ↓c_mkd_a, ↓c_sav_a, ↓c_sav_t, ↓c_wut_a, ↓c_wut_t, ↓c_wut_a0, ↓c_wut_t0, ↓c_fits_a, ↓c_fits_t, ↓c_wsum_a, ↓c_wsum_t, ↓c_wsum_a0, ↓c_wsum_t0, ↓c_ckp_a, ↓c_ckp_t, ↓c_ckr_a, ↓c_ckr_t, ↓c_cas_a, ↓c_cas_t, ↓c_cmb_a, ↓c_cmb_t, ↓c_clb_a, ↓c_clb_t, ↓c_clb_a0, ↓c_clb_t0, ↓c_glv_a, ↓c_glv_t, ↓c_clv_a, ↓c_clv_t, ↓c_clv_a0, ↓c_clv_t0, ↓c_clv_a1, ↓c_clv_t1, ↓c_clv_a2, ↓c_clv_t2, ↓c_clv_a3, ↓c_clv_t3, ↓c_clv_a4, ↓c_clv_t4, ↓bd_bd, ↓bd_rt, c_main_thb, c_tray_thb, c_text_thb, c_fam_thb, c_per_thb, c_thi_thb, c_plan_thb, c_ahd_thb, c_then_thb, c_sig_thb, c_kee_thb, c_gam_thb, c_brd_thb, c_main_r3, c_main_r4, c_main_r8, c_main_r10, c_main_r11, c_main_r12, c_main_r13, c_main_r14, c_text_r0, c_ahd_r1, c_ahd_r2, c_ahd_r3, c_sig_r0, c_sig_r1, c_kee_r0, c_kee_r1, c_kee_r2, c_kee_r3, c_kee_r5, c_gam_r1, c_gam_r2, c_trays_r, c_tray_r2, c_brds_r, c_brds_r0, c_brds_r1, c_fam_r7, c_fam_r8, c_pers_r, c_per_r4, c_itm_r, c_plan_r2, c_plan_r3, c_plan_r4, c_plan_r5, c_plan_r6, c_plan_r11, c_plan_r12, c_main_R5, c_main_R6, c_main_R7, c_fam_R9, c_main_th, c_main_gI, c_main_gJ, c_main_pI, c_main_pJ, c_main_pR, c_main_pZ, c_tray_th, c_tray_gI, c_tray_pI, c_tray_pR, c_text_th, c_text_gI, c_text_gJ, c_text_pI, c_text_pJ, c_text_pR, c_fam_th, c_fam_gI, c_fam_pI, c_fam_pR, c_per_th, c_per_gI, c_per_gJ, c_per_pI, c_per_pJ, c_per_pR, c_per_pZ, c_thi_th, c_thi_gI, c_thi_gJ, c_thi_pI, c_thi_pJ, c_plan_th, c_plan_gI, c_plan_pI, c_plan_pR, c_plan_pZ, c_ahd_th, c_ahd_gI, c_ahd_pI, c_ahd_pR, c_then_th, c_then_gI, c_then_gJ, c_then_pI, c_then_pJ, c_sig_th, c_sig_gI, c_sig_pI, c_sig_pR, c_kee_th, c_kee_gI, c_kee_pI, c_kee_pR, c_gam_th, c_gam_gI, c_gam_pI, c_gam_pR, c_brd_th, c_brd_gI, c_brd_gJ, c_brd_pI, c_brd_pJ, c_nums_a, c_nums_t, c_bytes_a, c_bytes_t, c_lov_a, c_lov_t, c_parr_a, c_parr_t, c_plps_a, c_plps_t, c_mkd_a, c_sav_a, c_sav_t, c_wut_a, c_wut_t, c_wut_a0, c_wut_t0, c_fits_a, c_fits_t, c_wsum_a, c_wsum_t, c_wsum_a0, c_wsum_t0, c_ckp_a, c_ckp_t, c_ckr_a, c_ckr_t, c_cas_a, c_cas_t, c_cmb_a, c_cmb_t, c_clb_a, c_clb_t, c_clb_a0, c_clb_t0, c_glv_a, c_glv_t, c_clv_a, c_clv_t, c_clv_a0, c_clv_t0, c_clv_a1, c_clv_t1, c_clv_a2, c_clv_t2, c_clv_a3, c_clv_t3, c_clv_a4, c_clv_t4, ↓reduceIte, ↓ap_ite, ↓bd_ite, bd_bd, bd_rt, ap_rt, ite_some, nI_add, nI_1, R_sI, R_sJ, nz_1, nz_2, nz_3, nz_4, nz_5, nz_6, nz_7, nz_8, nz_9, nz_10, nz_11, nz_12, nz_m1, z_eq, if_true, if_false, e_some, ite_self, hgt, ↓bd_of hc, q2']
          rw [if_pos q2, bd_of hst]
          exact ih (nI v) (v + 1) (by omega) G' (by omega)
        · have q2' : (o = -1) = False := eq_false q2
          have hst : fn_Si_onlyLove_l4 (some (20, 0, 0)) (o, nI v) μ = some (.inr (-1), μ) := by
            unfold fn_Si_onlyLove_l4
            simp (disch := first | exact hC | exact hP | exact hR | ((repeat first | apply ClsP_sI | apply ClsP_sJ | apply ClsP_rI | apply ClsP_rJ | apply ClsP_rY); exact hC) | ((repeat first | apply FamP_sI | apply FamP_sJ | apply FamP_rI | apply FamP_rJ | apply FamP_rY); exact hP) | ((repeat first | apply RefP_sI | apply RefP_sJ | apply RefP_rI | apply RefP_rJ | apply RefP_rY); exact hR) | ((repeat first | apply PlanP_sI | apply PlanP_sJ | apply PlanP_rI | apply PlanP_rJ | apply PlanP_rY); exact hL) | omega) only [↓c_main_thb, ↓c_tray_thb, ↓c_text_thb, ↓c_fam_thb, ↓c_per_thb, ↓c_thi_thb, ↓c_plan_thb, ↓c_ahd_thb, ↓c_then_thb, ↓c_sig_thb, ↓c_kee_thb, ↓c_gam_thb, ↓c_brd_thb, ↓c_main_r3, ↓c_main_r4, ↓c_main_r8, ↓c_main_r10, ↓c_main_r11, ↓c_main_r12, ↓c_main_r13, ↓c_main_r14, ↓c_text_r0, ↓c_ahd_r1, ↓c_ahd_r2, ↓c_ahd_r3, ↓c_sig_r0, ↓c_sig_r1, ↓c_kee_r0, ↓c_kee_r1, ↓c_kee_r2, ↓c_kee_r3, ↓c_kee_r5, ↓c_gam_r1, ↓c_gam_r2, ↓c_trays_r, ↓c_tray_r2, ↓c_brds_r, ↓c_brds_r0, ↓c_brds_r1, ↓c_fam_r7, ↓c_fam_r8, ↓c_pers_r, ↓c_per_r4, ↓c_itm_r, ↓c_plan_r2, ↓c_plan_r3, ↓c_plan_r4, ↓c_plan_r5, ↓c_plan_r6, ↓c_plan_r11, ↓c_plan_r12, ↓c_main_R5, ↓c_main_R6, ↓c_main_R7, ↓c_fam_R9, ↓c_main_th, ↓c_main_gI, ↓c_main_gJ, ↓c_main_pI, ↓c_main_pJ, ↓c_main_pR, ↓c_main_pZ, ↓c_tray_th, ↓c_tray_gI, ↓c_tray_pI, ↓c_tray_pR, ↓c_text_th, ↓c_text_gI, ↓c_text_gJ, ↓c_text_pI, ↓c_text_pJ, ↓c_text_pR, ↓c_fam_th, ↓c_fam_gI, ↓c_fam_pI, ↓c_fam_pR, ↓c_per_th, ↓c_per_gI, ↓c_per_gJ, ↓c_per_pI, ↓c_per_pJ, ↓c_per_pR, ↓c_per_pZ, ↓c_thi_th, ↓c_thi_gI, ↓c_thi_gJ, ↓c_thi_pI, ↓c_thi_pJ, ↓c_plan_th, ↓c_plan_gI, ↓c_plan_pI, ↓c_plan_pR, ↓c_plan_pZ, ↓c_ahd_th, ↓c_ahd_gI, ↓c_ahd_pI, ↓c_ahd_pR, ↓c_then_th, ↓c_then_gI, ↓c_then_gJ, ↓c_then_pI, ↓c_then_pJ, ↓c_sig_th, ↓c_sig_gI, ↓c_sig_pI, ↓c_sig_pR, ↓c_kee_th, ↓c_kee_gI, ↓c_kee_pI, ↓c_kee_pR, ↓c_gam_th, ↓c_gam_gI, ↓c_gam_pI, ↓c_gam_pR, ↓c_brd_th, ↓c_brd_gI, ↓c_brd_gJ, ↓c_brd_pI, ↓c_brd_pJ, ↓c_nums_a, ↓c_nums_t, ↓c_bytes_a, ↓c_bytes_t, ↓c_lov_a, ↓c_lov_t, ↓c_parr_a, ↓c_parr_t, ↓c_plps_a, ↓c_plps_t, ↓c_mkd_a, ↓c_sav_a, ↓c_sav_t, ↓c_wut_a, ↓c_wut_t, ↓c_wut_a0, ↓c_wut_t0, ↓c_fits_a, ↓c_fits_t, ↓c_wsum_a, ↓c_wsum_t, ↓c_wsum_a0, ↓c_wsum_t0, ↓c_ckp_a, ↓c_ckp_t, ↓c_ckr_a, ↓c_ckr_t, ↓c_cas_a, ↓c_cas_t, ↓c_cmb_a, ↓c_cmb_t, ↓c_clb_a, ↓c_clb_t, ↓c_clb_a0, ↓c_clb_t0, ↓c_glv_a, ↓c_glv_t, ↓c_clv_a, ↓c_clv_t, ↓c_clv_a0, ↓c_clv_t0, ↓c_clv_a1, ↓c_clv_t1, ↓c_clv_a2, ↓c_clv_t2, ↓c_clv_a3, ↓c_clv_t3, ↓c_clv_a4, ↓c_clv_t4, ↓bd_bd, ↓bd_rt, c_main_thb, c_tray_thb, c_text_thb, c_fam_thb, c_per_thb, c_thi_thb, c_plan_thb, c_ahd_thb, c_then_thb, c_sig_thb, c_kee_thb, c_gam_thb, c_brd_thb, c_main_r3, c_main_r4, c_main_r8, c_main_r10, c_main_r11, c_main_r12, c_main_r13, c_main_r14, c_text_r0, c_ahd_r1, c_ahd_r2, c_ahd_r3, c_sig_r0, c_sig_r1, c_kee_r0, c_kee_r1, c_kee_r2, c_kee_r3, c_kee_r5, c_gam_r1, c_gam_r2, c_trays_r, c_tray_r2, c_brds_r, c_brds_r0, c_brds_r1, c_fam_r7, c_fam_r8, c_pers_r, c_per_r4, c_itm_r, c_plan_r2, c_plan_r3, c_plan_r4, c_plan_r5, c_plan_r6, c_plan_r11, c_plan_r12, c_main_R5, c_main_R6, c_main_R7, c_fam_R9, c_main_th, c_main_gI, c_main_gJ, c_main_pI, c_main_pJ, c_main_pR, c_main_pZ, c_tray_th, c_tray_gI, c_tray_pI, c_tray_pR, c_text_th, c_text_gI, c_text_gJ, c_text_pI, c_text_pJ, c_text_pR, c_fam_th, c_fam_gI, c_fam_pI, c_fam_pR, c_per_th, c_per_gI, c_per_gJ, c_per_pI, c_per_pJ, c_per_pR, c_per_pZ, c_thi_th, c_thi_gI, c_thi_gJ, c_thi_pI, c_thi_pJ, c_plan_th, c_plan_gI, c_plan_pI, c_plan_pR, c_plan_pZ, c_ahd_th, c_ahd_gI, c_ahd_pI, c_ahd_pR, c_then_th, c_then_gI, c_then_gJ, c_then_pI, c_then_pJ, c_sig_th, c_sig_gI, c_sig_pI, c_sig_pR, c_kee_th, c_kee_gI, c_kee_pI, c_kee_pR, c_gam_th, c_gam_gI, c_gam_pI, c_gam_pR, c_brd_th, c_brd_gI, c_brd_gJ, c_brd_pI, c_brd_pJ, c_nums_a, c_nums_t, c_bytes_a, c_bytes_t, c_lov_a, c_lov_t, c_parr_a, c_parr_t, c_plps_a, c_plps_t, c_mkd_a, c_sav_a, c_sav_t, c_wut_a, c_wut_t, c_wut_a0, c_wut_t0, c_fits_a, c_fits_t, c_wsum_a, c_wsum_t, c_wsum_a0, c_wsum_t0, c_ckp_a, c_ckp_t, c_ckr_a, c_ckr_t, c_cas_a, c_cas_t, c_cmb_a, c_cmb_t, c_clb_a, c_clb_t, c_clb_a0, c_clb_t0, c_glv_a, c_glv_t, c_clv_a, c_clv_t, c_clv_a0, c_clv_t0, c_clv_a1, c_clv_t1, c_clv_a2, c_clv_t2, c_clv_a3, c_clv_t3, c_clv_a4, c_clv_t4, ↓reduceIte, ↓ap_ite, ↓bd_ite, bd_bd, bd_rt, ap_rt, ite_some, nI_add, nI_1, R_sI, R_sJ, nz_1, nz_2, nz_3, nz_4, nz_5, nz_6, nz_7, nz_8, nz_9, nz_10, nz_11, nz_12, nz_m1, z_eq, if_true, if_false, e_some, ite_self, hgt, ↓bd_of hc, q2']
          rw [if_neg q2, bd_of hst]
          rfl
      · rw [if_neg q] at hc ⊢
        have hst : fn_Si_onlyLove_l4 (some (20, 0, 0)) (o, nI v) μ = some (.inl (o, nI (v + 1)), μ) := by
          unfold fn_Si_onlyLove_l4
          simp (disch := first | exact hC | exact hP | exact hR | ((repeat first | apply ClsP_sI | apply ClsP_sJ | apply ClsP_rI | apply ClsP_rJ | apply ClsP_rY); exact hC) | ((repeat first | apply FamP_sI | apply FamP_sJ | apply FamP_rI | apply FamP_rJ | apply FamP_rY); exact hP) | ((repeat first | apply RefP_sI | apply RefP_sJ | apply RefP_rI | apply RefP_rJ | apply RefP_rY); exact hR) | ((repeat first | apply PlanP_sI | apply PlanP_sJ | apply PlanP_rI | apply PlanP_rJ | apply PlanP_rY); exact hL) | omega) only [↓c_main_thb, ↓c_tray_thb, ↓c_text_thb, ↓c_fam_thb, ↓c_per_thb, ↓c_thi_thb, ↓c_plan_thb, ↓c_ahd_thb, ↓c_then_thb, ↓c_sig_thb, ↓c_kee_thb, ↓c_gam_thb, ↓c_brd_thb, ↓c_main_r3, ↓c_main_r4, ↓c_main_r8, ↓c_main_r10, ↓c_main_r11, ↓c_main_r12, ↓c_main_r13, ↓c_main_r14, ↓c_text_r0, ↓c_ahd_r1, ↓c_ahd_r2, ↓c_ahd_r3, ↓c_sig_r0, ↓c_sig_r1, ↓c_kee_r0, ↓c_kee_r1, ↓c_kee_r2, ↓c_kee_r3, ↓c_kee_r5, ↓c_gam_r1, ↓c_gam_r2, ↓c_trays_r, ↓c_tray_r2, ↓c_brds_r, ↓c_brds_r0, ↓c_brds_r1, ↓c_fam_r7, ↓c_fam_r8, ↓c_pers_r, ↓c_per_r4, ↓c_itm_r, ↓c_plan_r2, ↓c_plan_r3, ↓c_plan_r4, ↓c_plan_r5, ↓c_plan_r6, ↓c_plan_r11, ↓c_plan_r12, ↓c_main_R5, ↓c_main_R6, ↓c_main_R7, ↓c_fam_R9, ↓c_main_th, ↓c_main_gI, ↓c_main_gJ, ↓c_main_pI, ↓c_main_pJ, ↓c_main_pR, ↓c_main_pZ, ↓c_tray_th, ↓c_tray_gI, ↓c_tray_pI, ↓c_tray_pR, ↓c_text_th, ↓c_text_gI, ↓c_text_gJ, ↓c_text_pI, ↓c_text_pJ, ↓c_text_pR, ↓c_fam_th, ↓c_fam_gI, ↓c_fam_pI, ↓c_fam_pR, ↓c_per_th, ↓c_per_gI, ↓c_per_gJ, ↓c_per_pI, ↓c_per_pJ, ↓c_per_pR, ↓c_per_pZ, ↓c_thi_th, ↓c_thi_gI, ↓c_thi_gJ, ↓c_thi_pI, ↓c_thi_pJ, ↓c_plan_th, ↓c_plan_gI, ↓c_plan_pI, ↓c_plan_pR, ↓c_plan_pZ, ↓c_ahd_th, ↓c_ahd_gI, ↓c_ahd_pI, ↓c_ahd_pR, ↓c_then_th, ↓c_then_gI, ↓c_then_gJ, ↓c_then_pI, ↓c_then_pJ, ↓c_sig_th, ↓c_sig_gI, ↓c_sig_pI, ↓c_sig_pR, ↓c_kee_th, ↓c_kee_gI, ↓c_kee_pI, ↓c_kee_pR, ↓c_gam_th, ↓c_gam_gI, ↓c_gam_pI, ↓c_gam_pR, ↓c_brd_th, ↓c_brd_gI, ↓c_brd_gJ, ↓c_brd_pI, ↓c_brd_pJ, ↓c_nums_a, ↓c_nums_t, ↓c_bytes_a, ↓c_bytes_t, ↓c_lov_a, ↓c_lov_t, ↓c_parr_a, ↓c_parr_t, ↓c_plps_a, ↓c_plps_t, ↓c_mkd_a, ↓c_sav_a, ↓c_sav_t, ↓c_wut_a, ↓c_wut_t, ↓c_wut_a0, ↓c_wut_t0, ↓c_fits_a, ↓c_fits_t, ↓c_wsum_a, ↓c_wsum_t, ↓c_wsum_a0, ↓c_wsum_t0, ↓c_ckp_a, ↓c_ckp_t, ↓c_ckr_a, ↓c_ckr_t, ↓c_cas_a, ↓c_cas_t, ↓c_cmb_a, ↓c_cmb_t, ↓c_clb_a, ↓c_clb_t, ↓c_clb_a0, ↓c_clb_t0, ↓c_glv_a, ↓c_glv_t, ↓c_clv_a, ↓c_clv_t, ↓c_clv_a0, ↓c_clv_t0, ↓c_clv_a1, ↓c_clv_t1, ↓c_clv_a2, ↓c_clv_t2, ↓c_clv_a3, ↓c_clv_t3, ↓c_clv_a4, ↓c_clv_t4, ↓bd_bd, ↓bd_rt, c_main_thb, c_tray_thb, c_text_thb, c_fam_thb, c_per_thb, c_thi_thb, c_plan_thb, c_ahd_thb, c_then_thb, c_sig_thb, c_kee_thb, c_gam_thb, c_brd_thb, c_main_r3, c_main_r4, c_main_r8, c_main_r10, c_main_r11, c_main_r12, c_main_r13, c_main_r14, c_text_r0, c_ahd_r1, c_ahd_r2, c_ahd_r3, c_sig_r0, c_sig_r1, c_kee_r0, c_kee_r1, c_kee_r2, c_kee_r3, c_kee_r5, c_gam_r1, c_gam_r2, c_trays_r, c_tray_r2, c_brds_r, c_brds_r0, c_brds_r1, c_fam_r7, c_fam_r8, c_pers_r, c_per_r4, c_itm_r, c_plan_r2, c_plan_r3, c_plan_r4, c_plan_r5, c_plan_r6, c_plan_r11, c_plan_r12, c_main_R5, c_main_R6, c_main_R7, c_fam_R9, c_main_th, c_main_gI, c_main_gJ, c_main_pI, c_main_pJ, c_main_pR, c_main_pZ, c_tray_th, c_tray_gI, c_tray_pI, c_tray_pR, c_text_th, c_text_gI, c_text_gJ, c_text_pI, c_text_pJ, c_text_pR, c_fam_th, c_fam_gI, c_fam_pI, c_fam_pR, c_per_th, c_per_gI, c_per_gJ, c_per_pI, c_per_pJ, c_per_pR, c_per_pZ, c_thi_th, c_thi_gI, c_thi_gJ, c_thi_pI, c_thi_pJ, c_plan_th, c_plan_gI, c_plan_pI, c_plan_pR, c_plan_pZ, c_ahd_th, c_ahd_gI, c_ahd_pI, c_ahd_pR, c_then_th, c_then_gI, c_then_gJ, c_then_pI, c_then_pJ, c_sig_th, c_sig_gI, c_sig_pI, c_sig_pR, c_kee_th, c_kee_gI, c_kee_pI, c_kee_pR, c_gam_th, c_gam_gI, c_gam_pI, c_gam_pR, c_brd_th, c_brd_gI, c_brd_gJ, c_brd_pI, c_brd_pJ, c_nums_a, c_nums_t, c_bytes_a, c_bytes_t, c_lov_a, c_lov_t, c_parr_a, c_parr_t, c_plps_a, c_plps_t, c_mkd_a, c_sav_a, c_sav_t, c_wut_a, c_wut_t, c_wut_a0, c_wut_t0, c_fits_a, c_fits_t, c_wsum_a, c_wsum_t, c_wsum_a0, c_wsum_t0, c_ckp_a, c_ckp_t, c_ckr_a, c_ckr_t, c_cas_a, c_cas_t, c_cmb_a, c_cmb_t, c_clb_a, c_clb_t, c_clb_a0, c_clb_t0, c_glv_a, c_glv_t, c_clv_a, c_clv_t, c_clv_a0, c_clv_t0, c_clv_a1, c_clv_t1, c_clv_a2, c_clv_t2, c_clv_a3, c_clv_t3, c_clv_a4, c_clv_t4, ↓reduceIte, ↓ap_ite, ↓bd_ite, bd_bd, bd_rt, ap_rt, ite_some, nI_add, nI_1, R_sI, R_sJ, nz_1, nz_2, nz_3, nz_4, nz_5, nz_6, nz_7, nz_8, nz_9, nz_10, nz_11, nz_12, nz_m1, z_eq, if_true, if_false, e_some, ite_self, hgt, ↓bd_of hc]
        rw [bd_of hst]
        exact ih o (v + 1) (by omega) G' (by omega)
  unfold fn_Si_onlyLove
  simp (disch := first | exact hC | exact hP | exact hR | ((repeat first | apply ClsP_sI | apply ClsP_sJ | apply ClsP_rI | apply ClsP_rJ | apply ClsP_rY); exact hC) | ((repeat first | apply FamP_sI | apply FamP_sJ | apply FamP_rI | apply FamP_rJ | apply FamP_rY); exact hP) | ((repeat first | apply RefP_sI | apply RefP_sJ | apply RefP_rI | apply RefP_rJ | apply RefP_rY); exact hR) | ((repeat first | apply PlanP_sI | apply PlanP_sJ | apply PlanP_rI | apply PlanP_rJ | apply PlanP_rY); exact hL) | omega) only [↓c_main_thb, ↓c_tray_thb, ↓c_text_thb, ↓c_fam_thb, ↓c_per_thb, ↓c_thi_thb, ↓c_plan_thb, ↓c_ahd_thb, ↓c_then_thb, ↓c_sig_thb, ↓c_kee_thb, ↓c_gam_thb, ↓c_brd_thb, ↓c_main_r3, ↓c_main_r4, ↓c_main_r8, ↓c_main_r10, ↓c_main_r11, ↓c_main_r12, ↓c_main_r13, ↓c_main_r14, ↓c_text_r0, ↓c_ahd_r1, ↓c_ahd_r2, ↓c_ahd_r3, ↓c_sig_r0, ↓c_sig_r1, ↓c_kee_r0, ↓c_kee_r1, ↓c_kee_r2, ↓c_kee_r3, ↓c_kee_r5, ↓c_gam_r1, ↓c_gam_r2, ↓c_trays_r, ↓c_tray_r2, ↓c_brds_r, ↓c_brds_r0, ↓c_brds_r1, ↓c_fam_r7, ↓c_fam_r8, ↓c_pers_r, ↓c_per_r4, ↓c_itm_r, ↓c_plan_r2, ↓c_plan_r3, ↓c_plan_r4, ↓c_plan_r5, ↓c_plan_r6, ↓c_plan_r11, ↓c_plan_r12, ↓c_main_R5, ↓c_main_R6, ↓c_main_R7, ↓c_fam_R9, ↓c_main_th, ↓c_main_gI, ↓c_main_gJ, ↓c_main_pI, ↓c_main_pJ, ↓c_main_pR, ↓c_main_pZ, ↓c_tray_th, ↓c_tray_gI, ↓c_tray_pI, ↓c_tray_pR, ↓c_text_th, ↓c_text_gI, ↓c_text_gJ, ↓c_text_pI, ↓c_text_pJ, ↓c_text_pR, ↓c_fam_th, ↓c_fam_gI, ↓c_fam_pI, ↓c_fam_pR, ↓c_per_th, ↓c_per_gI, ↓c_per_gJ, ↓c_per_pI, ↓c_per_pJ, ↓c_per_pR, ↓c_per_pZ, ↓c_thi_th, ↓c_thi_gI, ↓c_thi_gJ, ↓c_thi_pI, ↓c_thi_pJ, ↓c_plan_th, ↓c_plan_gI, ↓c_plan_pI, ↓c_plan_pR, ↓c_plan_pZ, ↓c_ahd_th, ↓c_ahd_gI, ↓c_ahd_pI, ↓c_ahd_pR, ↓c_then_th, ↓c_then_gI, ↓c_then_gJ, ↓c_then_pI, ↓c_then_pJ, ↓c_sig_th, ↓c_sig_gI, ↓c_sig_pI, ↓c_sig_pR, ↓c_kee_th, ↓c_kee_gI, ↓c_kee_pI, ↓c_kee_pR, ↓c_gam_th, ↓c_gam_gI, ↓c_gam_pI, ↓c_gam_pR, ↓c_brd_th, ↓c_brd_gI, ↓c_brd_gJ, ↓c_brd_pI, ↓c_brd_pJ, ↓c_nums_a, ↓c_nums_t, ↓c_bytes_a, ↓c_bytes_t, ↓c_lov_a, ↓c_lov_t, ↓c_parr_a, ↓c_parr_t, ↓c_plps_a, ↓c_plps_t, ↓c_mkd_a, ↓c_sav_a, ↓c_sav_t, ↓c_wut_a, ↓c_wut_t, ↓c_wut_a0, ↓c_wut_t0, ↓c_fits_a, ↓c_fits_t, ↓c_wsum_a, ↓c_wsum_t, ↓c_wsum_a0, ↓c_wsum_t0, ↓c_ckp_a, ↓c_ckp_t, ↓c_ckr_a, ↓c_ckr_t, ↓c_cas_a, ↓c_cas_t, ↓c_cmb_a, ↓c_cmb_t, ↓c_clb_a, ↓c_clb_t, ↓c_clb_a0, ↓c_clb_t0, ↓c_glv_a, ↓c_glv_t, ↓c_clv_a, ↓c_clv_t, ↓c_clv_a0, ↓c_clv_t0, ↓c_clv_a1, ↓c_clv_t1, ↓c_clv_a2, ↓c_clv_t2, ↓c_clv_a3, ↓c_clv_t3, ↓c_clv_a4, ↓c_clv_t4, ↓bd_bd, ↓bd_rt, c_main_thb, c_tray_thb, c_text_thb, c_fam_thb, c_per_thb, c_thi_thb, c_plan_thb, c_ahd_thb, c_then_thb, c_sig_thb, c_kee_thb, c_gam_thb, c_brd_thb, c_main_r3, c_main_r4, c_main_r8, c_main_r10, c_main_r11, c_main_r12, c_main_r13, c_main_r14, c_text_r0, c_ahd_r1, c_ahd_r2, c_ahd_r3, c_sig_r0, c_sig_r1, c_kee_r0, c_kee_r1, c_kee_r2, c_kee_r3, c_kee_r5, c_gam_r1, c_gam_r2, c_trays_r, c_tray_r2, c_brds_r, c_brds_r0, c_brds_r1, c_fam_r7, c_fam_r8, c_pers_r, c_per_r4, c_itm_r, c_plan_r2, c_plan_r3, c_plan_r4, c_plan_r5, c_plan_r6, c_plan_r11, c_plan_r12, c_main_R5, c_main_R6, c_main_R7, c_fam_R9, c_main_th, c_main_gI, c_main_gJ, c_main_pI, c_main_pJ, c_main_pR, c_main_pZ, c_tray_th, c_tray_gI, c_tray_pI, c_tray_pR, c_text_th, c_text_gI, c_text_gJ, c_text_pI, c_text_pJ, c_text_pR, c_fam_th, c_fam_gI, c_fam_pI, c_fam_pR, c_per_th, c_per_gI, c_per_gJ, c_per_pI, c_per_pJ, c_per_pR, c_per_pZ, c_thi_th, c_thi_gI, c_thi_gJ, c_thi_pI, c_thi_pJ, c_plan_th, c_plan_gI, c_plan_pI, c_plan_pR, c_plan_pZ, c_ahd_th, c_ahd_gI, c_ahd_pI, c_ahd_pR, c_then_th, c_then_gI, c_then_gJ, c_then_pI, c_then_pJ, c_sig_th, c_sig_gI, c_sig_pI, c_sig_pR, c_kee_th, c_kee_gI, c_kee_pI, c_kee_pR, c_gam_th, c_gam_gI, c_gam_pI, c_gam_pR, c_brd_th, c_brd_gI, c_brd_gJ, c_brd_pI, c_brd_pJ, c_nums_a, c_nums_t, c_bytes_a, c_bytes_t, c_lov_a, c_lov_t, c_parr_a, c_parr_t, c_plps_a, c_plps_t, c_mkd_a, c_sav_a, c_sav_t, c_wut_a, c_wut_t, c_wut_a0, c_wut_t0, c_fits_a, c_fits_t, c_wsum_a, c_wsum_t, c_wsum_a0, c_wsum_t0, c_ckp_a, c_ckp_t, c_ckr_a, c_ckr_t, c_cas_a, c_cas_t, c_cmb_a, c_cmb_t, c_clb_a, c_clb_t, c_clb_a0, c_clb_t0, c_glv_a, c_glv_t, c_clv_a, c_clv_t, c_clv_a0, c_clv_t0, c_clv_a1, c_clv_t1, c_clv_a2, c_clv_t2, c_clv_a3, c_clv_t3, c_clv_a4, c_clv_t4, ↓reduceIte, ↓ap_ite, ↓bd_ite, bd_bd, bd_rt, ap_rt, ite_some, nI_add, nI_1, R_sI, R_sJ, nz_1, nz_2, nz_3, nz_4, nz_5, nz_6, nz_7, nz_8, nz_9, nz_10, nz_11, nz_12, nz_m1, z_eq, if_true, if_false, e_some, ite_self]
  exact key 4 (-1) 0 rfl m_F (by have := F_gt; omega)
end KO
