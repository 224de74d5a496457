/-! Part 69zf, laid by wip/whole/famnew.py: a new family -/
/-- a cell of the shape, made, of the family f -/
def okc (f N : Nat) (s : Nat ⊕ (Nat × Nat)) (a : mA) : Bool := decide (m_shp a.1 = some s) && (decide (a.1 ≠ 0) && (decide (m_pl (m_idx a) = a) && (decide (m_idx a < N) && (decide (7 ≤ a.1) && (decide (a.1 ≤ 15) && decide (a.2.1 = f))))))
/-- so many cells are made, nothing but the family f was touched, and its fields and rows so far -/
def ST (f N : Nat) (F : List (mA × Nat × mA)) (μ0 μ : mM) : Prop := μ.1 = N ∧ (∀ x y z k, ¬ (7 ≤ x ∧ x ≤ 15 ∧ y = f) → m_I μ (x, y, z) k = m_I μ0 (x, y, z) k ∧ m_J μ (x, y, z) k = m_J μ0 (x, y, z) k ∧ m_R μ (x, y, z) k = m_R μ0 (x, y, z) k) ∧ ∀ q ∈ F, m_R μ q.1 q.2.1 = some q.2.2
section X
variable {f N ci k : Nat} {F : List (mA × Nat × mA)} {μ0 μ : mM} {α β : Type} {Q : α → mM → Prop} {a b : mA}
set_option maxHeartbeats 200000 in
theorem okc_O (h : μ.1 = N) (hc : okc f N (.inl ci) a = true) : oO μ ci a := by
  unfold okc at hc
  simp only [Bool.and_eq_true, decide_eq_true_eq] at hc
  refine ⟨hc.1, ?_⟩
  simp only [m_ok, Bool.and_eq_true, decide_eq_true_eq]
  exact ⟨hc.2.1, hc.2.2.1, by rw [h]; exact hc.2.2.2.1⟩
set_option maxHeartbeats 200000 in
theorem okc_A {t n : Nat} (h : μ.1 = N) (hc : okc f N (.inr (t, n)) a = true) : oA μ t n a := by
  unfold okc at hc
  simp only [Bool.and_eq_true, decide_eq_true_eq] at hc
  refine ⟨hc.1, ?_⟩
  simp only [m_ok, Bool.and_eq_true, decide_eq_true_eq]
  exact ⟨hc.2.1, hc.2.2.1, by rw [h]; exact hc.2.2.2.1⟩
set_option maxHeartbeats 200000 in
theorem okc_in {s : Nat ⊕ (Nat × Nat)} (hc : okc f N s a = true) : 7 ≤ a.1 ∧ a.1 ≤ 15 ∧ a.2.1 = f := by
  unfold okc at hc
  simp only [Bool.and_eq_true, decide_eq_true_eq] at hc
  exact hc.2.2.2.2
def nwc (f N : Nat) (s : Nat ⊕ (Nat × Nat)) (F : List (mA × Nat × mA)) (a : mA) : Bool := decide (m_pl N = a) && (okc f (N + 1) s a && F.all (fun q => decide (q.1 ≠ a)))
set_option maxHeartbeats 200000 in
theorem ST_zero (h : ST f N F μ0 μ) {s : Nat ⊕ (Nat × Nat)} (hc : nwc f N s F a = true) : ST f (N + 1) F μ0 (m_zero μ a) := by
  unfold nwc at hc
  rw [Bool.and_eq_true, Bool.and_eq_true, List.all_eq_true] at hc
  obtain ⟨h1, h2, h3⟩ := h
  obtain ⟨-, c2, c3⟩ := hc
  obtain ⟨d1, d2, d3⟩ := okc_in c2
  refine ⟨by show μ.1 + 1 = _; rw [h1], fun x y z k hn => ?_, fun q hq => ?_⟩
  · have hne : ((x, y, z) : mA) ≠ a := fun w => hn (by rw [← w] at d1 d2 d3; exact ⟨d1, d2, d3⟩)
    obtain ⟨g1, g2, g3⟩ := h2 x y z k hn
    refine ⟨?_, ?_, ?_⟩
    · show m_row μ.2.1 a _ (x, y, z) k = _
      rw [m_row_ne hne]; exact g1
    · show m_row μ.2.2.1 a _ (x, y, z) k = _
      rw [m_row_ne hne]; exact g2
    · show m_row μ.2.2.2 a _ (x, y, z) k = _
      rw [m_row_ne hne]; exact g3
  · have := of_decide_eq_true (c3 q hq)
    show m_row μ.2.2.2 a _ q.1 q.2.1 = _
    rw [m_row_ne this]
    exact h3 q hq
set_option maxHeartbeats 200000 in
theorem x_new {K : mA → mP α} (a : mA) (h : ST f N F μ0 μ) (hc : nwc f N (.inl ci) F a = true) (hk : ∀ μ', ST f (N + 1) F μ0 μ' → m_e (K a μ') Q) : m_e (m_bd (m_new ci) K μ) Q := by
  have hz := ST_zero h hc
  unfold nwc at hc
  rw [Bool.and_eq_true, Bool.and_eq_true] at hc
  obtain ⟨c1, c2, -⟩ := hc
  have e1 := of_decide_eq_true c1
  unfold okc at c2
  simp only [Bool.and_eq_true, decide_eq_true_eq] at c2
  have e : m_new ci μ = some (a, m_zero μ a) := by
    unfold m_new
    rw [h.1, e1, if_pos ⟨c2.1, c2.2.1⟩]
  rw [bd_of e]
  exact hk _ hz
set_option maxHeartbeats 200000 in
theorem x_nea {t n : Nat} {K : mA → mP α} (a : mA) (h : ST f N F μ0 μ) (hc : nwc f N (.inr (t, n)) F a = true) (hk : ∀ μ', ST f (N + 1) F μ0 μ' → m_e (K a μ') Q) : m_e (m_bd (m_nea t n) K μ) Q := by
  have hz := ST_zero h hc
  unfold nwc at hc
  rw [Bool.and_eq_true, Bool.and_eq_true] at hc
  obtain ⟨c1, c2, -⟩ := hc
  have e1 := of_decide_eq_true c1
  unfold okc at c2
  simp only [Bool.and_eq_true, decide_eq_true_eq] at c2
  have e : m_nea t n μ = some (a, m_zero μ a) := by
    unfold m_nea
    rw [h.1, e1, if_pos ⟨c2.1, c2.2.1⟩]
  rw [bd_of e]
  exact hk _ hz
set_option maxHeartbeats 200000 in
theorem x_pI {K : Unit → mP α} {v : Int32} (h : ST f N F μ0 μ) (hc : okc f N (.inl ci) a = true) (hk : ∀ μ', ST f N F μ0 μ' → m_e (K () μ') Q) : m_e (m_bd (m_pI ci k (some a) v) K μ) Q := by
  rw [bd_pI (okc_O h.1 hc)]
  obtain ⟨d1, d2, d3⟩ := okc_in hc
  refine hk _ ⟨h.1, fun x y z j hn => ?_, h.2.2⟩
  obtain ⟨g1, g2, g3⟩ := h.2.1 x y z j hn
  refine ⟨?_, g2, g3⟩
  rw [I_sI, if_neg (fun w => hn (by rw [← w.1] at d1 d2 d3; exact ⟨d1, d2, d3⟩))]
  exact g1
set_option maxHeartbeats 200000 in
theorem ST_sR (h : ST f N F μ0 μ) (hr : 7 ≤ a.1 ∧ a.1 ≤ 15 ∧ a.2.1 = f) (hF : F.all (fun q => !(decide (q.1 = a) && decide (q.2.1 = k))) = true) : ST f N ((a, k, b) :: F) μ0 (m_sR μ a k (some b)) := by
  rw [List.all_eq_true] at hF
  obtain ⟨d1, d2, d3⟩ := hr
  refine ⟨h.1, fun x y z j hn => ?_, fun q hq => ?_⟩
  · obtain ⟨g1, g2, g3⟩ := h.2.1 x y z j hn
    refine ⟨g1, g2, ?_⟩
    rw [R_sR, if_neg (fun w => hn (by rw [← w.1] at d1 d2 d3; exact ⟨d1, d2, d3⟩))]
    exact g3
  · rw [R_sR]
    rcases List.mem_cons.mp hq with rfl | hq
    · rw [if_pos ⟨rfl, rfl⟩]
    · have hz := hF q hq
      rw [if_neg, h.2.2 q hq]
      rintro ⟨w1, w2⟩
      rw [decide_eq_true w1, decide_eq_true w2] at hz
      exact Bool.noConfusion hz
set_option maxHeartbeats 200000 in
theorem x_pR {K : Unit → mP α} (h : ST f N F μ0 μ) (hc : okc f N (.inl ci) a = true) (hF : F.all (fun q => !(decide (q.1 = a) && decide (q.2.1 = k))) = true) (hk : ∀ μ', ST f N ((a, k, b) :: F) μ0 μ' → m_e (K () μ') Q) : m_e (m_bd (m_pR ci k (some a) (some b)) K μ) Q := by
  rw [bd_pR (okc_O h.1 hc)]
  exact hk _ (ST_sR h (okc_in hc) hF)
set_option maxHeartbeats 200000 in
theorem x_tR {t n i : Nat} {K : Unit → mP α} (h : ST f N F μ0 μ) (hc : okc f N (.inr (t, n)) a = true) (hb : okc f N (.inl ci) b = true) (hi : i < n) (hn : n < 2147483648) (hF : F.all (fun q => !(decide (q.1 = a) && decide (q.2.1 = i))) = true) (hk : ∀ μ', ST f N ((a, i, b) :: F) μ0 μ' → m_e (K () μ') Q) : m_e (m_bd (m_tR t ci (some a) (nI i) (some b)) K μ) Q := by
  rw [bd_tR (okc_A h.1 hc) hi hn (okc_O h.1 hb)]
  exact hk _ (ST_sR h (okc_in hc) hF)
set_option maxHeartbeats 200000 in
theorem x_gR {K : Option mA → mP α} (b : mA) (h : ST f N F μ0 μ) (hc : okc f N (.inl ci) a = true) (hF : (a, k, b) ∈ F) (hk : m_e (K (some b) μ) Q) : m_e (m_bd (m_gR ci k (some a)) K μ) Q := by
  rw [bd_gR (okc_O h.1 hc), h.2.2 _ hF]
  exact hk
set_option maxHeartbeats 200000 in
theorem x_thb {T : mP β} {K : β → mP α} (h : ST f N F μ0 μ) (hc : okc f N (.inl ci) a = true) (hk : m_e (m_bd T K μ) Q) : m_e (m_bd (m_th ci (some a) T) K μ) Q := by
  rw [bd_thb (okc_O h.1 hc)]
  exact hk
set_option maxHeartbeats 200000 in
theorem x_bb {γ : Type} {x : mP γ} {g : γ → mP β} {K : β → mP α} (hk : m_e (m_bd x (fun a => m_bd (g a) K) μ) Q) : m_e (m_bd (m_bd x g) K μ) Q := by
  rw [bd_bd]
  exact hk
set_option maxHeartbeats 200000 in
theorem x_rt {v : β} {K : β → mP α} (hk : m_e (K v μ) Q) : m_e (m_bd (m_rt v) K μ) Q := hk
end X
/-- a new family f, from N cells on -/
def NewF (f N : Nat) (μ μ' : mM) : Prop := μ'.1 = N + 31 ∧ (∀ x y z k, ¬ (7 ≤ x ∧ x ≤ 15 ∧ y = f) → m_I μ' (x, y, z) k = m_I μ (x, y, z) k ∧ m_J μ' (x, y, z) k = m_J μ (x, y, z) k ∧ m_R μ' (x, y, z) k = m_R μ (x, y, z) k) ∧ famR (N + 31) (m_R μ') f ∧ m_R μ' (7, f, 0) 9 = some (13, f, 0) ∧ planR (N + 31) (m_R μ') f
set_option maxHeartbeats 200000 in
theorem ST_0 {f N : Nat} {μ : mM} (h : μ.1 = N) : ST f N [] μ μ := ⟨h, fun _ _ _ _ _ => ⟨rfl, rfl, rfl⟩, fun q hq => absurd hq List.not_mem_nil⟩
set_option maxHeartbeats 200000 in
theorem newF_2 {α : Type} {Q : α → mM → Prop} {K : mA → mP α} {μ0 μ : mM} (h : ST 2 129 [] μ0 μ) (hk : ∀ μ', NewF 2 129 μ0 μ' → m_e (K (7, 2, 0) μ') Q) : m_e (m_bd (m_new 3) (fun a => m_bd (fn_Fa_init a) (fun _ => K a)) μ) Q := by
  refine x_new (7, 2, 0) h (by decide +kernel) fun μ h => ?_
  unfold fn_Fa_init fn_Pe_init fn_Th_init fn_Pl_init
  refine x_thb h (by decide +kernel) ?_
  refine x_bb ?_
  refine x_pI h (by decide +kernel) fun μ h => ?_
  refine x_bb ?_
  refine x_pI h (by decide +kernel) fun μ h => ?_
  refine x_bb ?_
  refine x_pI h (by decide +kernel) fun μ h => ?_
  refine x_bb ?_
  refine x_pI h (by decide +kernel) fun μ h => ?_
  refine x_bb ?_
  refine x_nea (8, 2, 0) h (by decide +kernel) fun μ h => ?_
  refine x_bb ?_
  refine x_pR h (by decide +kernel) (by decide +kernel) fun μ h => ?_
  refine x_bb ?_
  refine x_gR (8, 2, 0) h (by decide +kernel) (by decide +kernel) ?_
  refine x_bb ?_
  refine x_new (9, 2, 0) h (by decide +kernel) fun μ h => ?_
  refine x_bb ?_
  refine x_thb h (by decide +kernel) ?_
  refine x_bb ?_
  refine x_nea (10, 2, 0) h (by decide +kernel) fun μ h => ?_
  refine x_bb ?_
  refine x_pR h (by decide +kernel) (by decide +kernel) fun μ h => ?_
  refine x_rt ?_
  refine x_bb ?_
  refine x_tR (n := 6) (i := 0) h (by decide +kernel) (by decide +kernel) (by decide) (by decide) (by decide +kernel) fun μ h => ?_
  refine x_bb ?_
  refine x_gR (8, 2, 0) h (by decide +kernel) (by decide +kernel) ?_
  refine x_bb ?_
  refine x_new (9, 2, 1) h (by decide +kernel) fun μ h => ?_
  refine x_bb ?_
  refine x_thb h (by decide +kernel) ?_
  refine x_bb ?_
  refine x_nea (10, 2, 1) h (by decide +kernel) fun μ h => ?_
  refine x_bb ?_
  refine x_pR h (by decide +kernel) (by decide +kernel) fun μ h => ?_
  refine x_rt ?_
  refine x_bb ?_
  refine x_tR (n := 6) (i := 1) h (by decide +kernel) (by decide +kernel) (by decide) (by decide) (by decide +kernel) fun μ h => ?_
  refine x_bb ?_
  refine x_gR (8, 2, 0) h (by decide +kernel) (by decide +kernel) ?_
  refine x_bb ?_
  refine x_new (9, 2, 2) h (by decide +kernel) fun μ h => ?_
  refine x_bb ?_
  refine x_thb h (by decide +kernel) ?_
  refine x_bb ?_
  refine x_nea (10, 2, 2) h (by decide +kernel) fun μ h => ?_
  refine x_bb ?_
  refine x_pR h (by decide +kernel) (by decide +kernel) fun μ h => ?_
  refine x_rt ?_
  refine x_bb ?_
  refine x_tR (n := 6) (i := 2) h (by decide +kernel) (by decide +kernel) (by decide) (by decide) (by decide +kernel) fun μ h => ?_
  refine x_bb ?_
  refine x_gR (8, 2, 0) h (by decide +kernel) (by decide +kernel) ?_
  refine x_bb ?_
  refine x_new (9, 2, 3) h (by decide +kernel) fun μ h => ?_
  refine x_bb ?_
  refine x_thb h (by decide +kernel) ?_
  refine x_bb ?_
  refine x_nea (10, 2, 3) h (by decide +kernel) fun μ h => ?_
  refine x_bb ?_
  refine x_pR h (by decide +kernel) (by decide +kernel) fun μ h => ?_
  refine x_rt ?_
  refine x_bb ?_
  refine x_tR (n := 6) (i := 3) h (by decide +kernel) (by decide +kernel) (by decide) (by decide) (by decide +kernel) fun μ h => ?_
  refine x_bb ?_
  refine x_gR (8, 2, 0) h (by decide +kernel) (by decide +kernel) ?_
  refine x_bb ?_
  refine x_new (9, 2, 4) h (by decide +kernel) fun μ h => ?_
  refine x_bb ?_
  refine x_thb h (by decide +kernel) ?_
  refine x_bb ?_
  refine x_nea (10, 2, 4) h (by decide +kernel) fun μ h => ?_
  refine x_bb ?_
  refine x_pR h (by decide +kernel) (by decide +kernel) fun μ h => ?_
  refine x_rt ?_
  refine x_bb ?_
  refine x_tR (n := 6) (i := 4) h (by decide +kernel) (by decide +kernel) (by decide) (by decide) (by decide +kernel) fun μ h => ?_
  refine x_bb ?_
  refine x_gR (8, 2, 0) h (by decide +kernel) (by decide +kernel) ?_
  refine x_bb ?_
  refine x_new (9, 2, 5) h (by decide +kernel) fun μ h => ?_
  refine x_bb ?_
  refine x_thb h (by decide +kernel) ?_
  refine x_bb ?_
  refine x_nea (10, 2, 5) h (by decide +kernel) fun μ h => ?_
  refine x_bb ?_
  refine x_pR h (by decide +kernel) (by decide +kernel) fun μ h => ?_
  refine x_rt ?_
  refine x_bb ?_
  refine x_tR (n := 6) (i := 5) h (by decide +kernel) (by decide +kernel) (by decide) (by decide) (by decide +kernel) fun μ h => ?_
  refine x_bb ?_
  refine x_nea (11, 2, 0) h (by decide +kernel) fun μ h => ?_
  refine x_bb ?_
  refine x_pR h (by decide +kernel) (by decide +kernel) fun μ h => ?_
  refine x_bb ?_
  refine x_gR (11, 2, 0) h (by decide +kernel) (by decide +kernel) ?_
  refine x_bb ?_
  refine x_new (12, 2, 0) h (by decide +kernel) fun μ h => ?_
  refine x_bb ?_
  refine x_thb h (by decide +kernel) ?_
  refine x_rt ?_
  refine x_bb ?_
  refine x_tR (n := 8) (i := 0) h (by decide +kernel) (by decide +kernel) (by decide) (by decide) (by decide +kernel) fun μ h => ?_
  refine x_bb ?_
  refine x_gR (11, 2, 0) h (by decide +kernel) (by decide +kernel) ?_
  refine x_bb ?_
  refine x_new (12, 2, 1) h (by decide +kernel) fun μ h => ?_
  refine x_bb ?_
  refine x_thb h (by decide +kernel) ?_
  refine x_rt ?_
  refine x_bb ?_
  refine x_tR (n := 8) (i := 1) h (by decide +kernel) (by decide +kernel) (by decide) (by decide) (by decide +kernel) fun μ h => ?_
  refine x_bb ?_
  refine x_gR (11, 2, 0) h (by decide +kernel) (by decide +kernel) ?_
  refine x_bb ?_
  refine x_new (12, 2, 2) h (by decide +kernel) fun μ h => ?_
  refine x_bb ?_
  refine x_thb h (by decide +kernel) ?_
  refine x_rt ?_
  refine x_bb ?_
  refine x_tR (n := 8) (i := 2) h (by decide +kernel) (by decide +kernel) (by decide) (by decide) (by decide +kernel) fun μ h => ?_
  refine x_bb ?_
  refine x_gR (11, 2, 0) h (by decide +kernel) (by decide +kernel) ?_
  refine x_bb ?_
  refine x_new (12, 2, 3) h (by decide +kernel) fun μ h => ?_
  refine x_bb ?_
  refine x_thb h (by decide +kernel) ?_
  refine x_rt ?_
  refine x_bb ?_
  refine x_tR (n := 8) (i := 3) h (by decide +kernel) (by decide +kernel) (by decide) (by decide) (by decide +kernel) fun μ h => ?_
  refine x_bb ?_
  refine x_gR (11, 2, 0) h (by decide +kernel) (by decide +kernel) ?_
  refine x_bb ?_
  refine x_new (12, 2, 4) h (by decide +kernel) fun μ h => ?_
  refine x_bb ?_
  refine x_thb h (by decide +kernel) ?_
  refine x_rt ?_
  refine x_bb ?_
  refine x_tR (n := 8) (i := 4) h (by decide +kernel) (by decide +kernel) (by decide) (by decide) (by decide +kernel) fun μ h => ?_
  refine x_bb ?_
  refine x_gR (11, 2, 0) h (by decide +kernel) (by decide +kernel) ?_
  refine x_bb ?_
  refine x_new (12, 2, 5) h (by decide +kernel) fun μ h => ?_
  refine x_bb ?_
  refine x_thb h (by decide +kernel) ?_
  refine x_rt ?_
  refine x_bb ?_
  refine x_tR (n := 8) (i := 5) h (by decide +kernel) (by decide +kernel) (by decide) (by decide) (by decide +kernel) fun μ h => ?_
  refine x_bb ?_
  refine x_gR (11, 2, 0) h (by decide +kernel) (by decide +kernel) ?_
  refine x_bb ?_
  refine x_new (12, 2, 6) h (by decide +kernel) fun μ h => ?_
  refine x_bb ?_
  refine x_thb h (by decide +kernel) ?_
  refine x_rt ?_
  refine x_bb ?_
  refine x_tR (n := 8) (i := 6) h (by decide +kernel) (by decide +kernel) (by decide) (by decide) (by decide +kernel) fun μ h => ?_
  refine x_bb ?_
  refine x_gR (11, 2, 0) h (by decide +kernel) (by decide +kernel) ?_
  refine x_bb ?_
  refine x_new (12, 2, 7) h (by decide +kernel) fun μ h => ?_
  refine x_bb ?_
  refine x_thb h (by decide +kernel) ?_
  refine x_rt ?_
  refine x_bb ?_
  refine x_tR (n := 8) (i := 7) h (by decide +kernel) (by decide +kernel) (by decide) (by decide) (by decide +kernel) fun μ h => ?_
  refine x_bb ?_
  refine x_new (13, 2, 0) h (by decide +kernel) fun μ h => ?_
  refine x_bb ?_
  refine x_thb h (by decide +kernel) ?_
  refine x_bb ?_
  refine x_nea (14, 2, 0) h (by decide +kernel) fun μ h => ?_
  refine x_bb ?_
  refine x_pR h (by decide +kernel) (by decide +kernel) fun μ h => ?_
  refine x_bb ?_
  refine x_nea (14, 2, 1) h (by decide +kernel) fun μ h => ?_
  refine x_bb ?_
  refine x_pR h (by decide +kernel) (by decide +kernel) fun μ h => ?_
  refine x_bb ?_
  refine x_nea (14, 2, 2) h (by decide +kernel) fun μ h => ?_
  refine x_bb ?_
  refine x_pR h (by decide +kernel) (by decide +kernel) fun μ h => ?_
  refine x_bb ?_
  refine x_nea (14, 2, 3) h (by decide +kernel) fun μ h => ?_
  refine x_bb ?_
  refine x_pR h (by decide +kernel) (by decide +kernel) fun μ h => ?_
  refine x_bb ?_
  refine x_nea (14, 2, 4) h (by decide +kernel) fun μ h => ?_
  refine x_bb ?_
  refine x_pR h (by decide +kernel) (by decide +kernel) fun μ h => ?_
  refine x_bb ?_
  refine x_nea (15, 2, 0) h (by decide +kernel) fun μ h => ?_
  refine x_bb ?_
  refine x_pR h (by decide +kernel) (by decide +kernel) fun μ h => ?_
  refine x_bb ?_
  refine x_nea (15, 2, 1) h (by decide +kernel) fun μ h => ?_
  refine x_bb ?_
  refine x_pR h (by decide +kernel) (by decide +kernel) fun μ h => ?_
  refine x_rt ?_
  refine x_bb ?_
  refine x_pR h (by decide +kernel) (by decide +kernel) fun μ h => ?_
  refine x_rt ?_
  refine hk μ ⟨h.1, h.2.1, ⟨by decide, by decide, h.2.2 ((7, 2, 0), 7, (8, 2, 0)) (by decide +kernel), h.2.2 ((7, 2, 0), 8, (11, 2, 0)) (by decide +kernel), fun i hi => ?_, fun i hi => ?_, fun i hi => ?_⟩, h.2.2 ((7, 2, 0), 9, (13, 2, 0)) (by decide +kernel), ⟨by decide, by decide, h.2.2 ((13, 2, 0), 2, (14, 2, 0)) (by decide +kernel), h.2.2 ((13, 2, 0), 3, (14, 2, 1)) (by decide +kernel), h.2.2 ((13, 2, 0), 4, (14, 2, 2)) (by decide +kernel), h.2.2 ((13, 2, 0), 5, (14, 2, 3)) (by decide +kernel), h.2.2 ((13, 2, 0), 6, (14, 2, 4)) (by decide +kernel), h.2.2 ((13, 2, 0), 11, (15, 2, 0)) (by decide +kernel), h.2.2 ((13, 2, 0), 12, (15, 2, 1)) (by decide +kernel)⟩⟩
  · obtain rfl | rfl | rfl | rfl | rfl | rfl : i = 0 ∨ i = 1 ∨ i = 2 ∨ i = 3 ∨ i = 4 ∨ i = 5 := by omega
    · exact h.2.2 ((8, 2, 0), 0, (9, 2, 0)) (by decide +kernel)
    · exact h.2.2 ((8, 2, 0), 1, (9, 2, 1)) (by decide +kernel)
    · exact h.2.2 ((8, 2, 0), 2, (9, 2, 2)) (by decide +kernel)
    · exact h.2.2 ((8, 2, 0), 3, (9, 2, 3)) (by decide +kernel)
    · exact h.2.2 ((8, 2, 0), 4, (9, 2, 4)) (by decide +kernel)
    · exact h.2.2 ((8, 2, 0), 5, (9, 2, 5)) (by decide +kernel)
  · obtain rfl | rfl | rfl | rfl | rfl | rfl : i = 0 ∨ i = 1 ∨ i = 2 ∨ i = 3 ∨ i = 4 ∨ i = 5 := by omega
    · exact h.2.2 ((9, 2, 0), 4, (10, 2, 0)) (by decide +kernel)
    · exact h.2.2 ((9, 2, 1), 4, (10, 2, 1)) (by decide +kernel)
    · exact h.2.2 ((9, 2, 2), 4, (10, 2, 2)) (by decide +kernel)
    · exact h.2.2 ((9, 2, 3), 4, (10, 2, 3)) (by decide +kernel)
    · exact h.2.2 ((9, 2, 4), 4, (10, 2, 4)) (by decide +kernel)
    · exact h.2.2 ((9, 2, 5), 4, (10, 2, 5)) (by decide +kernel)
  · obtain rfl | rfl | rfl | rfl | rfl | rfl | rfl | rfl : i = 0 ∨ i = 1 ∨ i = 2 ∨ i = 3 ∨ i = 4 ∨ i = 5 ∨ i = 6 ∨ i = 7 := by omega
    · exact h.2.2 ((11, 2, 0), 0, (12, 2, 0)) (by decide +kernel)
    · exact h.2.2 ((11, 2, 0), 1, (12, 2, 1)) (by decide +kernel)
    · exact h.2.2 ((11, 2, 0), 2, (12, 2, 2)) (by decide +kernel)
    · exact h.2.2 ((11, 2, 0), 3, (12, 2, 3)) (by decide +kernel)
    · exact h.2.2 ((11, 2, 0), 4, (12, 2, 4)) (by decide +kernel)
    · exact h.2.2 ((11, 2, 0), 5, (12, 2, 5)) (by decide +kernel)
    · exact h.2.2 ((11, 2, 0), 6, (12, 2, 6)) (by decide +kernel)
    · exact h.2.2 ((11, 2, 0), 7, (12, 2, 7)) (by decide +kernel)
set_option maxHeartbeats 200000 in
theorem newF_3 {α : Type} {Q : α → mM → Prop} {K : mA → mP α} {μ0 μ : mM} (h : ST 3 160 [] μ0 μ) (hk : ∀ μ', NewF 3 160 μ0 μ' → m_e (K (7, 3, 0) μ') Q) : m_e (m_bd (m_new 3) (fun a => m_bd (fn_Fa_init a) (fun _ => K a)) μ) Q := by
  refine x_new (7, 3, 0) h (by decide +kernel) fun μ h => ?_
  unfold fn_Fa_init fn_Pe_init fn_Th_init fn_Pl_init
  refine x_thb h (by decide +kernel) ?_
  refine x_bb ?_
  refine x_pI h (by decide +kernel) fun μ h => ?_
  refine x_bb ?_
  refine x_pI h (by decide +kernel) fun μ h => ?_
  refine x_bb ?_
  refine x_pI h (by decide +kernel) fun μ h => ?_
  refine x_bb ?_
  refine x_pI h (by decide +kernel) fun μ h => ?_
  refine x_bb ?_
  refine x_nea (8, 3, 0) h (by decide +kernel) fun μ h => ?_
  refine x_bb ?_
  refine x_pR h (by decide +kernel) (by decide +kernel) fun μ h => ?_
  refine x_bb ?_
  refine x_gR (8, 3, 0) h (by decide +kernel) (by decide +kernel) ?_
  refine x_bb ?_
  refine x_new (9, 3, 0) h (by decide +kernel) fun μ h => ?_
  refine x_bb ?_
  refine x_thb h (by decide +kernel) ?_
  refine x_bb ?_
  refine x_nea (10, 3, 0) h (by decide +kernel) fun μ h => ?_
  refine x_bb ?_
  refine x_pR h (by decide +kernel) (by decide +kernel) fun μ h => ?_
  refine x_rt ?_
  refine x_bb ?_
  refine x_tR (n := 6) (i := 0) h (by decide +kernel) (by decide +kernel) (by decide) (by decide) (by decide +kernel) fun μ h => ?_
  refine x_bb ?_
  refine x_gR (8, 3, 0) h (by decide +kernel) (by decide +kernel) ?_
  refine x_bb ?_
  refine x_new (9, 3, 1) h (by decide +kernel) fun μ h => ?_
  refine x_bb ?_
  refine x_thb h (by decide +kernel) ?_
  refine x_bb ?_
  refine x_nea (10, 3, 1) h (by decide +kernel) fun μ h => ?_
  refine x_bb ?_
  refine x_pR h (by decide +kernel) (by decide +kernel) fun μ h => ?_
  refine x_rt ?_
  refine x_bb ?_
  refine x_tR (n := 6) (i := 1) h (by decide +kernel) (by decide +kernel) (by decide) (by decide) (by decide +kernel) fun μ h => ?_
  refine x_bb ?_
  refine x_gR (8, 3, 0) h (by decide +kernel) (by decide +kernel) ?_
  refine x_bb ?_
  refine x_new (9, 3, 2) h (by decide +kernel) fun μ h => ?_
  refine x_bb ?_
  refine x_thb h (by decide +kernel) ?_
  refine x_bb ?_
  refine x_nea (10, 3, 2) h (by decide +kernel) fun μ h => ?_
  refine x_bb ?_
  refine x_pR h (by decide +kernel) (by decide +kernel) fun μ h => ?_
  refine x_rt ?_
  refine x_bb ?_
  refine x_tR (n := 6) (i := 2) h (by decide +kernel) (by decide +kernel) (by decide) (by decide) (by decide +kernel) fun μ h => ?_
  refine x_bb ?_
  refine x_gR (8, 3, 0) h (by decide +kernel) (by decide +kernel) ?_
  refine x_bb ?_
  refine x_new (9, 3, 3) h (by decide +kernel) fun μ h => ?_
  refine x_bb ?_
  refine x_thb h (by decide +kernel) ?_
  refine x_bb ?_
  refine x_nea (10, 3, 3) h (by decide +kernel) fun μ h => ?_
  refine x_bb ?_
  refine x_pR h (by decide +kernel) (by decide +kernel) fun μ h => ?_
  refine x_rt ?_
  refine x_bb ?_
  refine x_tR (n := 6) (i := 3) h (by decide +kernel) (by decide +kernel) (by decide) (by decide) (by decide +kernel) fun μ h => ?_
  refine x_bb ?_
  refine x_gR (8, 3, 0) h (by decide +kernel) (by decide +kernel) ?_
  refine x_bb ?_
  refine x_new (9, 3, 4) h (by decide +kernel) fun μ h => ?_
  refine x_bb ?_
  refine x_thb h (by decide +kernel) ?_
  refine x_bb ?_
  refine x_nea (10, 3, 4) h (by decide +kernel) fun μ h => ?_
  refine x_bb ?_
  refine x_pR h (by decide +kernel) (by decide +kernel) fun μ h => ?_
  refine x_rt ?_
  refine x_bb ?_
  refine x_tR (n := 6) (i := 4) h (by decide +kernel) (by decide +kernel) (by decide) (by decide) (by decide +kernel) fun μ h => ?_
  refine x_bb ?_
  refine x_gR (8, 3, 0) h (by decide +kernel) (by decide +kernel) ?_
  refine x_bb ?_
  refine x_new (9, 3, 5) h (by decide +kernel) fun μ h => ?_
  refine x_bb ?_
  refine x_thb h (by decide +kernel) ?_
  refine x_bb ?_
  refine x_nea (10, 3, 5) h (by decide +kernel) fun μ h => ?_
  refine x_bb ?_
  refine x_pR h (by decide +kernel) (by decide +kernel) fun μ h => ?_
  refine x_rt ?_
  refine x_bb ?_
  refine x_tR (n := 6) (i := 5) h (by decide +kernel) (by decide +kernel) (by decide) (by decide) (by decide +kernel) fun μ h => ?_
  refine x_bb ?_
  refine x_nea (11, 3, 0) h (by decide +kernel) fun μ h => ?_
  refine x_bb ?_
  refine x_pR h (by decide +kernel) (by decide +kernel) fun μ h => ?_
  refine x_bb ?_
  refine x_gR (11, 3, 0) h (by decide +kernel) (by decide +kernel) ?_
  refine x_bb ?_
  refine x_new (12, 3, 0) h (by decide +kernel) fun μ h => ?_
  refine x_bb ?_
  refine x_thb h (by decide +kernel) ?_
  refine x_rt ?_
  refine x_bb ?_
  refine x_tR (n := 8) (i := 0) h (by decide +kernel) (by decide +kernel) (by decide) (by decide) (by decide +kernel) fun μ h => ?_
  refine x_bb ?_
  refine x_gR (11, 3, 0) h (by decide +kernel) (by decide +kernel) ?_
  refine x_bb ?_
  refine x_new (12, 3, 1) h (by decide +kernel) fun μ h => ?_
  refine x_bb ?_
  refine x_thb h (by decide +kernel) ?_
  refine x_rt ?_
  refine x_bb ?_
  refine x_tR (n := 8) (i := 1) h (by decide +kernel) (by decide +kernel) (by decide) (by decide) (by decide +kernel) fun μ h => ?_
  refine x_bb ?_
  refine x_gR (11, 3, 0) h (by decide +kernel) (by decide +kernel) ?_
  refine x_bb ?_
  refine x_new (12, 3, 2) h (by decide +kernel) fun μ h => ?_
  refine x_bb ?_
  refine x_thb h (by decide +kernel) ?_
  refine x_rt ?_
  refine x_bb ?_
  refine x_tR (n := 8) (i := 2) h (by decide +kernel) (by decide +kernel) (by decide) (by decide) (by decide +kernel) fun μ h => ?_
  refine x_bb ?_
  refine x_gR (11, 3, 0) h (by decide +kernel) (by decide +kernel) ?_
  refine x_bb ?_
  refine x_new (12, 3, 3) h (by decide +kernel) fun μ h => ?_
  refine x_bb ?_
  refine x_thb h (by decide +kernel) ?_
  refine x_rt ?_
  refine x_bb ?_
  refine x_tR (n := 8) (i := 3) h (by decide +kernel) (by decide +kernel) (by decide) (by decide) (by decide +kernel) fun μ h => ?_
  refine x_bb ?_
  refine x_gR (11, 3, 0) h (by decide +kernel) (by decide +kernel) ?_
  refine x_bb ?_
  refine x_new (12, 3, 4) h (by decide +kernel) fun μ h => ?_
  refine x_bb ?_
  refine x_thb h (by decide +kernel) ?_
  refine x_rt ?_
  refine x_bb ?_
  refine x_tR (n := 8) (i := 4) h (by decide +kernel) (by decide +kernel) (by decide) (by decide) (by decide +kernel) fun μ h => ?_
  refine x_bb ?_
  refine x_gR (11, 3, 0) h (by decide +kernel) (by decide +kernel) ?_
  refine x_bb ?_
  refine x_new (12, 3, 5) h (by decide +kernel) fun μ h => ?_
  refine x_bb ?_
  refine x_thb h (by decide +kernel) ?_
  refine x_rt ?_
  refine x_bb ?_
  refine x_tR (n := 8) (i := 5) h (by decide +kernel) (by decide +kernel) (by decide) (by decide) (by decide +kernel) fun μ h => ?_
  refine x_bb ?_
  refine x_gR (11, 3, 0) h (by decide +kernel) (by decide +kernel) ?_
  refine x_bb ?_
  refine x_new (12, 3, 6) h (by decide +kernel) fun μ h => ?_
  refine x_bb ?_
  refine x_thb h (by decide +kernel) ?_
  refine x_rt ?_
  refine x_bb ?_
  refine x_tR (n := 8) (i := 6) h (by decide +kernel) (by decide +kernel) (by decide) (by decide) (by decide +kernel) fun μ h => ?_
  refine x_bb ?_
  refine x_gR (11, 3, 0) h (by decide +kernel) (by decide +kernel) ?_
  refine x_bb ?_
  refine x_new (12, 3, 7) h (by decide +kernel) fun μ h => ?_
  refine x_bb ?_
  refine x_thb h (by decide +kernel) ?_
  refine x_rt ?_
  refine x_bb ?_
  refine x_tR (n := 8) (i := 7) h (by decide +kernel) (by decide +kernel) (by decide) (by decide) (by decide +kernel) fun μ h => ?_
  refine x_bb ?_
  refine x_new (13, 3, 0) h (by decide +kernel) fun μ h => ?_
  refine x_bb ?_
  refine x_thb h (by decide +kernel) ?_
  refine x_bb ?_
  refine x_nea (14, 3, 0) h (by decide +kernel) fun μ h => ?_
  refine x_bb ?_
  refine x_pR h (by decide +kernel) (by decide +kernel) fun μ h => ?_
  refine x_bb ?_
  refine x_nea (14, 3, 1) h (by decide +kernel) fun μ h => ?_
  refine x_bb ?_
  refine x_pR h (by decide +kernel) (by decide +kernel) fun μ h => ?_
  refine x_bb ?_
  refine x_nea (14, 3, 2) h (by decide +kernel) fun μ h => ?_
  refine x_bb ?_
  refine x_pR h (by decide +kernel) (by decide +kernel) fun μ h => ?_
  refine x_bb ?_
  refine x_nea (14, 3, 3) h (by decide +kernel) fun μ h => ?_
  refine x_bb ?_
  refine x_pR h (by decide +kernel) (by decide +kernel) fun μ h => ?_
  refine x_bb ?_
  refine x_nea (14, 3, 4) h (by decide +kernel) fun μ h => ?_
  refine x_bb ?_
  refine x_pR h (by decide +kernel) (by decide +kernel) fun μ h => ?_
  refine x_bb ?_
  refine x_nea (15, 3, 0) h (by decide +kernel) fun μ h => ?_
  refine x_bb ?_
  refine x_pR h (by decide +kernel) (by decide +kernel) fun μ h => ?_
  refine x_bb ?_
  refine x_nea (15, 3, 1) h (by decide +kernel) fun μ h => ?_
  refine x_bb ?_
  refine x_pR h (by decide +kernel) (by decide +kernel) fun μ h => ?_
  refine x_rt ?_
  refine x_bb ?_
  refine x_pR h (by decide +kernel) (by decide +kernel) fun μ h => ?_
  refine x_rt ?_
  refine hk μ ⟨h.1, h.2.1, ⟨by decide, by decide, h.2.2 ((7, 3, 0), 7, (8, 3, 0)) (by decide +kernel), h.2.2 ((7, 3, 0), 8, (11, 3, 0)) (by decide +kernel), fun i hi => ?_, fun i hi => ?_, fun i hi => ?_⟩, h.2.2 ((7, 3, 0), 9, (13, 3, 0)) (by decide +kernel), ⟨by decide, by decide, h.2.2 ((13, 3, 0), 2, (14, 3, 0)) (by decide +kernel), h.2.2 ((13, 3, 0), 3, (14, 3, 1)) (by decide +kernel), h.2.2 ((13, 3, 0), 4, (14, 3, 2)) (by decide +kernel), h.2.2 ((13, 3, 0), 5, (14, 3, 3)) (by decide +kernel), h.2.2 ((13, 3, 0), 6, (14, 3, 4)) (by decide +kernel), h.2.2 ((13, 3, 0), 11, (15, 3, 0)) (by decide +kernel), h.2.2 ((13, 3, 0), 12, (15, 3, 1)) (by decide +kernel)⟩⟩
  · obtain rfl | rfl | rfl | rfl | rfl | rfl : i = 0 ∨ i = 1 ∨ i = 2 ∨ i = 3 ∨ i = 4 ∨ i = 5 := by omega
    · exact h.2.2 ((8, 3, 0), 0, (9, 3, 0)) (by decide +kernel)
    · exact h.2.2 ((8, 3, 0), 1, (9, 3, 1)) (by decide +kernel)
    · exact h.2.2 ((8, 3, 0), 2, (9, 3, 2)) (by decide +kernel)
    · exact h.2.2 ((8, 3, 0), 3, (9, 3, 3)) (by decide +kernel)
    · exact h.2.2 ((8, 3, 0), 4, (9, 3, 4)) (by decide +kernel)
    · exact h.2.2 ((8, 3, 0), 5, (9, 3, 5)) (by decide +kernel)
  · obtain rfl | rfl | rfl | rfl | rfl | rfl : i = 0 ∨ i = 1 ∨ i = 2 ∨ i = 3 ∨ i = 4 ∨ i = 5 := by omega
    · exact h.2.2 ((9, 3, 0), 4, (10, 3, 0)) (by decide +kernel)
    · exact h.2.2 ((9, 3, 1), 4, (10, 3, 1)) (by decide +kernel)
    · exact h.2.2 ((9, 3, 2), 4, (10, 3, 2)) (by decide +kernel)
    · exact h.2.2 ((9, 3, 3), 4, (10, 3, 3)) (by decide +kernel)
    · exact h.2.2 ((9, 3, 4), 4, (10, 3, 4)) (by decide +kernel)
    · exact h.2.2 ((9, 3, 5), 4, (10, 3, 5)) (by decide +kernel)
  · obtain rfl | rfl | rfl | rfl | rfl | rfl | rfl | rfl : i = 0 ∨ i = 1 ∨ i = 2 ∨ i = 3 ∨ i = 4 ∨ i = 5 ∨ i = 6 ∨ i = 7 := by omega
    · exact h.2.2 ((11, 3, 0), 0, (12, 3, 0)) (by decide +kernel)
    · exact h.2.2 ((11, 3, 0), 1, (12, 3, 1)) (by decide +kernel)
    · exact h.2.2 ((11, 3, 0), 2, (12, 3, 2)) (by decide +kernel)
    · exact h.2.2 ((11, 3, 0), 3, (12, 3, 3)) (by decide +kernel)
    · exact h.2.2 ((11, 3, 0), 4, (12, 3, 4)) (by decide +kernel)
    · exact h.2.2 ((11, 3, 0), 5, (12, 3, 5)) (by decide +kernel)
    · exact h.2.2 ((11, 3, 0), 6, (12, 3, 6)) (by decide +kernel)
    · exact h.2.2 ((11, 3, 0), 7, (12, 3, 7)) (by decide +kernel)
set_option maxHeartbeats 200000 in
theorem newF_4 {α : Type} {Q : α → mM → Prop} {K : mA → mP α} {μ0 μ : mM} (h : ST 4 191 [] μ0 μ) (hk : ∀ μ', NewF 4 191 μ0 μ' → m_e (K (7, 4, 0) μ') Q) : m_e (m_bd (m_new 3) (fun a => m_bd (fn_Fa_init a) (fun _ => K a)) μ) Q := by
  refine x_new (7, 4, 0) h (by decide +kernel) fun μ h => ?_
  unfold fn_Fa_init fn_Pe_init fn_Th_init fn_Pl_init
  refine x_thb h (by decide +kernel) ?_
  refine x_bb ?_
  refine x_pI h (by decide +kernel) fun μ h => ?_
  refine x_bb ?_
  refine x_pI h (by decide +kernel) fun μ h => ?_
  refine x_bb ?_
  refine x_pI h (by decide +kernel) fun μ h => ?_
  refine x_bb ?_
  refine x_pI h (by decide +kernel) fun μ h => ?_
  refine x_bb ?_
  refine x_nea (8, 4, 0) h (by decide +kernel) fun μ h => ?_
  refine x_bb ?_
  refine x_pR h (by decide +kernel) (by decide +kernel) fun μ h => ?_
  refine x_bb ?_
  refine x_gR (8, 4, 0) h (by decide +kernel) (by decide +kernel) ?_
  refine x_bb ?_
  refine x_new (9, 4, 0) h (by decide +kernel) fun μ h => ?_
  refine x_bb ?_
  refine x_thb h (by decide +kernel) ?_
  refine x_bb ?_
  refine x_nea (10, 4, 0) h (by decide +kernel) fun μ h => ?_
  refine x_bb ?_
  refine x_pR h (by decide +kernel) (by decide +kernel) fun μ h => ?_
  refine x_rt ?_
  refine x_bb ?_
  refine x_tR (n := 6) (i := 0) h (by decide +kernel) (by decide +kernel) (by decide) (by decide) (by decide +kernel) fun μ h => ?_
  refine x_bb ?_
  refine x_gR (8, 4, 0) h (by decide +kernel) (by decide +kernel) ?_
  refine x_bb ?_
  refine x_new (9, 4, 1) h (by decide +kernel) fun μ h => ?_
  refine x_bb ?_
  refine x_thb h (by decide +kernel) ?_
  refine x_bb ?_
  refine x_nea (10, 4, 1) h (by decide +kernel) fun μ h => ?_
  refine x_bb ?_
  refine x_pR h (by decide +kernel) (by decide +kernel) fun μ h => ?_
  refine x_rt ?_
  refine x_bb ?_
  refine x_tR (n := 6) (i := 1) h (by decide +kernel) (by decide +kernel) (by decide) (by decide) (by decide +kernel) fun μ h => ?_
  refine x_bb ?_
  refine x_gR (8, 4, 0) h (by decide +kernel) (by decide +kernel) ?_
  refine x_bb ?_
  refine x_new (9, 4, 2) h (by decide +kernel) fun μ h => ?_
  refine x_bb ?_
  refine x_thb h (by decide +kernel) ?_
  refine x_bb ?_
  refine x_nea (10, 4, 2) h (by decide +kernel) fun μ h => ?_
  refine x_bb ?_
  refine x_pR h (by decide +kernel) (by decide +kernel) fun μ h => ?_
  refine x_rt ?_
  refine x_bb ?_
  refine x_tR (n := 6) (i := 2) h (by decide +kernel) (by decide +kernel) (by decide) (by decide) (by decide +kernel) fun μ h => ?_
  refine x_bb ?_
  refine x_gR (8, 4, 0) h (by decide +kernel) (by decide +kernel) ?_
  refine x_bb ?_
  refine x_new (9, 4, 3) h (by decide +kernel) fun μ h => ?_
  refine x_bb ?_
  refine x_thb h (by decide +kernel) ?_
  refine x_bb ?_
  refine x_nea (10, 4, 3) h (by decide +kernel) fun μ h => ?_
  refine x_bb ?_
  refine x_pR h (by decide +kernel) (by decide +kernel) fun μ h => ?_
  refine x_rt ?_
  refine x_bb ?_
  refine x_tR (n := 6) (i := 3) h (by decide +kernel) (by decide +kernel) (by decide) (by decide) (by decide +kernel) fun μ h => ?_
  refine x_bb ?_
  refine x_gR (8, 4, 0) h (by decide +kernel) (by decide +kernel) ?_
  refine x_bb ?_
  refine x_new (9, 4, 4) h (by decide +kernel) fun μ h => ?_
  refine x_bb ?_
  refine x_thb h (by decide +kernel) ?_
  refine x_bb ?_
  refine x_nea (10, 4, 4) h (by decide +kernel) fun μ h => ?_
  refine x_bb ?_
  refine x_pR h (by decide +kernel) (by decide +kernel) fun μ h => ?_
  refine x_rt ?_
  refine x_bb ?_
  refine x_tR (n := 6) (i := 4) h (by decide +kernel) (by decide +kernel) (by decide) (by decide) (by decide +kernel) fun μ h => ?_
  refine x_bb ?_
  refine x_gR (8, 4, 0) h (by decide +kernel) (by decide +kernel) ?_
  refine x_bb ?_
  refine x_new (9, 4, 5) h (by decide +kernel) fun μ h => ?_
  refine x_bb ?_
  refine x_thb h (by decide +kernel) ?_
  refine x_bb ?_
  refine x_nea (10, 4, 5) h (by decide +kernel) fun μ h => ?_
  refine x_bb ?_
  refine x_pR h (by decide +kernel) (by decide +kernel) fun μ h => ?_
  refine x_rt ?_
  refine x_bb ?_
  refine x_tR (n := 6) (i := 5) h (by decide +kernel) (by decide +kernel) (by decide) (by decide) (by decide +kernel) fun μ h => ?_
  refine x_bb ?_
  refine x_nea (11, 4, 0) h (by decide +kernel) fun μ h => ?_
  refine x_bb ?_
  refine x_pR h (by decide +kernel) (by decide +kernel) fun μ h => ?_
  refine x_bb ?_
  refine x_gR (11, 4, 0) h (by decide +kernel) (by decide +kernel) ?_
  refine x_bb ?_
  refine x_new (12, 4, 0) h (by decide +kernel) fun μ h => ?_
  refine x_bb ?_
  refine x_thb h (by decide +kernel) ?_
  refine x_rt ?_
  refine x_bb ?_
  refine x_tR (n := 8) (i := 0) h (by decide +kernel) (by decide +kernel) (by decide) (by decide) (by decide +kernel) fun μ h => ?_
  refine x_bb ?_
  refine x_gR (11, 4, 0) h (by decide +kernel) (by decide +kernel) ?_
  refine x_bb ?_
  refine x_new (12, 4, 1) h (by decide +kernel) fun μ h => ?_
  refine x_bb ?_
  refine x_thb h (by decide +kernel) ?_
  refine x_rt ?_
  refine x_bb ?_
  refine x_tR (n := 8) (i := 1) h (by decide +kernel) (by decide +kernel) (by decide) (by decide) (by decide +kernel) fun μ h => ?_
  refine x_bb ?_
  refine x_gR (11, 4, 0) h (by decide +kernel) (by decide +kernel) ?_
  refine x_bb ?_
  refine x_new (12, 4, 2) h (by decide +kernel) fun μ h => ?_
  refine x_bb ?_
  refine x_thb h (by decide +kernel) ?_
  refine x_rt ?_
  refine x_bb ?_
  refine x_tR (n := 8) (i := 2) h (by decide +kernel) (by decide +kernel) (by decide) (by decide) (by decide +kernel) fun μ h => ?_
  refine x_bb ?_
  refine x_gR (11, 4, 0) h (by decide +kernel) (by decide +kernel) ?_
  refine x_bb ?_
  refine x_new (12, 4, 3) h (by decide +kernel) fun μ h => ?_
  refine x_bb ?_
  refine x_thb h (by decide +kernel) ?_
  refine x_rt ?_
  refine x_bb ?_
  refine x_tR (n := 8) (i := 3) h (by decide +kernel) (by decide +kernel) (by decide) (by decide) (by decide +kernel) fun μ h => ?_
  refine x_bb ?_
  refine x_gR (11, 4, 0) h (by decide +kernel) (by decide +kernel) ?_
  refine x_bb ?_
  refine x_new (12, 4, 4) h (by decide +kernel) fun μ h => ?_
  refine x_bb ?_
  refine x_thb h (by decide +kernel) ?_
  refine x_rt ?_
  refine x_bb ?_
  refine x_tR (n := 8) (i := 4) h (by decide +kernel) (by decide +kernel) (by decide) (by decide) (by decide +kernel) fun μ h => ?_
  refine x_bb ?_
  refine x_gR (11, 4, 0) h (by decide +kernel) (by decide +kernel) ?_
  refine x_bb ?_
  refine x_new (12, 4, 5) h (by decide +kernel) fun μ h => ?_
  refine x_bb ?_
  refine x_thb h (by decide +kernel) ?_
  refine x_rt ?_
  refine x_bb ?_
  refine x_tR (n := 8) (i := 5) h (by decide +kernel) (by decide +kernel) (by decide) (by decide) (by decide +kernel) fun μ h => ?_
  refine x_bb ?_
  refine x_gR (11, 4, 0) h (by decide +kernel) (by decide +kernel) ?_
  refine x_bb ?_
  refine x_new (12, 4, 6) h (by decide +kernel) fun μ h => ?_
  refine x_bb ?_
  refine x_thb h (by decide +kernel) ?_
  refine x_rt ?_
  refine x_bb ?_
  refine x_tR (n := 8) (i := 6) h (by decide +kernel) (by decide +kernel) (by decide) (by decide) (by decide +kernel) fun μ h => ?_
  refine x_bb ?_
  refine x_gR (11, 4, 0) h (by decide +kernel) (by decide +kernel) ?_
  refine x_bb ?_
  refine x_new (12, 4, 7) h (by decide +kernel) fun μ h => ?_
  refine x_bb ?_
  refine x_thb h (by decide +kernel) ?_
  refine x_rt ?_
  refine x_bb ?_
  refine x_tR (n := 8) (i := 7) h (by decide +kernel) (by decide +kernel) (by decide) (by decide) (by decide +kernel) fun μ h => ?_
  refine x_bb ?_
  refine x_new (13, 4, 0) h (by decide +kernel) fun μ h => ?_
  refine x_bb ?_
  refine x_thb h (by decide +kernel) ?_
  refine x_bb ?_
  refine x_nea (14, 4, 0) h (by decide +kernel) fun μ h => ?_
  refine x_bb ?_
  refine x_pR h (by decide +kernel) (by decide +kernel) fun μ h => ?_
  refine x_bb ?_
  refine x_nea (14, 4, 1) h (by decide +kernel) fun μ h => ?_
  refine x_bb ?_
  refine x_pR h (by decide +kernel) (by decide +kernel) fun μ h => ?_
  refine x_bb ?_
  refine x_nea (14, 4, 2) h (by decide +kernel) fun μ h => ?_
  refine x_bb ?_
  refine x_pR h (by decide +kernel) (by decide +kernel) fun μ h => ?_
  refine x_bb ?_
  refine x_nea (14, 4, 3) h (by decide +kernel) fun μ h => ?_
  refine x_bb ?_
  refine x_pR h (by decide +kernel) (by decide +kernel) fun μ h => ?_
  refine x_bb ?_
  refine x_nea (14, 4, 4) h (by decide +kernel) fun μ h => ?_
  refine x_bb ?_
  refine x_pR h (by decide +kernel) (by decide +kernel) fun μ h => ?_
  refine x_bb ?_
  refine x_nea (15, 4, 0) h (by decide +kernel) fun μ h => ?_
  refine x_bb ?_
  refine x_pR h (by decide +kernel) (by decide +kernel) fun μ h => ?_
  refine x_bb ?_
  refine x_nea (15, 4, 1) h (by decide +kernel) fun μ h => ?_
  refine x_bb ?_
  refine x_pR h (by decide +kernel) (by decide +kernel) fun μ h => ?_
  refine x_rt ?_
  refine x_bb ?_
  refine x_pR h (by decide +kernel) (by decide +kernel) fun μ h => ?_
  refine x_rt ?_
  refine hk μ ⟨h.1, h.2.1, ⟨by decide, by decide, h.2.2 ((7, 4, 0), 7, (8, 4, 0)) (by decide +kernel), h.2.2 ((7, 4, 0), 8, (11, 4, 0)) (by decide +kernel), fun i hi => ?_, fun i hi => ?_, fun i hi => ?_⟩, h.2.2 ((7, 4, 0), 9, (13, 4, 0)) (by decide +kernel), ⟨by decide, by decide, h.2.2 ((13, 4, 0), 2, (14, 4, 0)) (by decide +kernel), h.2.2 ((13, 4, 0), 3, (14, 4, 1)) (by decide +kernel), h.2.2 ((13, 4, 0), 4, (14, 4, 2)) (by decide +kernel), h.2.2 ((13, 4, 0), 5, (14, 4, 3)) (by decide +kernel), h.2.2 ((13, 4, 0), 6, (14, 4, 4)) (by decide +kernel), h.2.2 ((13, 4, 0), 11, (15, 4, 0)) (by decide +kernel), h.2.2 ((13, 4, 0), 12, (15, 4, 1)) (by decide +kernel)⟩⟩
  · obtain rfl | rfl | rfl | rfl | rfl | rfl : i = 0 ∨ i = 1 ∨ i = 2 ∨ i = 3 ∨ i = 4 ∨ i = 5 := by omega
    · exact h.2.2 ((8, 4, 0), 0, (9, 4, 0)) (by decide +kernel)
    · exact h.2.2 ((8, 4, 0), 1, (9, 4, 1)) (by decide +kernel)
    · exact h.2.2 ((8, 4, 0), 2, (9, 4, 2)) (by decide +kernel)
    · exact h.2.2 ((8, 4, 0), 3, (9, 4, 3)) (by decide +kernel)
    · exact h.2.2 ((8, 4, 0), 4, (9, 4, 4)) (by decide +kernel)
    · exact h.2.2 ((8, 4, 0), 5, (9, 4, 5)) (by decide +kernel)
  · obtain rfl | rfl | rfl | rfl | rfl | rfl : i = 0 ∨ i = 1 ∨ i = 2 ∨ i = 3 ∨ i = 4 ∨ i = 5 := by omega
    · exact h.2.2 ((9, 4, 0), 4, (10, 4, 0)) (by decide +kernel)
    · exact h.2.2 ((9, 4, 1), 4, (10, 4, 1)) (by decide +kernel)
    · exact h.2.2 ((9, 4, 2), 4, (10, 4, 2)) (by decide +kernel)
    · exact h.2.2 ((9, 4, 3), 4, (10, 4, 3)) (by decide +kernel)
    · exact h.2.2 ((9, 4, 4), 4, (10, 4, 4)) (by decide +kernel)
    · exact h.2.2 ((9, 4, 5), 4, (10, 4, 5)) (by decide +kernel)
  · obtain rfl | rfl | rfl | rfl | rfl | rfl | rfl | rfl : i = 0 ∨ i = 1 ∨ i = 2 ∨ i = 3 ∨ i = 4 ∨ i = 5 ∨ i = 6 ∨ i = 7 := by omega
    · exact h.2.2 ((11, 4, 0), 0, (12, 4, 0)) (by decide +kernel)
    · exact h.2.2 ((11, 4, 0), 1, (12, 4, 1)) (by decide +kernel)
    · exact h.2.2 ((11, 4, 0), 2, (12, 4, 2)) (by decide +kernel)
    · exact h.2.2 ((11, 4, 0), 3, (12, 4, 3)) (by decide +kernel)
    · exact h.2.2 ((11, 4, 0), 4, (12, 4, 4)) (by decide +kernel)
    · exact h.2.2 ((11, 4, 0), 5, (12, 4, 5)) (by decide +kernel)
    · exact h.2.2 ((11, 4, 0), 6, (12, 4, 6)) (by decide +kernel)
    · exact h.2.2 ((11, 4, 0), 7, (12, 4, 7)) (by decide +kernel)
