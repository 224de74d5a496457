/-! Part 48: what a run ends in; frames; the invariant -/
def m_e {α : Type} (r : Option (α × mM)) (Q : α → mM → Prop) : Prop := ∃ a μ', r = some (a, μ') ∧ Q a μ'
theorem e_some {α : Type} {a : α} {μ : mM} {Q : α → mM → Prop} : m_e (some (a, μ)) Q = Q a μ := by
  apply propext
  constructor
  · rintro ⟨_, _, h, q⟩
    cases h
    exact q
  · exact fun q => ⟨_, _, rfl, q⟩
theorem e_rt {α : Type} {a : α} {μ : mM} {Q : α → mM → Prop} : m_e (m_rt a μ) Q = Q a μ := e_some
theorem e_ite {α : Type} {c : Prop} [Decidable c] {x y : Option (α × mM)} {Q : α → mM → Prop} : m_e (if c then x else y) Q = ((c → m_e x Q) ∧ (¬ c → m_e y Q)) := by
  by_cases h : c <;> simp [h]
theorem e_mono {α : Type} {r : Option (α × mM)} {Q R : α → mM → Prop} (h : m_e r R) (k : ∀ a μ', R a μ' → Q a μ') : m_e r Q := by
  obtain ⟨a, μ', h1, h2⟩ := h
  exact ⟨a, μ', h1, k _ _ h2⟩
theorem e_bd {α β : Type} {x : mP α} {f : α → mP β} {μ : mM} {R : α → mM → Prop} {Q : β → mM → Prop} (h : m_e (x μ) R) (k : ∀ a μ', R a μ' → m_e (f a μ') Q) : m_e (m_bd x f μ) Q := by
  obtain ⟨a, μ', h1, h2⟩ := h
  rw [bd_of h1]
  exact k a μ' h2
theorem e_inv {S E : Type} {body : S → mP (S ⊕ E)} (Inv : Nat → S → mM → Prop) {Post : E → mM → Prop} (N : Nat) (hs : ∀ i s μ, i < N → Inv i s μ → m_e (body s μ) (fun r μ' => ∃ s', r = .inl s' ∧ Inv (i + 1) s' μ')) (he : ∀ s μ, Inv N s μ → m_e (body s μ) (fun r μ' => ∃ x, r = .inr x ∧ Post x μ')) {s : S} {μ : mM} (h0 : Inv 0 s μ) (hF : N < 4200) : m_e (m_lp body m_F s μ) Post := by
  obtain ⟨x, μ', h1, h2⟩ := lp_inv Inv Post N (fun i s μ hi h => by
    obtain ⟨r, μ', h1, s', rfl, h2⟩ := hs i s μ hi h
    exact ⟨s', μ', h1, h2⟩) (fun s μ h => by
    obtain ⟨r, μ', h1, s', rfl, h2⟩ := he s μ h
    exact ⟨s', μ', h1, h2⟩) (F := m_F) (by have := F_gt; omega) h0
  exact ⟨x, μ', h1, h2⟩
theorem e_brk {S E : Type} {body : S → mP (S ⊕ E)} (Inv : Nat → S → mM → Prop) {Post : E → mM → Prop} (N : Nat) (hs : ∀ i s μ, i ≤ N → Inv i s μ → m_e (body s μ) (fun r μ' => (∃ s', i < N ∧ r = .inl s' ∧ Inv (i + 1) s' μ') ∨ ∃ x, r = .inr x ∧ Post x μ')) {s : S} {μ : mM} (h0 : Inv 0 s μ) (hF : N < 4200) : m_e (m_lp body m_F s μ) Post := by
  obtain ⟨x, μ', h1, h2⟩ := lp_brk Inv Post N (fun i s μ hi h => by
    obtain ⟨r, μ', h1, ⟨s', hi', rfl, h2⟩ | ⟨x, rfl, h2⟩⟩ := hs i s μ hi h
    · exact .inl ⟨s', μ', hi', h1, h2⟩
    · exact .inr ⟨x, μ', h1, h2⟩) (F := m_F) (by have := F_gt; omega) h0
  exact ⟨x, μ', h1, h2⟩
/-- nothing but K was written -/
def sm (K : Nat → Nat → Nat → Nat → Prop) (μ μ' : mM) : Prop := μ'.1 = μ.1 ∧ m_R μ' = m_R μ ∧ ∀ x y z k, ¬ K x y z k → m_I μ' (x, y, z) k = m_I μ (x, y, z) k ∧ m_J μ' (x, y, z) k = m_J μ (x, y, z) k
section SM
variable {K K' : Nat → Nat → Nat → Nat → Prop} {μ μ' μ'' : mM} {x y z k : Nat}
theorem sm_rf : sm K μ μ := ⟨rfl, rfl, fun _ _ _ _ _ => ⟨rfl, rfl⟩⟩
theorem sm_mono (h : sm K μ μ') (hk : ∀ x y z k, K x y z k → K' x y z k) : sm K' μ μ' := ⟨h.1, h.2.1, fun x y z k hn => h.2.2 x y z k (fun q => hn (hk _ _ _ _ q))⟩
theorem sm_tr (h : sm K μ μ') (h' : sm K μ' μ'') : sm K μ μ'' := ⟨h'.1.trans h.1, h'.2.1.trans h.2.1, fun x y z k hn => ⟨(h'.2.2 x y z k hn).1.trans (h.2.2 x y z k hn).1, (h'.2.2 x y z k hn).2.trans (h.2.2 x y z k hn).2⟩⟩
theorem sm_sI (h : sm K μ μ') (v : Int32) (hk : K x y z k) : sm K μ (m_sI μ' (x, y, z) k v) := by
  refine ⟨h.1, h.2.1, fun x' y' z' k' hn => ⟨?_, (h.2.2 x' y' z' k' hn).2⟩⟩
  rw [I_sI, if_neg]
  · exact (h.2.2 x' y' z' k' hn).1
  · rintro ⟨q, rfl⟩
    cases q
    exact hn hk
theorem sm_sJ (h : sm K μ μ') (v : Int64) (hk : K x y z k) : sm K μ (m_sJ μ' (x, y, z) k v) := by
  refine ⟨h.1, h.2.1, fun x' y' z' k' hn => ⟨(h.2.2 x' y' z' k' hn).1, ?_⟩⟩
  rw [J_sJ, if_neg]
  · exact (h.2.2 x' y' z' k' hn).2
  · rintro ⟨q, rfl⟩
    cases q
    exact hn hk
theorem sm_rI (h : sm K μ μ') (g : Nat → Int32) (hk : ∀ k, ¬ K x y z k → g k = m_I μ' (x, y, z) k) : sm K μ (m_rI μ' (x, y, z) g) := by
  refine ⟨h.1, h.2.1, fun x' y' z' k' hn => ⟨?_, (h.2.2 x' y' z' k' hn).2⟩⟩
  rw [I_rI]
  split
  · next q =>
    cases q
    exact (hk k' hn).trans (h.2.2 _ _ _ k' hn).1
  · exact (h.2.2 x' y' z' k' hn).1
theorem sm_rJ (h : sm K μ μ') (g : Nat → Int64) (hk : ∀ k, ¬ K x y z k → g k = m_J μ' (x, y, z) k) : sm K μ (m_rJ μ' (x, y, z) g) := by
  refine ⟨h.1, h.2.1, fun x' y' z' k' hn => ⟨(h.2.2 x' y' z' k' hn).1, ?_⟩⟩
  rw [J_rJ]
  split
  · next q =>
    cases q
    exact (hk k' hn).trans (h.2.2 _ _ _ k' hn).2
  · exact (h.2.2 x' y' z' k' hn).2
theorem sm_rY (h : sm K μ μ') (g : Nat → Int32) (d : Int32) (hk : ∀ k, ¬ K 45 0 0 k → g k = m_I μ' (45, 0, 0) k) (hd : K 40 0 0 27) : sm K μ (rY μ' g d) := sm_sI (sm_rI h g hk) d hd
theorem sm_C (h : sm K μ μ') (q : ClsP μ) : ClsP μ' := by
  show clsR μ'.1 (m_R μ')
  rw [h.1, h.2.1]
  exact q
theorem sm_R (h : sm K μ μ') (q : RefP μ) : RefP μ' := by
  show RefQ μ'.1 (m_R μ')
  rw [h.1, h.2.1]
  exact q
theorem sm_F {f : Nat} (h : sm K μ μ') (q : FamP μ f) : FamP μ' f := by
  show famR μ'.1 (m_R μ') f
  rw [h.1, h.2.1]
  exact q
theorem sm_P {f : Nat} (h : sm K μ μ') (q : PlanP μ f) : PlanP μ' f := by
  show planR μ'.1 (m_R μ') f
  rw [h.1, h.2.1]
  exact q
theorem sm_I (h : sm K μ μ') (hk : ¬ K x y z k) : m_I μ' (x, y, z) k = m_I μ (x, y, z) k := (h.2.2 x y z k hk).1
theorem sm_J (h : sm K μ μ') (hk : ¬ K x y z k) : m_J μ' (x, y, z) k = m_J μ (x, y, z) k := (h.2.2 x y z k hk).2
theorem sm_Ir (h : sm K μ μ') (hk : ∀ k, ¬ K x y z k) : m_I μ' (x, y, z) = m_I μ (x, y, z) := funext fun k => (h.2.2 x y z k (hk k)).1
theorem sm_Jr (h : sm K μ μ') (hk : ∀ k, ¬ K x y z k) : m_J μ' (x, y, z) = m_J μ (x, y, z) := funext fun k => (h.2.2 x y z k (hk k)).2
end SM
/-- a family's cell and its place in the block -/
def vis (P T x z k n : Nat) : Prop := (x = 7 ∧ z = 0 ∧ k < 7 ∧ n = k) ∨ (x = 9 ∧ z < P ∧ 1 ≤ k ∧ k ≤ 3 ∧ n = 1 + 6 * k + z) ∨ (x = 10 ∧ z < P ∧ k < 8 ∧ n = 57 + 8 * z + k) ∨ (x = 12 ∧ z < T ∧ 1 ≤ k ∧ k ≤ 4 ∧ n = 17 + 8 * k + z)
theorem FamI_iff {μ : mM} {f P T : Nat} {c : Nat → Int32} {w : Nat → Int64} : FamI μ f c w P T ↔ (∀ x z k n, vis P T x z k n → m_I μ (x, f, z) k = c n) ∧ (∀ p, p < P → m_J μ (9, f, p) 0 = w p) ∧ ∀ t, t < T → m_J μ (12, f, t) 0 = w (6 + t) := by
  constructor
  · intro h
    refine ⟨?_, fun p hp => fi_pn h hp, fun t ht => fi_tn h ht⟩
    rintro x z k n (⟨rfl, rfl, hk, rfl⟩ | ⟨rfl, hz, h1, h3, rfl⟩ | ⟨rfl, hz, hk, rfl⟩ | ⟨rfl, hz, h1, h4, rfl⟩)
    · exact h.1 _ hk
    · obtain rfl | rfl | rfl : k = 1 ∨ k = 2 ∨ k = 3 := by omega
      · exact fi_age h hz
      · exact fi_of h hz
      · exact fi_liv h hz
    · exact fi_lov h hz hk
    · obtain rfl | rfl | rfl | rfl : k = 1 ∨ k = 2 ∨ k = 3 ∨ k = 4 := by omega
      · exact fi_thk h hz
      · exact fi_coa h hz
      · exact fi_rus h hz
      · exact fi_oil h hz
  · rintro ⟨h, hp, ht⟩
    refine ⟨fun k hk => h 7 0 k k (by unfold vis; omega), fun p q => ⟨h 9 p 1 _ (by unfold vis; omega), h 9 p 2 _ (by unfold vis; omega), h 9 p 3 _ (by unfold vis; omega), hp p q, fun t r => h 10 p t _ (by unfold vis; omega)⟩, fun t q => ⟨h 12 t 1 _ (by unfold vis; omega), h 12 t 2 _ (by unfold vis; omega), h 12 t 3 _ (by unfold vis; omega), h 12 t 4 _ (by unfold vis; omega), ht t q⟩⟩
theorem FamI_upd {μ : mM} {f P T : Nat} {c : Nat → Int32} {w : Nat → Int64} {x z k n : Nat} {v : Int32} (h : FamI μ f c w P T) (hP : P ≤ 6) (hT : T ≤ 8) (hv : vis P T x z k n) : FamI (m_sI μ (x, f, z) k v) f (ud c n v) w P T := by
  rw [FamI_iff] at h ⊢
  refine ⟨fun x' z' k' n' hv' => ?_, h.2.1, h.2.2⟩
  rw [I_sI]
  unfold ud
  by_cases hq : n' = n
  · rw [if_pos hq, if_pos]
    unfold vis at hv hv'
    obtain ⟨rfl, rfl, rfl⟩ : x' = x ∧ z' = z ∧ k' = k := by omega
    exact ⟨rfl, rfl⟩
  · rw [if_neg hq, if_neg]
    · exact h.1 _ _ _ _ hv'
    · rintro ⟨q, rfl⟩
      cases q
      unfold vis at hv hv'
      omega
theorem FamI_sm {K : Nat → Nat → Nat → Nat → Prop} {μ μ' : mM} {f P T : Nat} {c : Nat → Int32} {w : Nat → Int64} (h : FamI μ f c w P T) (hs : sm K μ μ') (hk : ∀ x z k, x = 7 ∨ x = 9 ∨ x = 10 ∨ x = 12 → ¬ K x f z k) : FamI μ' f c w P T := by
  rw [FamI_iff] at h ⊢
  refine ⟨fun x z k n hv => ?_, fun p hp => ?_, fun t ht => ?_⟩
  · rw [sm_I hs (hk x z k (by unfold vis at hv; omega)), h.1 _ _ _ _ hv]
  · rw [sm_J hs (hk 9 p 0 (by omega)), h.2.1 p hp]
  · rw [sm_J hs (hk 12 t 0 (by omega)), h.2.2 t ht]
theorem FamI_c {μ : mM} {f P T : Nat} {c c' : Nat → Int32} {w w' : Nat → Int64} (h : FamI μ f c w P T) (hP : P ≤ 6) (hT : T ≤ 8) (hc : ∀ k, k < 105 → c' k = c k) (hw : ∀ k, k < 14 → w' k = w k) : FamI μ f c' w' P T := by
  rw [FamI_iff] at h ⊢
  refine ⟨fun x z k n hv => ?_, fun p hp => ?_, fun t ht => ?_⟩
  · rw [hc n (by unfold vis at hv; omega), h.1 _ _ _ _ hv]
  · rw [hw p (by omega), h.2.1 p hp]
  · rw [hw _ (by omega), h.2.2 t ht]
/-- a STEP: the class's row of numbers, the reference's, where it ends -/
def StepI (k p t m q : Int32) (b : Nat → Int32) (s e P T : Nat) : Prop :=
  q = nI e ∧ b 8 = nI e ∧ s < e ∧
  ((k = 0 ∧ b 0 = 0 ∧ e = s + 1 ∧ ∃ v, 1 ≤ v ∧ v ≤ 20 ∧ m = nI v ∧ b 1 = nI v)
  ∨ (k = 1 ∧ b 0 = 1 ∧ e = s + 1 ∧ ∃ i, i < T ∧ t = nI i ∧ b 1 = nI i)
  ∨ (k = 2 ∧ b 0 = 2 ∧ e = s + 1 ∧ ∃ j i v, j < P ∧ i < T ∧ v ≤ 9 ∧ p = nI j ∧ b 1 = nI j ∧ t = nI i ∧ b 2 = nI i ∧ m = nI v ∧ b 3 = nI v)
  ∨ (k = 3 ∧ b 0 = 3 ∧ e = s + 1 ∧ ∃ v, v ≤ 9 ∧ m = nI v ∧ b 1 = nI v)
  ∨ (k = 4 ∧ b 0 = 4 ∧ e = s + 1 ∧ ∃ i v, i < T ∧ 1 ≤ v ∧ v ≤ 99 ∧ t = nI i ∧ b 1 = nI i ∧ m = nI v ∧ b 2 = nI v)
  ∨ (k = 5 ∧ b 0 = 5 ∧ e = s + 1 ∧ ∃ i, i < T ∧ t = nI i ∧ b 1 = nI i)
  ∨ (k = 6 ∧ b 0 = 6 ∧ e = s + 1)
  ∨ (k = 7 ∧ b 0 = 9 ∧ e = s + 1)
  ∨ (k = 8 ∧ b 0 = 8 ∧ ∃ v, 1 ≤ v ∧ v ≤ 99 ∧ m = nI v ∧ b 1 = nI v)
  ∨ (k = 9 ∧ b 0 = 7 ∧ b 6 = 0 ∧ ∃ i, i < T ∧ t = nI i ∧ b 1 = nI i)
  ∨ (k = 10 ∧ b 0 = 7 ∧ b 6 = 2 ∧ ∃ j, j < P ∧ p = nI j ∧ b 1 = nI j)
  ∨ (b 0 = 7 ∧ b 6 = 1 ∧ (k = 11 ∧ b 7 = 60 ∨ k = 12 ∧ b 7 = 62 ∨ k = 13 ∧ b 7 = 61) ∧ ∃ i v, i < T ∧ v ≤ 999 ∧ t = nI i ∧ b 1 = nI i ∧ m = nI v ∧ b 2 = nI v))
/-- STEPS within STEPS, d deep at most, from lo to hi; e: where each ends; bl: whether it has STEPS -/
def wf (e : Nat → Nat) (bl : Nat → Prop) : Nat → Nat → Nat → Nat → Prop
  | 0, _, lo, hi => lo = hi
  | n + 1, d, lo, hi => lo = hi ∨ (lo < hi ∧ lo < e lo ∧ e lo ≤ hi ∧ (bl lo → 0 < d ∧ wf e bl n (d - 1) (lo + 1) (e lo)) ∧ wf e bl n d (e lo) hi)
def PlanI (μ : mM) (g : Nat) (c : Nat → Int32) (P T : Nat) : Prop :=
  (m_I μ (13, g, 0) 0 = 0 ∧ c 105 = 0 ∧ m_I μ (13, g, 0) 1 = 0) ∨ (m_I μ (13, g, 0) 0 = 1 ∧ c 105 = 1 ∧ ∃ (S : Nat) (e : Nat → Nat), S ≤ 30 ∧ m_I μ (13, g, 0) 1 = nI S ∧ c 106 = nI S
    ∧ (∀ s, s < S → StepI (m_I μ (14, g, 0) s) (m_I μ (14, g, 1) s) (m_I μ (14, g, 2) s) (m_I μ (14, g, 3) s) (m_I μ (14, g, 4) s) (fun j => c (107 + 9 * s + j)) s (e s) P T)
    ∧ wf e (fun s => c (107 + 9 * s) = 7 ∨ c (107 + 9 * s) = 8) 31 3 0 S)
theorem StepI_mono {k p t m q : Int32} {b : Nat → Int32} {s e P T P' T' : Nat} (hP : P ≤ P') (hT : T ≤ T') (h : StepI k p t m q b s e P T) : StepI k p t m q b s e P' T' := by
  obtain ⟨h1, h2, h3, h⟩ := h
  refine ⟨h1, h2, h3, ?_⟩
  rcases h with h | ⟨a, b, c, i, hi, d⟩ | ⟨a, b, c, j, i, v, hj, hi, hv, d⟩ | h | ⟨a, b, c, i, v, hi, hv, d⟩ | ⟨a, b, c, i, hi, d⟩ | h | h | h | ⟨a, b, c, i, hi, d⟩ | ⟨a, b, c, j, hj, d⟩ | ⟨a, b, c, i, v, hi, hv, d⟩
  · exact .inl h
  · exact .inr (.inl ⟨a, b, c, i, by omega, d⟩)
  · exact .inr (.inr (.inl ⟨a, b, c, j, i, v, by omega, by omega, hv, d⟩))
  · exact .inr (.inr (.inr (.inl h)))
  · exact .inr (.inr (.inr (.inr (.inl ⟨a, b, c, i, v, by omega, hv, d⟩))))
  · exact .inr (.inr (.inr (.inr (.inr (.inl ⟨a, b, c, i, by omega, d⟩)))))
  · exact .inr (.inr (.inr (.inr (.inr (.inr (.inl h))))))
  · exact .inr (.inr (.inr (.inr (.inr (.inr (.inr (.inl h)))))))
  · exact .inr (.inr (.inr (.inr (.inr (.inr (.inr (.inr (.inl h))))))))
  · exact .inr (.inr (.inr (.inr (.inr (.inr (.inr (.inr (.inr (.inl ⟨a, b, c, i, by omega, d⟩)))))))))
  · exact .inr (.inr (.inr (.inr (.inr (.inr (.inr (.inr (.inr (.inr (.inl ⟨a, b, c, j, by omega, d⟩))))))))))
  · exact .inr (.inr (.inr (.inr (.inr (.inr (.inr (.inr (.inr (.inr (.inr ⟨a, b, c, i, v, by omega, hv, d⟩))))))))))
theorem PlanI_mono {μ : mM} {g P T P' T' : Nat} {c : Nat → Int32} (hP : P ≤ P') (hT : T ≤ T') (h : PlanI μ g c P T) : PlanI μ g c P' T' := by
  rcases h with h | ⟨a, b, S, e, hS, h1, h2, h3, h4⟩
  · exact .inl h
  · exact .inr ⟨a, b, S, e, hS, h1, h2, fun s hs => StepI_mono hP hT (h3 s hs), h4⟩
theorem wf_c {e : Nat → Nat} {bl bl' : Nat → Prop} {S : Nat} (hb : ∀ s, s < S → (bl' s ↔ bl s)) : ∀ n d lo hi, hi ≤ S → wf e bl n d lo hi → wf e bl' n d lo hi
  | 0, _, _, _, _, h => h
  | n + 1, d, lo, hi, hS, h => by
    rcases h with h | ⟨h1, h2, h3, h4, h5⟩
    · exact .inl h
    · exact .inr ⟨h1, h2, h3, fun q => ⟨(h4 ((hb lo (by omega)).mp q)).1, wf_c hb n _ _ _ (by omega) (h4 ((hb lo (by omega)).mp q)).2⟩, wf_c hb n _ _ _ hS h5⟩
theorem PlanI_c {μ : mM} {g P T : Nat} {c c' : Nat → Int32} (hc : ∀ k, 105 ≤ k → k < 377 → c' k = c k) (h : PlanI μ g c P T) : PlanI μ g c' P T := by
  rcases h with ⟨h, h', h''⟩ | ⟨a, b, S, e, hS, h1, h2, h3, h4⟩
  · exact .inl ⟨h, by rw [hc 105 (by omega) (by omega), h'], h''⟩
  · refine .inr ⟨a, by rw [hc 105 (by omega) (by omega), b], S, e, hS, h1, by rw [hc 106 (by omega) (by omega), h2], fun s hs => ?_, ?_⟩
    · have := h3 s hs
      unfold StepI at this ⊢
      simp only [hc (107 + 9 * s + 0) (by omega) (by omega), hc (107 + 9 * s + 1) (by omega) (by omega), hc (107 + 9 * s + 2) (by omega) (by omega), hc (107 + 9 * s + 3) (by omega) (by omega), hc (107 + 9 * s + 6) (by omega) (by omega), hc (107 + 9 * s + 7) (by omega) (by omega), hc (107 + 9 * s + 8) (by omega) (by omega)]
      exact this
    · refine wf_c (S := S) (fun s hs => ?_) _ _ _ _ (Nat.le_refl _) h4
      rw [hc (107 + 9 * s) (by omega) (by omega)]
theorem PlanI_sm {K : Nat → Nat → Nat → Nat → Prop} {μ μ' : mM} {g P T : Nat} {c : Nat → Int32} (h : PlanI μ g c P T) (hs : sm K μ μ') (h1 : ∀ k, k < 2 → ¬ K 13 g 0 k) (h2 : ∀ z k, ¬ K 14 g z k) : PlanI μ' g c P T := by
  unfold PlanI at h ⊢
  rw [sm_I hs (h1 0 (by omega)), sm_I hs (h1 1 (by omega)), sm_Ir hs (h2 0), sm_Ir hs (h2 1), sm_Ir hs (h2 2), sm_Ir hs (h2 3), sm_Ir hs (h2 4)]
  exact h
abbrev wR (μ : mM) : Nat → Int64 := m_J μ (48, 0, 0)
def cB (c : Nat → Int32) (i : Nat) : Nat → Int32 := fun k => c (377 * i + k)
def wB (w : Nat → Int64) (i : Nat) : Nat → Int64 := fun k => w (14 * i + k)
/-- which cells are which: fa 0 the family, fa 1 the spare one, fa (2 + i) the marks'; pa 0 the spare plan, pa (j + 1) that of fa j -/
def PtrQ (N : Nat) (R : mA → Nat → Option mA) (made : Nat) (fa pa : Nat → Nat) : Prop :=
  clsR N R ∧ RefQ N R ∧ made ≤ 3 ∧ N = 129 + 31 * made
  ∧ (∀ j, j < made + 2 → fa j < made + 2 ∧ famR N R (fa j) ∧ R (7, fa j, 0) 9 = some (13, pa (j + 1), 0) ∧ planR N R (pa (j + 1)))
  ∧ (∀ i j, i < made + 2 → j < made + 2 → fa i = fa j → i = j)
  ∧ (∀ i j, i < made + 3 → j < made + 3 → pa i = pa j → i = j)
  ∧ R (1, 0, 0) 5 = some (7, fa 0, 0) ∧ R (1, 0, 0) 6 = some (7, fa 1, 0) ∧ R (1, 0, 0) 7 = some (13, pa 0, 0) ∧ planR N R (pa 0)
  ∧ (∀ i, i < made → R (16, 0, 0) i = some (7, fa (2 + i), 0)) ∧ ∀ i, made ≤ i → i < 3 → R (16, 0, 0) i = none
def Sta (μ : mM) : Prop := m_I μ (1, 0, 0) 0 = m_I μ (40, 0, 0) 0
def Fra (μ : mM) : Prop := m_J μ (1, 0, 0) 1 = m_J μ (40, 0, 0) 2 ∧ m_J μ (1, 0, 0) 2 = m_J μ (40, 0, 0) 3
def Tra (μ : mM) : Prop := ∀ i, i < 4 → (m_I μ (3, 0, i) 0 = -1 ∧ m_I μ (42, 0, 0) i = -1) ∨ ∃ s n, s ≤ 3 ∧ n ≤ 60 ∧ m_I μ (3, 0, i) 0 = nI s ∧ m_I μ (41, 0, 0) i = nI s ∧ m_I μ (3, 0, i) 1 = nI n ∧ m_I μ (42, 0, 0) i = nI n ∧ ∀ k, k < n → m_J μ (4, 0, i) k = m_J μ (43, 0, 0) (60 * i + k)
def Tap (μ : mM) : Prop := ∃ n, n ≤ 900 ∧ m_I μ (5, 0, 0) 1 = nI n ∧ m_I μ (40, 0, 0) 8 = nI n ∧ ∀ k, k < n → m_I μ (6, 0, 0) k = m_I μ (44, 0, 0) k ∧ ∃ b : Int8, m_I μ (44, 0, 0) k = b.toInt32
def Fau (μ : mM) : Prop := m_I μ (5, 0, 0) 10 = m_I μ (40, 0, 0) 10 ∧ m_I μ (5, 0, 0) 11 = m_I μ (40, 0, 0) 11
def Liv (μ : mM) : Prop := m_I μ (1, 0, 0) 15 = m_I μ (40, 0, 0) 43 ∧ ((m_I μ (40, 0, 0) 43 = 0) ∨ (m_I μ (40, 0, 0) 43 = 1 ∧ ∀ k, k < 5 → m_I μ (32, 0, 0) k = m_I μ (58, 0, 0) k))
def Mrk (μ : mM) (n : Nat) (fa pa : Nat → Nat) : Prop := m_I μ (1, 0, 0) 9 = nI n ∧ m_I μ (40, 0, 0) 24 = nI n ∧ ∀ i, i < n → ∃ P T, FamI μ (fa (2 + i)) (cB (cR μ) (i + 1)) (wB (wR μ) (i + 1)) P T ∧ Dim (cB (cR μ) (i + 1)) P T ∧ Okc (cB (cR μ) (i + 1)) P T ∧ PlanI μ (pa (3 + i)) (cB (cR μ) (i + 1)) P T
def FamV (μ : mM) (f : Nat) (P T : Nat) : Prop := FamI μ f (cR μ) (wR μ) P T ∧ Dim (cR μ) P T ∧ Okc (cR μ) P T
/-- what holds ahead of each call -/
def Inv (μ : mM) (made n : Nat) (fa pa : Nat → Nat) (P T : Nat) : Prop :=
  (PtrQ μ.1 (m_R μ) made fa pa ∧ n ≤ made) ∧ Sta μ ∧ Fra μ ∧ Tra μ ∧ Tap μ ∧ Fau μ ∧ Liv μ ∧ FamV μ (fa 0) P T ∧ PlanI μ (pa 1) (cR μ) P T ∧ Mrk μ n fa pa
/-- cells that nobody asks for at the begin of a call -/
def Scr (fa pa : Nat → Nat) (x y k : Nat) : Prop :=
  (x = 5 ∧ k ≠ 1 ∧ k ≠ 10 ∧ k ≠ 11) ∨ (x = 12 ∧ 5 ≤ y) ∨ x = 15 ∨ (17 ≤ x ∧ x ≤ 31) ∨ (x = 13 ∧ 2 ≤ k)
  ∨ (x = 40 ∧ k ≠ 0 ∧ k ≠ 2 ∧ k ≠ 3 ∧ k ≠ 8 ∧ k ≠ 10 ∧ k ≠ 11 ∧ k ≠ 24 ∧ k ≠ 43) ∨ (x = 45 ∧ 1508 ≤ k) ∨ x = 46 ∨ x = 47 ∨ (x = 48 ∧ 56 ≤ k) ∨ (49 ≤ x ∧ x ≤ 57)
  ∨ ((x = 7 ∨ x = 9 ∨ x = 10 ∨ x = 12) ∧ y = fa 1) ∨ ((x = 13 ∨ x = 14) ∧ (y = pa 0 ∨ y = pa 2))
section INV
variable {K : Nat → Nat → Nat → Nat → Prop} {μ μ' : mM} {made n P T : Nat} {fa pa : Nat → Nat}
theorem Fra_sm (h : Fra μ) (hs : sm K μ μ') (h1 : ¬ K 1 0 0 1) (h2 : ¬ K 1 0 0 2) (h3 : ¬ K 40 0 0 2) (h4 : ¬ K 40 0 0 3) : Fra μ' := by
  unfold Fra at h ⊢
  rw [sm_J hs h1, sm_J hs h2, sm_J hs h3, sm_J hs h4]
  exact h
theorem Tra_sm (h : Tra μ) (hs : sm K μ μ') (h1 : ∀ z k, k < 2 → ¬ K 3 0 z k) (h2 : ∀ z k, ¬ K 4 0 z k) (h3 : ∀ x k, 41 ≤ x → x ≤ 43 → ¬ K x 0 0 k) : Tra μ' := by
  intro i hi
  have := h i hi
  rw [sm_I hs (h1 i 0 (by omega)), sm_I hs (h1 i 1 (by omega)), sm_Ir hs (fun k => h3 41 k (by omega) (by omega)), sm_Ir hs (fun k => h3 42 k (by omega) (by omega)), sm_Jr hs (fun k => h3 43 k (by omega) (by omega)), sm_Jr hs (h2 i)]
  exact this
theorem Tap_sm (h : Tap μ) (hs : sm K μ μ') (h1 : ¬ K 5 0 0 1) (h2 : ∀ k, ¬ K 6 0 0 k) (h3 : ∀ k, ¬ K 44 0 0 k) (h4 : ¬ K 40 0 0 8) : Tap μ' := by
  unfold Tap at h ⊢
  rw [sm_I hs h1, sm_I hs h4, sm_Ir hs h2, sm_Ir hs h3]
  exact h
theorem Fau_sm (h : Fau μ) (hs : sm K μ μ') (h1 : ¬ K 5 0 0 10) (h2 : ¬ K 5 0 0 11) (h3 : ¬ K 40 0 0 10) (h4 : ¬ K 40 0 0 11) : Fau μ' := by
  unfold Fau at h ⊢
  rw [sm_I hs h1, sm_I hs h2, sm_I hs h3, sm_I hs h4]
  exact h
theorem Liv_sm (h : Liv μ) (hs : sm K μ μ') (h1 : ¬ K 1 0 0 15) (h2 : ∀ k, ¬ K 32 0 0 k) (h3 : ¬ K 40 0 0 43) (h4 : ∀ k, ¬ K 58 0 0 k) : Liv μ' := by
  unfold Liv at h ⊢
  rw [sm_I hs h1, sm_Ir hs h2, sm_I hs h3, sm_Ir hs h4]
  exact h
theorem Dim_c {c c' : Nat → Int32} (hc : ∀ k, k < 105 → c' k = c k) (h : Dim c P T) : Dim c' P T := ⟨by rw [hc 0 (by omega), h.1], by rw [hc 1 (by omega), h.2.1], h.2.2⟩
theorem Okc_c {c c' : Nat → Int32} (hP : P ≤ 6) (hT : T ≤ 8) (hc : ∀ k, k < 105 → c' k = c k) (h : Okc c P T) : Okc c' P T := by
  obtain ⟨⟨a1, a2, a3, a4, a5⟩, h2, h3⟩ := h
  refine ⟨⟨by rw [hc _ (by omega)]; exact a1, by rw [hc _ (by omega)]; exact a2, by rw [hc _ (by omega)]; exact a3, by rw [hc _ (by omega)]; exact a4, by rw [hc _ (by omega)]; exact a5⟩, fun p hp => ⟨?_, fun t ht => ?_⟩, fun t ht => ?_⟩
  · rw [hc (7 + p) (by omega), hc (13 + p) (by omega), hc (19 + p) (by omega)]
    exact (h2 p hp).1
  · rw [hc (57 + 8 * p + t) (by omega)]
    exact (h2 p hp).2 t ht
  · rw [hc (25 + t) (by omega), hc (33 + t) (by omega), hc (41 + t) (by omega), hc (49 + t) (by omega)]
    exact h3 t ht
theorem FamV_sm (h : FamV μ (fa 0) P T) (hs : sm K μ μ') (hk : ∀ x z k, x = 7 ∨ x = 9 ∨ x = 10 ∨ x = 12 → ¬ K x (fa 0) z k) (h1 : ∀ k, k < 105 → ¬ K 45 0 0 k) (h2 : ∀ k, k < 14 → ¬ K 48 0 0 k) : FamV μ' (fa 0) P T := by
  obtain ⟨hF, hD, hO⟩ := h
  have hP := hD.2.2.1
  have hT := hD.2.2.2
  have hc : ∀ k, k < 105 → cR μ' k = cR μ k := fun k q => sm_I hs (h1 k q)
  exact ⟨FamI_c (FamI_sm hF hs hk) hP hT hc (fun k q => sm_J hs (h2 k q)), Dim_c hc hD, Okc_c hP hT hc hO⟩
theorem Mrk_sm (h : Mrk μ n fa pa) (hs : sm K μ μ') (h1 : ¬ K 1 0 0 9) (h2 : ¬ K 40 0 0 24) (hn : n ≤ 3) (h3 : ∀ k, 377 ≤ k → k < 1508 → ¬ K 45 0 0 k) (h4 : ∀ k, 14 ≤ k → k < 56 → ¬ K 48 0 0 k) (h5 : ∀ i, i < n → ∀ x z k, x = 7 ∨ x = 9 ∨ x = 10 ∨ x = 12 → ¬ K x (fa (2 + i)) z k) (h6 : ∀ i, i < n → ∀ k, k < 2 → ¬ K 13 (pa (3 + i)) 0 k) (h7 : ∀ i, i < n → ∀ z k, ¬ K 14 (pa (3 + i)) z k) : Mrk μ' n fa pa := by
  refine ⟨by rw [sm_I hs h1, h.1], by rw [sm_I hs h2, h.2.1], fun i hi => ?_⟩
  obtain ⟨P, T, hF, hD, hO, hL⟩ := h.2.2 i hi
  have hc : ∀ k, k < 377 → cB (cR μ') (i + 1) k = cB (cR μ) (i + 1) k := fun k q => sm_I hs (h3 _ (by omega) (by omega))
  have hc' : ∀ k, k < 105 → cB (cR μ') (i + 1) k = cB (cR μ) (i + 1) k := fun k q => hc k (by omega)
  have hP := hD.2.2.1
  have hT := hD.2.2.2
  exact ⟨P, T, FamI_c (FamI_sm hF hs (h5 i hi)) hP hT hc' (fun k q => sm_J hs (h4 _ (by omega) (by omega))), Dim_c hc' hD, Okc_c hP hT hc' hO, PlanI_c (fun k _ q => hc k q) (PlanI_sm hL hs (h6 i hi) (h7 i hi))⟩
theorem ptr_sm {N : Nat} (h : PtrQ μ.1 (m_R μ) made fa pa ∧ n ≤ N) (hs : sm K μ μ') : PtrQ μ'.1 (m_R μ') made fa pa ∧ n ≤ N := by
  rw [hs.1, hs.2.1]
  exact h
/-- of which cells' being untouched each piece of the invariant lives -/
theorem Inv_upd (h : Inv μ made n fa pa P T) {P' T' : Nat} (hs : sm K μ μ') (hS : Sta μ') (hF : Fra μ ∧ sm K μ μ' → Fra μ') (hT : Tra μ → Tra μ') (hA : Tap μ → Tap μ') (hU : Fau μ → Fau μ') (hL : Liv μ → Liv μ') (hV : FamV μ (fa 0) P T → FamV μ' (fa 0) P' T') (hP : PlanI μ (pa 1) (cR μ) P T → PlanI μ' (pa 1) (cR μ') P' T') (hM : Mrk μ n fa pa → Mrk μ' n fa pa) : Inv μ' made n fa pa P' T' := by
  obtain ⟨a, b, c, d, e, f, g, i, j, k⟩ := h
  exact ⟨ptr_sm a hs, hS, hF ⟨c, hs⟩, hT d, hA e, hU f, hL g, hV i, hP j, hM k⟩
end INV
section INVQ
variable {μ μ' : mM} {made n P T : Nat} {fa pa : Nat → Nat}
theorem ptr_facts {N : Nat} {R : mA → Nat → Option mA} (h : PtrQ N R made fa pa) : fa 0 < 5 ∧ fa 1 < 5 ∧ fa 0 ≠ fa 1 ∧ pa 1 ≠ pa 0 ∧ pa 1 ≠ pa 2 ∧ ∀ i, i < made → fa (2 + i) < 5 ∧ fa (2 + i) ≠ fa 0 ∧ fa (2 + i) ≠ fa 1 ∧ pa (3 + i) ≠ pa 0 ∧ pa (3 + i) ≠ pa 1 ∧ pa (3 + i) ≠ pa 2 := by
  obtain ⟨-, -, hm, -, hf, hi, hp, -⟩ := h
  refine ⟨by have := (hf 0 (by omega)).1; omega, by have := (hf 1 (by omega)).1; omega, fun q => ?_, fun q => ?_, fun q => ?_, fun i h => ⟨by have := (hf (2 + i) (by omega)).1; omega, fun q => ?_, fun q => ?_, fun q => ?_, fun q => ?_, fun q => ?_⟩⟩
  · have := hi _ _ (by omega) (by omega) q; omega
  · have := hp _ _ (by omega) (by omega) q; omega
  · have := hp _ _ (by omega) (by omega) q; omega
  · have := hi _ _ (by omega) (by omega) q; omega
  · have := hi _ _ (by omega) (by omega) q; omega
  · have := hp _ _ (by omega) (by omega) q; omega
  · have := hp _ _ (by omega) (by omega) q; omega
  · have := hp _ _ (by omega) (by omega) q; omega
/-- a call that asks only -/
theorem Inv_q (h : Inv μ made n fa pa P T) (hs : sm (fun x y _ k => Scr fa pa x y k ∨ (x = 1 ∧ k = 0) ∨ (x = 40 ∧ k = 0)) μ μ') (e : Sta μ') : Inv μ' made n fa pa P T := by
  obtain ⟨f1, f2, f3, f4, f5, f6⟩ := ptr_facts h.1.1
  have hn := h.1.2
  have hm := h.1.1.2.2.1
  refine Inv_upd h hs e ?_ ?_ ?_ ?_ ?_ ?_ ?_ ?_
  · exact fun q => Fra_sm q.1 hs (by unfold Scr; omega) (by unfold Scr; omega) (by unfold Scr; omega) (by unfold Scr; omega)
  · exact fun q => Tra_sm q hs (by unfold Scr; omega) (by unfold Scr; omega) (by unfold Scr; omega)
  · exact fun q => Tap_sm q hs (by unfold Scr; omega) (by unfold Scr; omega) (by unfold Scr; omega) (by unfold Scr; omega)
  · exact fun q => Fau_sm q hs (by unfold Scr; omega) (by unfold Scr; omega) (by unfold Scr; omega) (by unfold Scr; omega)
  · exact fun q => Liv_sm q hs (by unfold Scr; omega) (by unfold Scr; omega) (by unfold Scr; omega) (by unfold Scr; omega)
  · exact fun q => FamV_sm q hs (by unfold Scr; omega) (by unfold Scr; omega) (by unfold Scr; omega)
  · exact fun q => PlanI_c (fun k h1 h2 => sm_I hs (by unfold Scr; omega)) (PlanI_sm q hs (by unfold Scr; omega) (by unfold Scr; omega))
  · refine fun q => Mrk_sm q hs (by unfold Scr; omega) (by unfold Scr; omega) (by omega) (by unfold Scr; omega) (by unfold Scr; omega) ?_ ?_ ?_
    · intro i hi
      have := f6 i (by omega)
      unfold Scr
      omega
    · intro i hi
      have := f6 i (by omega)
      unfold Scr
      omega
    · intro i hi
      have := f6 i (by omega)
      unfold Scr
      omega
/-- a call that tells a fraction -/
theorem Inv_f (h : Inv μ made n fa pa P T) (hs : sm (fun x y _ k => Scr fa pa x y k ∨ (x = 1 ∧ k ≤ 2) ∨ (x = 40 ∧ (k = 0 ∨ k = 2 ∨ k = 3))) μ μ') (e : Sta μ') (e' : Fra μ') : Inv μ' made n fa pa P T := by
  obtain ⟨f1, f2, f3, f4, f5, f6⟩ := ptr_facts h.1.1
  have hn := h.1.2
  have hm := h.1.1.2.2.1
  refine Inv_upd h hs e ?_ ?_ ?_ ?_ ?_ ?_ ?_ ?_
  · exact fun q => e'
  · exact fun q => Tra_sm q hs (by unfold Scr; omega) (by unfold Scr; omega) (by unfold Scr; omega)
  · exact fun q => Tap_sm q hs (by unfold Scr; omega) (by unfold Scr; omega) (by unfold Scr; omega) (by unfold Scr; omega)
  · exact fun q => Fau_sm q hs (by unfold Scr; omega) (by unfold Scr; omega) (by unfold Scr; omega) (by unfold Scr; omega)
  · exact fun q => Liv_sm q hs (by unfold Scr; omega) (by unfold Scr; omega) (by unfold Scr; omega) (by unfold Scr; omega)
  · exact fun q => FamV_sm q hs (by unfold Scr; omega) (by unfold Scr; omega) (by unfold Scr; omega)
  · exact fun q => PlanI_c (fun k h1 h2 => sm_I hs (by unfold Scr; omega)) (PlanI_sm q hs (by unfold Scr; omega) (by unfold Scr; omega))
  · refine fun q => Mrk_sm q hs (by unfold Scr; omega) (by unfold Scr; omega) (by omega) (by unfold Scr; omega) (by unfold Scr; omega) ?_ ?_ ?_
    · intro i hi
      have := f6 i (by omega)
      unfold Scr
      omega
    · intro i hi
      have := f6 i (by omega)
      unfold Scr
      omega
    · intro i hi
      have := f6 i (by omega)
      unfold Scr
      omega
/-- a call that changes the family -/
theorem Inv_m (h : Inv μ made n fa pa P T) {P' T' : Nat} (hP : P ≤ P') (hT : T ≤ T') (hs : sm (fun x y _ k => Scr fa pa x y k ∨ (x = 1 ∧ k = 0) ∨ (x = 40 ∧ k = 0) ∨ ((x = 7 ∨ x = 9 ∨ x = 10 ∨ x = 12) ∧ y = fa 0) ∨ (x = 45 ∧ k < 105) ∨ (x = 48 ∧ k < 14)) μ μ') (e : Sta μ') (e' : FamV μ' (fa 0) P' T') : Inv μ' made n fa pa P' T' := by
  obtain ⟨f1, f2, f3, f4, f5, f6⟩ := ptr_facts h.1.1
  have hn := h.1.2
  have hm := h.1.1.2.2.1
  refine Inv_upd h hs e ?_ ?_ ?_ ?_ ?_ ?_ ?_ ?_
  · exact fun q => Fra_sm q.1 hs (by unfold Scr; omega) (by unfold Scr; omega) (by unfold Scr; omega) (by unfold Scr; omega)
  · exact fun q => Tra_sm q hs (by unfold Scr; omega) (by unfold Scr; omega) (by unfold Scr; omega)
  · exact fun q => Tap_sm q hs (by unfold Scr; omega) (by unfold Scr; omega) (by unfold Scr; omega) (by unfold Scr; omega)
  · exact fun q => Fau_sm q hs (by unfold Scr; omega) (by unfold Scr; omega) (by unfold Scr; omega) (by unfold Scr; omega)
  · exact fun q => Liv_sm q hs (by unfold Scr; omega) (by unfold Scr; omega) (by unfold Scr; omega) (by unfold Scr; omega)
  · exact fun _ => e'
  · exact fun q => PlanI_mono hP hT (PlanI_c (fun k h1 h2 => sm_I hs (by unfold Scr; omega)) (PlanI_sm q hs (by unfold Scr; omega) (by unfold Scr; omega)))
  · refine fun q => Mrk_sm q hs (by unfold Scr; omega) (by unfold Scr; omega) (by omega) (by unfold Scr; omega) (by unfold Scr; omega) ?_ ?_ ?_
    · intro i hi
      have := f6 i (by omega)
      unfold Scr
      omega
    · intro i hi
      have := f6 i (by omega)
      unfold Scr
      omega
    · intro i hi
      have := f6 i (by omega)
      unfold Scr
      omega
end INVQ
