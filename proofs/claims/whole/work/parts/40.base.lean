/-! Part 40, laid by wip/whole/base.py: how programs are computed -/
theorem bd_rt {α β : Type} (a : α) (f : α → mP β) (μ : mM) : m_bd (m_rt a) f μ = f a μ := rfl
theorem ap_ite {α : Type} (c : Prop) [Decidable c] (x y : mP α) (μ : mM) : (if c then x else y) μ = if c then x μ else y μ := by split <;> rfl
theorem bd_ite {α β : Type} (c : Prop) [Decidable c] (x y : mP α) (f : α → mP β) (μ : mM) : m_bd (if c then x else y) f μ = if c then m_bd x f μ else m_bd y f μ := by split <;> rfl
theorem ap_rt {α : Type} (a : α) (μ : mM) : m_rt a μ = some (a, μ) := rfl
theorem bd_bd {α β γ : Type} (x : mP α) (f : α → mP β) (g : β → mP γ) (μ : mM) : m_bd (m_bd x f) g μ = m_bd x (fun a => m_bd (f a) g) μ := by
  unfold m_bd
  cases x μ <;> rfl
theorem bd_of {α β : Type} {x : mP α} {f : α → mP β} {μ μ1 : mM} {a : α} (h : x μ = some (a, μ1)) : m_bd x f μ = f a μ1 := by
  unfold m_bd
  rw [h]
theorem bd_cz {α : Type} {v : Int32} (h : v = 0 ∨ v = 1) (f : Unit → mP α) (μ : mM) : m_bd (m_cz v) f μ = f () μ := by
  simp [m_bd, m_cz, h]
theorem bd_nz {α : Type} {v : Int32} (h : ¬ v = 0) (f : Unit → mP α) (μ : mM) : m_bd (m_nz v) f μ = f () μ := by
  simp [m_bd, m_nz, h]
theorem bd_nzJ {α : Type} {v : Int64} (h : ¬ v = 0) (f : Unit → mP α) (μ : mM) : m_bd (m_nzJ v) f μ = f () μ := by
  simp [m_bd, m_nzJ, h]
def oO (μ : mM) (ci : Nat) (a : mA) : Prop := m_shp a.1 = some (.inl ci) ∧ m_ok μ a = true
def oA (μ : mM) (t n : Nat) (a : mA) : Prop := m_shp a.1 = some (.inr (t, n)) ∧ m_ok μ a = true
theorem oo_of {μ : mM} {ci : Nat} {a : mA} (h : oO μ ci a) : m_oo μ ci (some a) = some a := by
  simp [m_oo, h.1, h.2]
theorem oa_of {μ : mM} {t n i : Nat} {a : mA} (h : oA μ t n a) (hi : i < n) (hn : n < 2147483648) : m_oa μ t (some a) (nI i) = some a := by
  have h1 : ¬ (nI i < 0 ∨ n ≤ (nI i).toNatClampNeg) := vp_in_nI hi (by omega)
  unfold m_oa
  simp only [h.1]
  rw [if_pos ⟨trivial, h1, h.2⟩]
theorem bd_th {α : Type} {μ : mM} {ci : Nat} {a : mA} (h : oO μ ci a) (T : mP α) : m_th ci (some a) T μ = T μ := by
  simp [m_th, oo_of h]
section BD
variable {α : Type} {μ : mM} {ci k t n i : Nat} {a : mA}
theorem bd_gI (h : oO μ ci a) (f : Int32 → mP α) : m_bd (m_gI ci k (some a)) f μ = f (m_I μ a k) μ := by simp [m_bd, m_gI, oo_of h]
theorem bd_gJ (h : oO μ ci a) (f : Int64 → mP α) : m_bd (m_gJ ci k (some a)) f μ = f (m_J μ a k) μ := by simp [m_bd, m_gJ, oo_of h]
theorem bd_gR (h : oO μ ci a) (f : Option mA → mP α) : m_bd (m_gR ci k (some a)) f μ = f (m_R μ a k) μ := by simp [m_bd, m_gR, oo_of h]
theorem bd_pI (h : oO μ ci a) (v : Int32) (f : Unit → mP α) : m_bd (m_pI ci k (some a) v) f μ = f () (m_sI μ a k v) := by simp [m_bd, m_pI, oo_of h]
theorem bd_pZ (h : oO μ ci a) {v : Int32} (hv : v = 0 ∨ v = 1) (f : Unit → mP α) : m_bd (m_pZ ci k (some a) v) f μ = f () (m_sI μ a k v) := by simp [m_bd, m_pZ, oo_of h, hv]
theorem bd_pJ (h : oO μ ci a) (v : Int64) (f : Unit → mP α) : m_bd (m_pJ ci k (some a) v) f μ = f () (m_sJ μ a k v) := by simp [m_bd, m_pJ, oo_of h]
theorem bd_pR (h : oO μ ci a) (v : Option mA) (f : Unit → mP α) : m_bd (m_pR ci k (some a) v) f μ = f () (m_sR μ a k v) := by simp [m_bd, m_pR, oo_of h]
theorem bd_aI (h : oA μ t n a) (hi : i < n) (hn : n < 2147483648) (f : Int32 → mP α) : m_bd (m_aI t (some a) (nI i)) f μ = f (m_I μ a i) μ := by
  simp [m_bd, m_aI, oa_of h hi hn, nI_clamp (show i < 2 ^ 31 by omega)]
theorem bd_aJ (h : oA μ 1 n a) (hi : i < n) (hn : n < 2147483648) (f : Int64 → mP α) : m_bd (m_aJ (some a) (nI i)) f μ = f (m_J μ a i) μ := by
  simp [m_bd, m_aJ, oa_of h hi hn, nI_clamp (show i < 2 ^ 31 by omega)]
theorem bd_aR (h : oA μ t n a) (hi : i < n) (hn : n < 2147483648) (f : Option mA → mP α) : m_bd (m_aR t (some a) (nI i)) f μ = f (m_R μ a i) μ := by
  simp [m_bd, m_aR, oa_of h hi hn, nI_clamp (show i < 2 ^ 31 by omega)]
theorem bd_tI (h : oA μ t n a) (hi : i < n) (hn : n < 2147483648) (v : Int32) (f : Unit → mP α) : m_bd (m_tI t (some a) (nI i) v) f μ = f () (m_sI μ a i (m_nar t v)) := by
  simp [m_bd, m_tI, oa_of h hi hn, nI_clamp (show i < 2 ^ 31 by omega)]
theorem bd_tJ (h : oA μ 1 n a) (hi : i < n) (hn : n < 2147483648) (v : Int64) (f : Unit → mP α) : m_bd (m_tJ (some a) (nI i) v) f μ = f () (m_sJ μ a i v) := by
  simp [m_bd, m_tJ, oa_of h hi hn, nI_clamp (show i < 2 ^ 31 by omega)]
theorem bd_tR {b : mA} (h : oA μ t n a) (hi : i < n) (hn : n < 2147483648) (hb : oO μ ci b) (f : Unit → mP α) : m_bd (m_tR t ci (some a) (nI i) (some b)) f μ = f () (m_sR μ a i (some b)) := by
  simp [m_bd, m_tR, oa_of h hi hn, oo_of hb, nI_clamp (show i < 2 ^ 31 by omega)]
end BD
-- what is read behind what was written
theorem I_sI (μ : mM) (a : mA) (k : Nat) (v : Int32) (b : mA) (j : Nat) : m_I (m_sI μ a k v) b j = if b = a ∧ j = k then v else m_I μ b j := rfl
theorem J_sI (μ : mM) (a : mA) (k : Nat) (v : Int32) : m_J (m_sI μ a k v) = m_J μ := rfl
theorem R_sI (μ : mM) (a : mA) (k : Nat) (v : Int32) : m_R (m_sI μ a k v) = m_R μ := rfl
theorem J_sJ (μ : mM) (a : mA) (k : Nat) (v : Int64) (b : mA) (j : Nat) : m_J (m_sJ μ a k v) b j = if b = a ∧ j = k then v else m_J μ b j := rfl
theorem I_sJ (μ : mM) (a : mA) (k : Nat) (v : Int64) : m_I (m_sJ μ a k v) = m_I μ := rfl
theorem R_sJ (μ : mM) (a : mA) (k : Nat) (v : Int64) : m_R (m_sJ μ a k v) = m_R μ := rfl
theorem R_sR (μ : mM) (a : mA) (k : Nat) (v : Option mA) (b : mA) (j : Nat) : m_R (m_sR μ a k v) b j = if b = a ∧ j = k then v else m_R μ b j := rfl
theorem I_sR (μ : mM) (a : mA) (k : Nat) (v : Option mA) : m_I (m_sR μ a k v) = m_I μ := rfl
theorem J_sR (μ : mM) (a : mA) (k : Nat) (v : Option mA) : m_J (m_sR μ a k v) = m_J μ := rfl
theorem I_rI (μ : mM) (a : mA) (g : Nat → Int32) (b : mA) : m_I (m_rI μ a g) b = if b = a then g else m_I μ b := rfl
theorem J_rI (μ : mM) (a : mA) (g : Nat → Int32) : m_J (m_rI μ a g) = m_J μ := rfl
theorem R_rI (μ : mM) (a : mA) (g : Nat → Int32) : m_R (m_rI μ a g) = m_R μ := rfl
theorem J_rJ (μ : mM) (a : mA) (g : Nat → Int64) (b : mA) : m_J (m_rJ μ a g) b = if b = a then g else m_J μ b := rfl
theorem I_rJ (μ : mM) (a : mA) (g : Nat → Int64) : m_I (m_rJ μ a g) = m_I μ := rfl
theorem R_rJ (μ : mM) (a : mA) (g : Nat → Int64) : m_R (m_rJ μ a g) = m_R μ := rfl
-- loops
theorem lp_s {S E : Type} (body : S → mP (S ⊕ E)) (n : Nat) (s : S) (μ : mM) : m_lp body (n + 1) s μ = m_bd (body s) (fun r => match r with | .inl s' => m_lp body n s' | .inr x => m_rt x) μ := rfl
/-- a loop with a count: its states and memories told ahead -/
theorem lp_nat {S E : Type} {body : S → mP (S ⊕ E)} (st : Nat → S) (me : Nat → mM) (N : Nat) {x : E} {μe : mM} (hs : ∀ i, i < N → body (st i) (me i) = some (.inl (st (i + 1)), me (i + 1))) (he : body (st N) (me N) = some (.inr x, μe)) {F : Nat} (hF : N < F) : m_lp body F (st 0) (me 0) = some (x, μe) := by
  have key : ∀ k i F, i + k = N → k < F → m_lp body F (st i) (me i) = some (x, μe) := by
    intro k
    induction k with
    | zero =>
      intro i F hi hF
      obtain ⟨F', rfl⟩ : ∃ F', F = F' + 1 := ⟨F - 1, by omega⟩
      have : i = N := by omega
      subst this
      rw [lp_s, bd_of he]
      rfl
    | succ k ih =>
      intro i F hi hF
      obtain ⟨F', rfl⟩ : ∃ F', F = F' + 1 := ⟨F - 1, by omega⟩
      rw [lp_s, bd_of (hs i (by omega))]
      exact ih (i + 1) F' (by omega) (by omega)
  exact key N 0 F (by omega) hF
/-- a loop with a count, and an invariant -/
theorem lp_inv {S E : Type} {body : S → mP (S ⊕ E)} (Inv : Nat → S → mM → Prop) (Post : E → mM → Prop) (N : Nat) (hs : ∀ i s μ, i < N → Inv i s μ → ∃ s' μ', body s μ = some (.inl s', μ') ∧ Inv (i + 1) s' μ') (he : ∀ s μ, Inv N s μ → ∃ x μ', body s μ = some (.inr x, μ') ∧ Post x μ') {F : Nat} (hF : N < F) {s : S} {μ : mM} (h0 : Inv 0 s μ) : ∃ x μ', m_lp body F s μ = some (x, μ') ∧ Post x μ' := by
  have key : ∀ k i F s μ, i + k = N → k < F → Inv i s μ → ∃ x μ', m_lp body F s μ = some (x, μ') ∧ Post x μ' := by
    intro k
    induction k with
    | zero =>
      intro i F s μ hi hF hI
      obtain ⟨F', rfl⟩ : ∃ F', F = F' + 1 := ⟨F - 1, by omega⟩
      have : i = N := by omega
      subst this
      obtain ⟨x, μ', h1, h2⟩ := he s μ hI
      exact ⟨x, μ', by rw [lp_s, bd_of h1]; rfl, h2⟩
    | succ k ih =>
      intro i F s μ hi hF hI
      obtain ⟨F', rfl⟩ : ∃ F', F = F' + 1 := ⟨F - 1, by omega⟩
      obtain ⟨s', μ', h1, h2⟩ := hs i s μ (by omega) hI
      obtain ⟨x, μ'', h3, h4⟩ := ih (i + 1) F' s' μ' (by omega) (by omega) h2
      exact ⟨x, μ'', by rw [lp_s, bd_of h1]; exact h3, h4⟩
  exact key N 0 F s μ (by omega) hF h0
/-- a loop that may end early: an invariant, and what is behind it, at each turn -/
theorem lp_brk {S E : Type} {body : S → mP (S ⊕ E)} (Inv : Nat → S → mM → Prop) (Post : E → mM → Prop) (N : Nat) (hs : ∀ i s μ, i ≤ N → Inv i s μ → (∃ s' μ', i < N ∧ body s μ = some (.inl s', μ') ∧ Inv (i + 1) s' μ') ∨ ∃ x μ', body s μ = some (.inr x, μ') ∧ Post x μ') {F : Nat} (hF : N < F) {s : S} {μ : mM} (h0 : Inv 0 s μ) : ∃ x μ', m_lp body F s μ = some (x, μ') ∧ Post x μ' := by
  have key : ∀ k i F s μ, i + k = N → k < F → Inv i s μ → ∃ x μ', m_lp body F s μ = some (x, μ') ∧ Post x μ' := by
    intro k
    induction k with
    | zero =>
      intro i F s μ hi hF hI
      obtain ⟨F', rfl⟩ : ∃ F', F = F' + 1 := ⟨F - 1, by omega⟩
      rcases hs i s μ (by omega) hI with ⟨s', μ', h1, -⟩ | ⟨x, μ', h1, h2⟩
      · omega
      · exact ⟨x, μ', by rw [lp_s, bd_of h1]; rfl, h2⟩
    | succ k ih =>
      intro i F s μ hi hF hI
      obtain ⟨F', rfl⟩ : ∃ F', F = F' + 1 := ⟨F - 1, by omega⟩
      rcases hs i s μ (by omega) hI with ⟨s', μ', h0, h1, h2⟩ | ⟨x, μ', h1, h2⟩
      · obtain ⟨x, μ'', h3, h4⟩ := ih (i + 1) F' s' μ' (by omega) (by omega) h2
        exact ⟨x, μ'', by rw [lp_s, bd_of h1]; exact h3, h4⟩
      · exact ⟨x, μ', by rw [lp_s, bd_of h1]; rfl, h2⟩
  exact key N 0 F s μ (by omega) hF h0
theorem ite_some {α : Type} (c : Prop) [Decidable c] (a b : α) (μ : mM) : (if c then some (a, μ) else some (b, μ)) = some (if c then a else b, μ) := by split <;> rfl
theorem F_gt : 4200 < m_F := by decide
theorem li (n : Nat) : (OfNat.ofNat n : Int32) = nI n := rfl
/-- the reference's cells are there, and its fields hold its arrays -/
def RefQ (n : Nat) (R : mA → Nat → Option mA) : Prop := 129 ≤ n ∧ R (40, 0, 0) 4 = some (41, 0, 0) ∧ R (40, 0, 0) 5 = some (42, 0, 0) ∧ R (40, 0, 0) 6 = some (43, 0, 0) ∧ R (40, 0, 0) 7 = some (44, 0, 0) ∧ R (40, 0, 0) 20 = some (45, 0, 0) ∧ R (40, 0, 0) 21 = some (46, 0, 0) ∧ R (40, 0, 0) 22 = some (47, 0, 0) ∧ R (40, 0, 0) 23 = some (48, 0, 0) ∧ R (40, 0, 0) 30 = some (49, 0, 0) ∧ R (40, 0, 0) 31 = some (50, 0, 0) ∧ R (40, 0, 0) 32 = some (51, 0, 0) ∧ R (40, 0, 0) 33 = some (52, 0, 0) ∧ R (40, 0, 0) 35 = some (53, 0, 0) ∧ R (40, 0, 0) 36 = some (54, 0, 0) ∧ R (40, 0, 0) 37 = some (55, 0, 0) ∧ R (40, 0, 0) 39 = some (56, 0, 0) ∧ R (40, 0, 0) 40 = some (57, 0, 0) ∧ R (40, 0, 0) 42 = some (58, 0, 0)
abbrev RefP (μ : mM) : Prop := RefQ μ.1 (m_R μ)
theorem m_okR {μ : mM} (h : 129 ≤ μ.1) {a : mA} (ha : (decide (a.1 ≠ 0) && (decide (m_pl (m_idx a) = a) && decide (m_idx a < 129))) = true) : m_ok μ a = true := by
  simp only [m_ok, Bool.and_eq_true, decide_eq_true_eq] at ha ⊢
  exact ⟨ha.1, ha.2.1, by omega⟩
theorem r_oO {μ : mM} (h : RefP μ) : oO μ 11 (40, 0, 0) := ⟨rfl, m_okR h.1 (by decide +kernel)⟩
theorem r_th {α : Type} {μ : mM} (h : RefP μ) (T : mP α) : m_th 11 (some (40, 0, 0)) T μ = T μ := bd_th (r_oO h) T
theorem r_gI {α : Type} {μ : mM} {k : Nat} (h : RefP μ) (f : Int32 → mP α) : m_bd (m_gI 11 k (some (40, 0, 0))) f μ = f (m_I μ (40, 0, 0) k) μ := bd_gI (r_oO h) f
theorem r_gJ {α : Type} {μ : mM} {k : Nat} (h : RefP μ) (f : Int64 → mP α) : m_bd (m_gJ 11 k (some (40, 0, 0))) f μ = f (m_J μ (40, 0, 0) k) μ := bd_gJ (r_oO h) f
theorem r_pI {α : Type} {μ : mM} {k : Nat} (h : RefP μ) (v : Int32) (f : Unit → mP α) : m_bd (m_pI 11 k (some (40, 0, 0)) v) f μ = f () (m_sI μ (40, 0, 0) k v) := bd_pI (r_oO h) v f
theorem r_pJ {α : Type} {μ : mM} {k : Nat} (h : RefP μ) (v : Int64) (f : Unit → mP α) : m_bd (m_pJ 11 k (some (40, 0, 0)) v) f μ = f () (m_sJ μ (40, 0, 0) k v) := bd_pJ (r_oO h) v f
theorem r_pZ {α : Type} {μ : mM} {k : Nat} (h : RefP μ) {v : Int32} (hv : v = 0 ∨ v = 1) (f : Unit → mP α) : m_bd (m_pZ 11 k (some (40, 0, 0)) v) f μ = f () (m_sI μ (40, 0, 0) k v) := bd_pZ (r_oO h) hv f
theorem r_g41 {α : Type} {μ : mM} (h : RefP μ) (f : Option mA → mP α) : m_bd (m_gR 11 4 (some (40, 0, 0))) f μ = f (some (41, 0, 0)) μ := by rw [bd_gR (r_oO h), h.2.1]
theorem r_A41 {μ : mM} (h : RefP μ) : oA μ 0 4 (41, 0, 0) := ⟨rfl, m_okR h.1 (by decide +kernel)⟩
theorem r_a41 {α : Type} {μ : mM} {i : Nat} (h : RefP μ) (hi : i < 4) (f : Int32 → mP α) : m_bd (m_aI 0 (some (41, 0, 0)) (nI i)) f μ = f (m_I μ (41, 0, 0) i) μ := bd_aI (r_A41 h) hi (by decide) f
theorem r_t41 {α : Type} {μ : mM} {i : Nat} (h : RefP μ) (hi : i < 4) (v : Int32) (f : Unit → mP α) : m_bd (m_tI 0 (some (41, 0, 0)) (nI i) v) f μ = f () (m_sI μ (41, 0, 0) i v) := bd_tI (r_A41 h) hi (by decide) v f
theorem r_g42 {α : Type} {μ : mM} (h : RefP μ) (f : Option mA → mP α) : m_bd (m_gR 11 5 (some (40, 0, 0))) f μ = f (some (42, 0, 0)) μ := by rw [bd_gR (r_oO h), h.2.2.1]
theorem r_A42 {μ : mM} (h : RefP μ) : oA μ 0 4 (42, 0, 0) := ⟨rfl, m_okR h.1 (by decide +kernel)⟩
theorem r_a42 {α : Type} {μ : mM} {i : Nat} (h : RefP μ) (hi : i < 4) (f : Int32 → mP α) : m_bd (m_aI 0 (some (42, 0, 0)) (nI i)) f μ = f (m_I μ (42, 0, 0) i) μ := bd_aI (r_A42 h) hi (by decide) f
theorem r_t42 {α : Type} {μ : mM} {i : Nat} (h : RefP μ) (hi : i < 4) (v : Int32) (f : Unit → mP α) : m_bd (m_tI 0 (some (42, 0, 0)) (nI i) v) f μ = f () (m_sI μ (42, 0, 0) i v) := bd_tI (r_A42 h) hi (by decide) v f
theorem r_g43 {α : Type} {μ : mM} (h : RefP μ) (f : Option mA → mP α) : m_bd (m_gR 11 6 (some (40, 0, 0))) f μ = f (some (43, 0, 0)) μ := by rw [bd_gR (r_oO h), h.2.2.2.1]
theorem r_A43 {μ : mM} (h : RefP μ) : oA μ 1 240 (43, 0, 0) := ⟨rfl, m_okR h.1 (by decide +kernel)⟩
theorem r_a43 {α : Type} {μ : mM} {i : Nat} (h : RefP μ) (hi : i < 240) (f : Int64 → mP α) : m_bd (m_aJ (some (43, 0, 0)) (nI i)) f μ = f (m_J μ (43, 0, 0) i) μ := bd_aJ (r_A43 h) hi (by decide) f
theorem r_l43_0 {α : Type} {μ : mM} (h : RefP μ) (f : Int64 → mP α) : m_bd (m_aJ (some (43, 0, 0)) 0) f μ = f (m_J μ (43, 0, 0) 0) μ := bd_aJ (i := 0) (r_A43 h) (by decide) (by decide) f
theorem r_t43 {α : Type} {μ : mM} {i : Nat} (h : RefP μ) (hi : i < 240) (v : Int64) (f : Unit → mP α) : m_bd (m_tJ (some (43, 0, 0)) (nI i) v) f μ = f () (m_sJ μ (43, 0, 0) i v) := bd_tJ (r_A43 h) hi (by decide) v f
theorem r_g44 {α : Type} {μ : mM} (h : RefP μ) (f : Option mA → mP α) : m_bd (m_gR 11 7 (some (40, 0, 0))) f μ = f (some (44, 0, 0)) μ := by rw [bd_gR (r_oO h), h.2.2.2.2.1]
theorem r_A44 {μ : mM} (h : RefP μ) : oA μ 2 900 (44, 0, 0) := ⟨rfl, m_okR h.1 (by decide +kernel)⟩
theorem r_a44 {α : Type} {μ : mM} {i : Nat} (h : RefP μ) (hi : i < 900) (f : Int32 → mP α) : m_bd (m_aI 2 (some (44, 0, 0)) (nI i)) f μ = f (m_I μ (44, 0, 0) i) μ := bd_aI (r_A44 h) hi (by decide) f
theorem r_t44 {α : Type} {μ : mM} {i : Nat} (h : RefP μ) (hi : i < 900) (v : Int32) (f : Unit → mP α) : m_bd (m_tI 2 (some (44, 0, 0)) (nI i) v) f μ = f () (m_sI μ (44, 0, 0) i (m_nar 2 v)) := bd_tI (r_A44 h) hi (by decide) v f
theorem r_g45 {α : Type} {μ : mM} (h : RefP μ) (f : Option mA → mP α) : m_bd (m_gR 11 20 (some (40, 0, 0))) f μ = f (some (45, 0, 0)) μ := by rw [bd_gR (r_oO h), h.2.2.2.2.2.1]
theorem r_A45 {μ : mM} (h : RefP μ) : oA μ 0 1885 (45, 0, 0) := ⟨rfl, m_okR h.1 (by decide +kernel)⟩
theorem r_a45 {α : Type} {μ : mM} {i : Nat} (h : RefP μ) (hi : i < 1885) (f : Int32 → mP α) : m_bd (m_aI 0 (some (45, 0, 0)) (nI i)) f μ = f (m_I μ (45, 0, 0) i) μ := bd_aI (r_A45 h) hi (by decide) f
theorem r_l45_0 {α : Type} {μ : mM} (h : RefP μ) (f : Int32 → mP α) : m_bd (m_aI 0 (some (45, 0, 0)) 0) f μ = f (m_I μ (45, 0, 0) 0) μ := bd_aI (i := 0) (r_A45 h) (by decide) (by decide) f
theorem r_l45_1 {α : Type} {μ : mM} (h : RefP μ) (f : Int32 → mP α) : m_bd (m_aI 0 (some (45, 0, 0)) 1) f μ = f (m_I μ (45, 0, 0) 1) μ := bd_aI (i := 1) (r_A45 h) (by decide) (by decide) f
theorem r_l45_2 {α : Type} {μ : mM} (h : RefP μ) (f : Int32 → mP α) : m_bd (m_aI 0 (some (45, 0, 0)) 2) f μ = f (m_I μ (45, 0, 0) 2) μ := bd_aI (i := 2) (r_A45 h) (by decide) (by decide) f
theorem r_l45_3 {α : Type} {μ : mM} (h : RefP μ) (f : Int32 → mP α) : m_bd (m_aI 0 (some (45, 0, 0)) 3) f μ = f (m_I μ (45, 0, 0) 3) μ := bd_aI (i := 3) (r_A45 h) (by decide) (by decide) f
theorem r_l45_4 {α : Type} {μ : mM} (h : RefP μ) (f : Int32 → mP α) : m_bd (m_aI 0 (some (45, 0, 0)) 4) f μ = f (m_I μ (45, 0, 0) 4) μ := bd_aI (i := 4) (r_A45 h) (by decide) (by decide) f
theorem r_l45_5 {α : Type} {μ : mM} (h : RefP μ) (f : Int32 → mP α) : m_bd (m_aI 0 (some (45, 0, 0)) 5) f μ = f (m_I μ (45, 0, 0) 5) μ := bd_aI (i := 5) (r_A45 h) (by decide) (by decide) f
theorem r_l45_6 {α : Type} {μ : mM} (h : RefP μ) (f : Int32 → mP α) : m_bd (m_aI 0 (some (45, 0, 0)) 6) f μ = f (m_I μ (45, 0, 0) 6) μ := bd_aI (i := 6) (r_A45 h) (by decide) (by decide) f
theorem r_l45_105 {α : Type} {μ : mM} (h : RefP μ) (f : Int32 → mP α) : m_bd (m_aI 0 (some (45, 0, 0)) 105) f μ = f (m_I μ (45, 0, 0) 105) μ := bd_aI (i := 105) (r_A45 h) (by decide) (by decide) f
theorem r_l45_106 {α : Type} {μ : mM} (h : RefP μ) (f : Int32 → mP α) : m_bd (m_aI 0 (some (45, 0, 0)) 106) f μ = f (m_I μ (45, 0, 0) 106) μ := bd_aI (i := 106) (r_A45 h) (by decide) (by decide) f
theorem r_l45_1508 {α : Type} {μ : mM} (h : RefP μ) (f : Int32 → mP α) : m_bd (m_aI 0 (some (45, 0, 0)) 1508) f μ = f (m_I μ (45, 0, 0) 1508) μ := bd_aI (i := 1508) (r_A45 h) (by decide) (by decide) f
theorem r_l45_1509 {α : Type} {μ : mM} (h : RefP μ) (f : Int32 → mP α) : m_bd (m_aI 0 (some (45, 0, 0)) 1509) f μ = f (m_I μ (45, 0, 0) 1509) μ := bd_aI (i := 1509) (r_A45 h) (by decide) (by decide) f
theorem r_t45 {α : Type} {μ : mM} {i : Nat} (h : RefP μ) (hi : i < 1885) (v : Int32) (f : Unit → mP α) : m_bd (m_tI 0 (some (45, 0, 0)) (nI i) v) f μ = f () (m_sI μ (45, 0, 0) i v) := bd_tI (r_A45 h) hi (by decide) v f
theorem r_tl45_0 {α : Type} {μ : mM} (h : RefP μ) (v : Int32) (f : Unit → mP α) : m_bd (m_tI 0 (some (45, 0, 0)) 0 v) f μ = f () (m_sI μ (45, 0, 0) 0 v) := bd_tI (i := 0) (r_A45 h) (by decide) (by decide) v f
theorem r_tl45_1 {α : Type} {μ : mM} (h : RefP μ) (v : Int32) (f : Unit → mP α) : m_bd (m_tI 0 (some (45, 0, 0)) 1 v) f μ = f () (m_sI μ (45, 0, 0) 1 v) := bd_tI (i := 1) (r_A45 h) (by decide) (by decide) v f
theorem r_tl45_2 {α : Type} {μ : mM} (h : RefP μ) (v : Int32) (f : Unit → mP α) : m_bd (m_tI 0 (some (45, 0, 0)) 2 v) f μ = f () (m_sI μ (45, 0, 0) 2 v) := bd_tI (i := 2) (r_A45 h) (by decide) (by decide) v f
theorem r_tl45_3 {α : Type} {μ : mM} (h : RefP μ) (v : Int32) (f : Unit → mP α) : m_bd (m_tI 0 (some (45, 0, 0)) 3 v) f μ = f () (m_sI μ (45, 0, 0) 3 v) := bd_tI (i := 3) (r_A45 h) (by decide) (by decide) v f
theorem r_tl45_4 {α : Type} {μ : mM} (h : RefP μ) (v : Int32) (f : Unit → mP α) : m_bd (m_tI 0 (some (45, 0, 0)) 4 v) f μ = f () (m_sI μ (45, 0, 0) 4 v) := bd_tI (i := 4) (r_A45 h) (by decide) (by decide) v f
theorem r_tl45_5 {α : Type} {μ : mM} (h : RefP μ) (v : Int32) (f : Unit → mP α) : m_bd (m_tI 0 (some (45, 0, 0)) 5 v) f μ = f () (m_sI μ (45, 0, 0) 5 v) := bd_tI (i := 5) (r_A45 h) (by decide) (by decide) v f
theorem r_tl45_6 {α : Type} {μ : mM} (h : RefP μ) (v : Int32) (f : Unit → mP α) : m_bd (m_tI 0 (some (45, 0, 0)) 6 v) f μ = f () (m_sI μ (45, 0, 0) 6 v) := bd_tI (i := 6) (r_A45 h) (by decide) (by decide) v f
theorem r_tl45_105 {α : Type} {μ : mM} (h : RefP μ) (v : Int32) (f : Unit → mP α) : m_bd (m_tI 0 (some (45, 0, 0)) 105 v) f μ = f () (m_sI μ (45, 0, 0) 105 v) := bd_tI (i := 105) (r_A45 h) (by decide) (by decide) v f
theorem r_tl45_106 {α : Type} {μ : mM} (h : RefP μ) (v : Int32) (f : Unit → mP α) : m_bd (m_tI 0 (some (45, 0, 0)) 106 v) f μ = f () (m_sI μ (45, 0, 0) 106 v) := bd_tI (i := 106) (r_A45 h) (by decide) (by decide) v f
theorem r_tl45_1508 {α : Type} {μ : mM} (h : RefP μ) (v : Int32) (f : Unit → mP α) : m_bd (m_tI 0 (some (45, 0, 0)) 1508 v) f μ = f () (m_sI μ (45, 0, 0) 1508 v) := bd_tI (i := 1508) (r_A45 h) (by decide) (by decide) v f
theorem r_tl45_1509 {α : Type} {μ : mM} (h : RefP μ) (v : Int32) (f : Unit → mP α) : m_bd (m_tI 0 (some (45, 0, 0)) 1509 v) f μ = f () (m_sI μ (45, 0, 0) 1509 v) := bd_tI (i := 1509) (r_A45 h) (by decide) (by decide) v f
theorem r_g46 {α : Type} {μ : mM} (h : RefP μ) (f : Option mA → mP α) : m_bd (m_gR 11 21 (some (40, 0, 0))) f μ = f (some (46, 0, 0)) μ := by rw [bd_gR (r_oO h), h.2.2.2.2.2.2.1]
theorem r_A46 {μ : mM} (h : RefP μ) : oA μ 0 105 (46, 0, 0) := ⟨rfl, m_okR h.1 (by decide +kernel)⟩
theorem r_a46 {α : Type} {μ : mM} {i : Nat} (h : RefP μ) (hi : i < 105) (f : Int32 → mP α) : m_bd (m_aI 0 (some (46, 0, 0)) (nI i)) f μ = f (m_I μ (46, 0, 0) i) μ := bd_aI (r_A46 h) hi (by decide) f
theorem r_t46 {α : Type} {μ : mM} {i : Nat} (h : RefP μ) (hi : i < 105) (v : Int32) (f : Unit → mP α) : m_bd (m_tI 0 (some (46, 0, 0)) (nI i) v) f μ = f () (m_sI μ (46, 0, 0) i v) := bd_tI (r_A46 h) hi (by decide) v f
theorem r_g47 {α : Type} {μ : mM} (h : RefP μ) (f : Option mA → mP α) : m_bd (m_gR 11 22 (some (40, 0, 0))) f μ = f (some (47, 0, 0)) μ := by rw [bd_gR (r_oO h), h.2.2.2.2.2.2.2.1]
theorem r_A47 {μ : mM} (h : RefP μ) : oA μ 0 105 (47, 0, 0) := ⟨rfl, m_okR h.1 (by decide +kernel)⟩
theorem r_a47 {α : Type} {μ : mM} {i : Nat} (h : RefP μ) (hi : i < 105) (f : Int32 → mP α) : m_bd (m_aI 0 (some (47, 0, 0)) (nI i)) f μ = f (m_I μ (47, 0, 0) i) μ := bd_aI (r_A47 h) hi (by decide) f
theorem r_t47 {α : Type} {μ : mM} {i : Nat} (h : RefP μ) (hi : i < 105) (v : Int32) (f : Unit → mP α) : m_bd (m_tI 0 (some (47, 0, 0)) (nI i) v) f μ = f () (m_sI μ (47, 0, 0) i v) := bd_tI (r_A47 h) hi (by decide) v f
theorem r_g48 {α : Type} {μ : mM} (h : RefP μ) (f : Option mA → mP α) : m_bd (m_gR 11 23 (some (40, 0, 0))) f μ = f (some (48, 0, 0)) μ := by rw [bd_gR (r_oO h), h.2.2.2.2.2.2.2.2.1]
theorem r_A48 {μ : mM} (h : RefP μ) : oA μ 1 70 (48, 0, 0) := ⟨rfl, m_okR h.1 (by decide +kernel)⟩
theorem r_a48 {α : Type} {μ : mM} {i : Nat} (h : RefP μ) (hi : i < 70) (f : Int64 → mP α) : m_bd (m_aJ (some (48, 0, 0)) (nI i)) f μ = f (m_J μ (48, 0, 0) i) μ := bd_aJ (r_A48 h) hi (by decide) f
theorem r_l48_0 {α : Type} {μ : mM} (h : RefP μ) (f : Int64 → mP α) : m_bd (m_aJ (some (48, 0, 0)) 0) f μ = f (m_J μ (48, 0, 0) 0) μ := bd_aJ (i := 0) (r_A48 h) (by decide) (by decide) f
theorem r_t48 {α : Type} {μ : mM} {i : Nat} (h : RefP μ) (hi : i < 70) (v : Int64) (f : Unit → mP α) : m_bd (m_tJ (some (48, 0, 0)) (nI i) v) f μ = f () (m_sJ μ (48, 0, 0) i v) := bd_tJ (r_A48 h) hi (by decide) v f
theorem r_g49 {α : Type} {μ : mM} (h : RefP μ) (f : Option mA → mP α) : m_bd (m_gR 11 30 (some (40, 0, 0))) f μ = f (some (49, 0, 0)) μ := by rw [bd_gR (r_oO h), h.2.2.2.2.2.2.2.2.2.1]
theorem r_A49 {μ : mM} (h : RefP μ) : oA μ 0 6 (49, 0, 0) := ⟨rfl, m_okR h.1 (by decide +kernel)⟩
theorem r_a49 {α : Type} {μ : mM} {i : Nat} (h : RefP μ) (hi : i < 6) (f : Int32 → mP α) : m_bd (m_aI 0 (some (49, 0, 0)) (nI i)) f μ = f (m_I μ (49, 0, 0) i) μ := bd_aI (r_A49 h) hi (by decide) f
theorem r_t49 {α : Type} {μ : mM} {i : Nat} (h : RefP μ) (hi : i < 6) (v : Int32) (f : Unit → mP α) : m_bd (m_tI 0 (some (49, 0, 0)) (nI i) v) f μ = f () (m_sI μ (49, 0, 0) i v) := bd_tI (r_A49 h) hi (by decide) v f
theorem r_g50 {α : Type} {μ : mM} (h : RefP μ) (f : Option mA → mP α) : m_bd (m_gR 11 31 (some (40, 0, 0))) f μ = f (some (50, 0, 0)) μ := by rw [bd_gR (r_oO h), h.2.2.2.2.2.2.2.2.2.2.1]
theorem r_A50 {μ : mM} (h : RefP μ) : oA μ 0 19 (50, 0, 0) := ⟨rfl, m_okR h.1 (by decide +kernel)⟩
theorem r_a50 {α : Type} {μ : mM} {i : Nat} (h : RefP μ) (hi : i < 19) (f : Int32 → mP α) : m_bd (m_aI 0 (some (50, 0, 0)) (nI i)) f μ = f (m_I μ (50, 0, 0) i) μ := bd_aI (r_A50 h) hi (by decide) f
theorem r_t50 {α : Type} {μ : mM} {i : Nat} (h : RefP μ) (hi : i < 19) (v : Int32) (f : Unit → mP α) : m_bd (m_tI 0 (some (50, 0, 0)) (nI i) v) f μ = f () (m_sI μ (50, 0, 0) i v) := bd_tI (r_A50 h) hi (by decide) v f
theorem r_g51 {α : Type} {μ : mM} (h : RefP μ) (f : Option mA → mP α) : m_bd (m_gR 11 32 (some (40, 0, 0))) f μ = f (some (51, 0, 0)) μ := by rw [bd_gR (r_oO h), h.2.2.2.2.2.2.2.2.2.2.2.1]
theorem r_A51 {μ : mM} (h : RefP μ) : oA μ 0 6 (51, 0, 0) := ⟨rfl, m_okR h.1 (by decide +kernel)⟩
theorem r_a51 {α : Type} {μ : mM} {i : Nat} (h : RefP μ) (hi : i < 6) (f : Int32 → mP α) : m_bd (m_aI 0 (some (51, 0, 0)) (nI i)) f μ = f (m_I μ (51, 0, 0) i) μ := bd_aI (r_A51 h) hi (by decide) f
theorem r_t51 {α : Type} {μ : mM} {i : Nat} (h : RefP μ) (hi : i < 6) (v : Int32) (f : Unit → mP α) : m_bd (m_tI 0 (some (51, 0, 0)) (nI i) v) f μ = f () (m_sI μ (51, 0, 0) i v) := bd_tI (r_A51 h) hi (by decide) v f
theorem r_g52 {α : Type} {μ : mM} (h : RefP μ) (f : Option mA → mP α) : m_bd (m_gR 11 33 (some (40, 0, 0))) f μ = f (some (52, 0, 0)) μ := by rw [bd_gR (r_oO h), h.2.2.2.2.2.2.2.2.2.2.2.2.1]
theorem r_A52 {μ : mM} (h : RefP μ) : oA μ 0 6 (52, 0, 0) := ⟨rfl, m_okR h.1 (by decide +kernel)⟩
theorem r_a52 {α : Type} {μ : mM} {i : Nat} (h : RefP μ) (hi : i < 6) (f : Int32 → mP α) : m_bd (m_aI 0 (some (52, 0, 0)) (nI i)) f μ = f (m_I μ (52, 0, 0) i) μ := bd_aI (r_A52 h) hi (by decide) f
theorem r_t52 {α : Type} {μ : mM} {i : Nat} (h : RefP μ) (hi : i < 6) (v : Int32) (f : Unit → mP α) : m_bd (m_tI 0 (some (52, 0, 0)) (nI i) v) f μ = f () (m_sI μ (52, 0, 0) i v) := bd_tI (r_A52 h) hi (by decide) v f
theorem r_g53 {α : Type} {μ : mM} (h : RefP μ) (f : Option mA → mP α) : m_bd (m_gR 11 35 (some (40, 0, 0))) f μ = f (some (53, 0, 0)) μ := by rw [bd_gR (r_oO h), h.2.2.2.2.2.2.2.2.2.2.2.2.2.1]
theorem r_A53 {μ : mM} (h : RefP μ) : oA μ 0 8 (53, 0, 0) := ⟨rfl, m_okR h.1 (by decide +kernel)⟩
theorem r_a53 {α : Type} {μ : mM} {i : Nat} (h : RefP μ) (hi : i < 8) (f : Int32 → mP α) : m_bd (m_aI 0 (some (53, 0, 0)) (nI i)) f μ = f (m_I μ (53, 0, 0) i) μ := bd_aI (r_A53 h) hi (by decide) f
theorem r_t53 {α : Type} {μ : mM} {i : Nat} (h : RefP μ) (hi : i < 8) (v : Int32) (f : Unit → mP α) : m_bd (m_tI 0 (some (53, 0, 0)) (nI i) v) f μ = f () (m_sI μ (53, 0, 0) i v) := bd_tI (r_A53 h) hi (by decide) v f
theorem r_g54 {α : Type} {μ : mM} (h : RefP μ) (f : Option mA → mP α) : m_bd (m_gR 11 36 (some (40, 0, 0))) f μ = f (some (54, 0, 0)) μ := by rw [bd_gR (r_oO h), h.2.2.2.2.2.2.2.2.2.2.2.2.2.2.1]
theorem r_A54 {μ : mM} (h : RefP μ) : oA μ 0 6 (54, 0, 0) := ⟨rfl, m_okR h.1 (by decide +kernel)⟩
theorem r_a54 {α : Type} {μ : mM} {i : Nat} (h : RefP μ) (hi : i < 6) (f : Int32 → mP α) : m_bd (m_aI 0 (some (54, 0, 0)) (nI i)) f μ = f (m_I μ (54, 0, 0) i) μ := bd_aI (r_A54 h) hi (by decide) f
theorem r_t54 {α : Type} {μ : mM} {i : Nat} (h : RefP μ) (hi : i < 6) (v : Int32) (f : Unit → mP α) : m_bd (m_tI 0 (some (54, 0, 0)) (nI i) v) f μ = f () (m_sI μ (54, 0, 0) i v) := bd_tI (r_A54 h) hi (by decide) v f
theorem r_g55 {α : Type} {μ : mM} (h : RefP μ) (f : Option mA → mP α) : m_bd (m_gR 11 37 (some (40, 0, 0))) f μ = f (some (55, 0, 0)) μ := by rw [bd_gR (r_oO h), h.2.2.2.2.2.2.2.2.2.2.2.2.2.2.2.1]
theorem r_A55 {μ : mM} (h : RefP μ) : oA μ 0 525 (55, 0, 0) := ⟨rfl, m_okR h.1 (by decide +kernel)⟩
theorem r_a55 {α : Type} {μ : mM} {i : Nat} (h : RefP μ) (hi : i < 525) (f : Int32 → mP α) : m_bd (m_aI 0 (some (55, 0, 0)) (nI i)) f μ = f (m_I μ (55, 0, 0) i) μ := bd_aI (r_A55 h) hi (by decide) f
theorem r_t55 {α : Type} {μ : mM} {i : Nat} (h : RefP μ) (hi : i < 525) (v : Int32) (f : Unit → mP α) : m_bd (m_tI 0 (some (55, 0, 0)) (nI i) v) f μ = f () (m_sI μ (55, 0, 0) i v) := bd_tI (r_A55 h) hi (by decide) v f
theorem r_g56 {α : Type} {μ : mM} (h : RefP μ) (f : Option mA → mP α) : m_bd (m_gR 11 39 (some (40, 0, 0))) f μ = f (some (56, 0, 0)) μ := by rw [bd_gR (r_oO h), h.2.2.2.2.2.2.2.2.2.2.2.2.2.2.2.2.1]
theorem r_A56 {μ : mM} (h : RefP μ) : oA μ 1 800 (56, 0, 0) := ⟨rfl, m_okR h.1 (by decide +kernel)⟩
theorem r_a56 {α : Type} {μ : mM} {i : Nat} (h : RefP μ) (hi : i < 800) (f : Int64 → mP α) : m_bd (m_aJ (some (56, 0, 0)) (nI i)) f μ = f (m_J μ (56, 0, 0) i) μ := bd_aJ (r_A56 h) hi (by decide) f
theorem r_l56_0 {α : Type} {μ : mM} (h : RefP μ) (f : Int64 → mP α) : m_bd (m_aJ (some (56, 0, 0)) 0) f μ = f (m_J μ (56, 0, 0) 0) μ := bd_aJ (i := 0) (r_A56 h) (by decide) (by decide) f
theorem r_t56 {α : Type} {μ : mM} {i : Nat} (h : RefP μ) (hi : i < 800) (v : Int64) (f : Unit → mP α) : m_bd (m_tJ (some (56, 0, 0)) (nI i) v) f μ = f () (m_sJ μ (56, 0, 0) i v) := bd_tJ (r_A56 h) hi (by decide) v f
theorem r_g57 {α : Type} {μ : mM} (h : RefP μ) (f : Option mA → mP α) : m_bd (m_gR 11 40 (some (40, 0, 0))) f μ = f (some (57, 0, 0)) μ := by rw [bd_gR (r_oO h), h.2.2.2.2.2.2.2.2.2.2.2.2.2.2.2.2.2.1]
theorem r_A57 {μ : mM} (h : RefP μ) : oA μ 1 800 (57, 0, 0) := ⟨rfl, m_okR h.1 (by decide +kernel)⟩
theorem r_a57 {α : Type} {μ : mM} {i : Nat} (h : RefP μ) (hi : i < 800) (f : Int64 → mP α) : m_bd (m_aJ (some (57, 0, 0)) (nI i)) f μ = f (m_J μ (57, 0, 0) i) μ := bd_aJ (r_A57 h) hi (by decide) f
theorem r_l57_0 {α : Type} {μ : mM} (h : RefP μ) (f : Int64 → mP α) : m_bd (m_aJ (some (57, 0, 0)) 0) f μ = f (m_J μ (57, 0, 0) 0) μ := bd_aJ (i := 0) (r_A57 h) (by decide) (by decide) f
theorem r_t57 {α : Type} {μ : mM} {i : Nat} (h : RefP μ) (hi : i < 800) (v : Int64) (f : Unit → mP α) : m_bd (m_tJ (some (57, 0, 0)) (nI i) v) f μ = f () (m_sJ μ (57, 0, 0) i v) := bd_tJ (r_A57 h) hi (by decide) v f
theorem r_g58 {α : Type} {μ : mM} (h : RefP μ) (f : Option mA → mP α) : m_bd (m_gR 11 42 (some (40, 0, 0))) f μ = f (some (58, 0, 0)) μ := by rw [bd_gR (r_oO h), h.2.2.2.2.2.2.2.2.2.2.2.2.2.2.2.2.2.2]
theorem r_A58 {μ : mM} (h : RefP μ) : oA μ 0 5 (58, 0, 0) := ⟨rfl, m_okR h.1 (by decide +kernel)⟩
theorem r_a58 {α : Type} {μ : mM} {i : Nat} (h : RefP μ) (hi : i < 5) (f : Int32 → mP α) : m_bd (m_aI 0 (some (58, 0, 0)) (nI i)) f μ = f (m_I μ (58, 0, 0) i) μ := bd_aI (r_A58 h) hi (by decide) f
theorem r_t58 {α : Type} {μ : mM} {i : Nat} (h : RefP μ) (hi : i < 5) (v : Int32) (f : Unit → mP α) : m_bd (m_tI 0 (some (58, 0, 0)) (nI i) v) f μ = f () (m_sI μ (58, 0, 0) i v) := bd_tI (r_A58 h) hi (by decide) v f
theorem r_tl58_0 {α : Type} {μ : mM} (h : RefP μ) (v : Int32) (f : Unit → mP α) : m_bd (m_tI 0 (some (58, 0, 0)) 0 v) f μ = f () (m_sI μ (58, 0, 0) 0 v) := bd_tI (i := 0) (r_A58 h) (by decide) (by decide) v f
theorem r_tl58_1 {α : Type} {μ : mM} (h : RefP μ) (v : Int32) (f : Unit → mP α) : m_bd (m_tI 0 (some (58, 0, 0)) 1 v) f μ = f () (m_sI μ (58, 0, 0) 1 v) := bd_tI (i := 1) (r_A58 h) (by decide) (by decide) v f
theorem r_tl58_2 {α : Type} {μ : mM} (h : RefP μ) (v : Int32) (f : Unit → mP α) : m_bd (m_tI 0 (some (58, 0, 0)) 2 v) f μ = f () (m_sI μ (58, 0, 0) 2 v) := bd_tI (i := 2) (r_A58 h) (by decide) (by decide) v f
theorem r_tl58_3 {α : Type} {μ : mM} (h : RefP μ) (v : Int32) (f : Unit → mP α) : m_bd (m_tI 0 (some (58, 0, 0)) 3 v) f μ = f () (m_sI μ (58, 0, 0) 3 v) := bd_tI (i := 3) (r_A58 h) (by decide) (by decide) v f
theorem r_tl58_4 {α : Type} {μ : mM} (h : RefP μ) (v : Int32) (f : Unit → mP α) : m_bd (m_tI 0 (some (58, 0, 0)) 4 v) f μ = f () (m_sI μ (58, 0, 0) 4 v) := bd_tI (i := 4) (r_A58 h) (by decide) (by decide) v f
theorem la_1 (t : Nat) : (1 : Int32) + nI t = nI (1 + t) := nI_add 1 t
theorem lm_1 (t : Nat) : (1 : Int32) * nI t = nI (1 * t) := pk_mul 1 t
theorem la_2 (t : Nat) : (2 : Int32) + nI t = nI (2 + t) := nI_add 2 t
theorem lm_2 (t : Nat) : (2 : Int32) * nI t = nI (2 * t) := pk_mul 2 t
theorem la_3 (t : Nat) : (3 : Int32) + nI t = nI (3 + t) := nI_add 3 t
theorem lm_3 (t : Nat) : (3 : Int32) * nI t = nI (3 * t) := pk_mul 3 t
theorem la_6 (t : Nat) : (6 : Int32) + nI t = nI (6 + t) := nI_add 6 t
theorem lm_6 (t : Nat) : (6 : Int32) * nI t = nI (6 * t) := pk_mul 6 t
theorem la_7 (t : Nat) : (7 : Int32) + nI t = nI (7 + t) := nI_add 7 t
theorem lm_7 (t : Nat) : (7 : Int32) * nI t = nI (7 * t) := pk_mul 7 t
theorem la_8 (t : Nat) : (8 : Int32) + nI t = nI (8 + t) := nI_add 8 t
theorem lm_8 (t : Nat) : (8 : Int32) * nI t = nI (8 * t) := pk_mul 8 t
theorem la_13 (t : Nat) : (13 : Int32) + nI t = nI (13 + t) := nI_add 13 t
theorem lm_13 (t : Nat) : (13 : Int32) * nI t = nI (13 * t) := pk_mul 13 t
theorem la_19 (t : Nat) : (19 : Int32) + nI t = nI (19 + t) := nI_add 19 t
theorem lm_19 (t : Nat) : (19 : Int32) * nI t = nI (19 * t) := pk_mul 19 t
theorem la_25 (t : Nat) : (25 : Int32) + nI t = nI (25 + t) := nI_add 25 t
theorem lm_25 (t : Nat) : (25 : Int32) * nI t = nI (25 * t) := pk_mul 25 t
theorem la_33 (t : Nat) : (33 : Int32) + nI t = nI (33 + t) := nI_add 33 t
theorem lm_33 (t : Nat) : (33 : Int32) * nI t = nI (33 * t) := pk_mul 33 t
theorem la_41 (t : Nat) : (41 : Int32) + nI t = nI (41 + t) := nI_add 41 t
theorem lm_41 (t : Nat) : (41 : Int32) * nI t = nI (41 * t) := pk_mul 41 t
theorem la_49 (t : Nat) : (49 : Int32) + nI t = nI (49 + t) := nI_add 49 t
theorem lm_49 (t : Nat) : (49 : Int32) * nI t = nI (49 * t) := pk_mul 49 t
theorem la_57 (t : Nat) : (57 : Int32) + nI t = nI (57 + t) := nI_add 57 t
theorem lm_57 (t : Nat) : (57 : Int32) * nI t = nI (57 * t) := pk_mul 57 t
theorem la_60 (t : Nat) : (60 : Int32) + nI t = nI (60 + t) := nI_add 60 t
theorem lm_60 (t : Nat) : (60 : Int32) * nI t = nI (60 * t) := pk_mul 60 t
theorem la_105 (t : Nat) : (105 : Int32) + nI t = nI (105 + t) := nI_add 105 t
theorem lm_105 (t : Nat) : (105 : Int32) * nI t = nI (105 * t) := pk_mul 105 t
theorem la_107 (t : Nat) : (107 : Int32) + nI t = nI (107 + t) := nI_add 107 t
theorem lm_107 (t : Nat) : (107 : Int32) * nI t = nI (107 * t) := pk_mul 107 t
theorem la_1508 (t : Nat) : (1508 : Int32) + nI t = nI (1508 + t) := nI_add 1508 t
theorem lm_1508 (t : Nat) : (1508 : Int32) * nI t = nI (1508 * t) := pk_mul 1508 t
theorem la_96 (t : Nat) : (96 : Int32) + nI t = nI (96 + t) := nI_add 96 t
theorem lm_96 (t : Nat) : (96 : Int32) * nI t = nI (96 * t) := pk_mul 96 t
theorem la_377 (t : Nat) : (377 : Int32) + nI t = nI (377 + t) := nI_add 377 t
theorem lm_377 (t : Nat) : (377 : Int32) * nI t = nI (377 * t) := pk_mul 377 t
theorem la_1509 (t : Nat) : (1509 : Int32) + nI t = nI (1509 + t) := nI_add 1509 t
theorem lm_1509 (t : Nat) : (1509 : Int32) * nI t = nI (1509 * t) := pk_mul 1509 t
