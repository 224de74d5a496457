/-! Part 46: a year of the reference -/
/-- a number of 0 to B -/
def bn (x : Int32) (B : Nat) : Prop := ∃ n, n ≤ B ∧ x = nI n
/-- a block's numbers are such as can be -/
def Okc (c : Nat → Int32) (P T : Nat) : Prop :=
  (bn (c 2) 99 ∧ (∃ n, 1 ≤ n ∧ n ≤ 120 ∧ c 3 = nI n) ∧ bn (c 4) 9 ∧ bn (c 5) 99 ∧ bn (c 6) 9999)
  ∧ (∀ p, p < P → (bn (c (7 + p)) 120 ∧ bn (c (13 + p)) 1 ∧ bn (c (19 + p)) 1 ∧ (c (19 + p) = 0 ∨ bn (c (7 + p)) 119)) ∧ ∀ t, t < 8 → bn (c (57 + 8 * p + t)) 9 ∧ (T ≤ t → c (57 + 8 * p + t) = 0))
  ∧ ∀ t, t < T → (∃ n, 1 ≤ n ∧ n ≤ 999 ∧ c (25 + t) = nI n) ∧ bn (c (33 + t)) 999 ∧ bn (c (41 + t)) 999 ∧ bn (c (49 + t)) 3
/-- the reference's c and its diedNow -/
def rY (μ : mM) (g : Nat → Int32) (d : Int32) : mM := m_sI (m_rI μ (45, 0, 0) g) (40, 0, 0) 27 d
theorem RefP_sI {μ : mM} {a : mA} {k : Nat} {v : Int32} (h : RefP μ) : RefP (m_sI μ a k v) := h
theorem ClsP_sI {μ : mM} {a : mA} {k : Nat} {v : Int32} (h : ClsP μ) : ClsP (m_sI μ a k v) := h
theorem FamP_sI {μ : mM} {a : mA} {k : Nat} {v : Int32} {f : Nat} (h : FamP μ f) : FamP (m_sI μ a k v) f := h
theorem PlanP_sI {μ : mM} {a : mA} {k : Nat} {v : Int32} {f : Nat} (h : PlanP μ f) : PlanP (m_sI μ a k v) f := h
theorem oO_sI {μ : mM} {a : mA} {k : Nat} {v : Int32} {ci : Nat} {q : mA} (h : oO μ ci q) : oO (m_sI μ a k v) ci q := h
theorem RefP_sJ {μ : mM} {a : mA} {k : Nat} {v : Int64} (h : RefP μ) : RefP (m_sJ μ a k v) := h
theorem ClsP_sJ {μ : mM} {a : mA} {k : Nat} {v : Int64} (h : ClsP μ) : ClsP (m_sJ μ a k v) := h
theorem FamP_sJ {μ : mM} {a : mA} {k : Nat} {v : Int64} {f : Nat} (h : FamP μ f) : FamP (m_sJ μ a k v) f := h
theorem PlanP_sJ {μ : mM} {a : mA} {k : Nat} {v : Int64} {f : Nat} (h : PlanP μ f) : PlanP (m_sJ μ a k v) f := h
theorem oO_sJ {μ : mM} {a : mA} {k : Nat} {v : Int64} {ci : Nat} {q : mA} (h : oO μ ci q) : oO (m_sJ μ a k v) ci q := h
theorem RefP_rI {μ : mM} {a : mA} {g : Nat → Int32} (h : RefP μ) : RefP (m_rI μ a g) := h
theorem ClsP_rI {μ : mM} {a : mA} {g : Nat → Int32} (h : ClsP μ) : ClsP (m_rI μ a g) := h
theorem FamP_rI {μ : mM} {a : mA} {g : Nat → Int32} {f : Nat} (h : FamP μ f) : FamP (m_rI μ a g) f := h
theorem PlanP_rI {μ : mM} {a : mA} {g : Nat → Int32} {f : Nat} (h : PlanP μ f) : PlanP (m_rI μ a g) f := h
theorem oO_rI {μ : mM} {a : mA} {g : Nat → Int32} {ci : Nat} {q : mA} (h : oO μ ci q) : oO (m_rI μ a g) ci q := h
theorem RefP_rJ {μ : mM} {a : mA} {g : Nat → Int64} (h : RefP μ) : RefP (m_rJ μ a g) := h
theorem ClsP_rJ {μ : mM} {a : mA} {g : Nat → Int64} (h : ClsP μ) : ClsP (m_rJ μ a g) := h
theorem FamP_rJ {μ : mM} {a : mA} {g : Nat → Int64} {f : Nat} (h : FamP μ f) : FamP (m_rJ μ a g) f := h
theorem PlanP_rJ {μ : mM} {a : mA} {g : Nat → Int64} {f : Nat} (h : PlanP μ f) : PlanP (m_rJ μ a g) f := h
theorem oO_rJ {μ : mM} {a : mA} {g : Nat → Int64} {ci : Nat} {q : mA} (h : oO μ ci q) : oO (m_rJ μ a g) ci q := h
theorem RefP_rY {μ : mM} {g : Nat → Int32} {d : Int32} (h : RefP μ) : RefP (rY μ g d) := h
theorem ClsP_rY {μ : mM} {g : Nat → Int32} {d : Int32} (h : ClsP μ) : ClsP (rY μ g d) := h
theorem FamP_rY {μ : mM} {g : Nat → Int32} {d : Int32} {f : Nat} (h : FamP μ f) : FamP (rY μ g d) f := h
theorem PlanP_rY {μ : mM} {g : Nat → Int32} {d : Int32} {f : Nat} (h : PlanP μ f) : PlanP (rY μ g d) f := h
theorem oO_rY {μ : mM} {g : Nat → Int32} {d : Int32} {ci : Nat} {q : mA} (h : oO μ ci q) : oO (rY μ g d) ci q := h
theorem n_sI (μ : mM) (a : mA) (k : Nat) (v : Int32) : (m_sI μ a k v).1 = μ.1 := rfl
theorem n_rI (μ : mM) (a : mA) (g : Nat → Int32) : (m_rI μ a g).1 = μ.1 := rfl
theorem n_sJ (μ : mM) (a : mA) (k : Nat) (v : Int64) : (m_sJ μ a k v).1 = μ.1 := rfl
theorem n_rJ (μ : mM) (a : mA) (g : Nat → Int64) : (m_rJ μ a g).1 = μ.1 := rfl
section RY
variable {μ : mM} {g g' : Nat → Int32} {d d' v : Int32} {k : Nat}
theorem rY_c : m_I (rY μ g d) (45, 0, 0) = g := by
  unfold rY
  rw [I_ne _ rfl, I_rat]
theorem rY_d : m_I (rY μ g d) (40, 0, 0) 27 = d := by
  unfold rY
  rw [I_row, ud_at]
theorem rY_f (h : ¬ k = 27) : m_I (rY μ g d) (40, 0, 0) k = m_I μ (40, 0, 0) k := by
  unfold rY
  rw [I_row, ud_ne h, I_rne _ rfl]
theorem rY_o {x y z : Nat} (h1 : Nat.beq x 40 = false) (h2 : Nat.beq x 45 = false) : m_I (rY μ g d) (x, y, z) = m_I μ (x, y, z) := by
  unfold rY
  rw [I_ne _ h1, I_rne _ h2]
theorem rY_J : m_J (rY μ g d) = m_J μ := rfl
theorem rY_R : m_R (rY μ g d) = m_R μ := rfl
theorem rY_n : (rY μ g d).1 = μ.1 := rfl
theorem sr_comm (μ : mM) (g : Nat → Int32) (v : Int32) (k : Nat) : m_rI (m_sI μ (40, 0, 0) k v) (45, 0, 0) g = m_sI (m_rI μ (45, 0, 0) g) (40, 0, 0) k v := by
  unfold m_rI m_sI
  congr 2
  funext b j
  by_cases h : b = (45, 0, 0)
  · subst h; simp [m_row, m_u]
  · simp [m_row, m_u, h]
theorem ss_same (μ : mM) (a : mA) (k : Nat) (v v' : Int32) : m_sI (m_sI μ a k v) a k v' = m_sI μ a k v' := by
  unfold m_sI
  congr 2
  funext b j
  by_cases h : b = a ∧ j = k <;> simp [m_u, h]
theorem s_self (μ : mM) (a : mA) (k : Nat) : m_sI μ a k (m_I μ a k) = μ := by
  have : m_u μ.2.1 a k (m_I μ a k) = μ.2.1 := by
    funext b j
    by_cases h : b = a ∧ j = k
    · simp [m_u, m_I, h]
    · simp [m_u, h]
  unfold m_sI
  rw [this]
theorem rY_rY : rY (rY μ g d) g' d' = rY μ g' d' := by
  unfold rY
  rw [sr_comm, rI_rI, ss_same]
theorem rY_self : rY μ (m_I μ (45, 0, 0)) (m_I μ (40, 0, 0) 27) = μ := by
  unfold rY
  rw [rI_self, s_self]
theorem rY_wc : m_sI (rY μ g d) (45, 0, 0) k v = rY μ (ud g k v) d := by
  rw [sI_rI, rY_c]
  unfold rY
  rw [sr_comm, rI_rI]
theorem rY_wd : m_sI (rY μ g d) (40, 0, 0) 27 v = rY μ g v := by
  unfold rY
  rw [ss_same]
end RY
def y_age (c : Nat → Int32) (p : Nat) : Int32 := if c (19 + p) = 0 then c (7 + p) else c (7 + p) + 1
def y_liv (c : Nat → Int32) (p : Nat) : Int32 := if c (19 + p) = 0 then c (19 + p) else if c 3 ≤ c (7 + p) + 1 then 0 else c (19 + p)
def y_dead (c : Nat → Int32) (p : Nat) : Int32 := if c (19 + p) = 0 then 0 else if c 3 ≤ c (7 + p) + 1 then 1 else 0
def y_ages (c : Nat → Int32) (n : Nat) : Nat → Int32 := fun k => if 7 ≤ k ∧ k < 7 + n then y_age c (k - 7) else if 19 ≤ k ∧ k < 19 + n then y_liv c (k - 19) else c k
theorem y_ages_0 (c : Nat → Int32) : y_ages c 0 = c := by
  funext k
  unfold y_ages
  rw [if_neg (by omega), if_neg (by omega)]
theorem y_ages_s (c : Nat → Int32) {n : Nat} (h : n < 6) : y_ages c (n + 1) = ud (ud (y_ages c n) (7 + n) (y_age c n)) (19 + n) (y_liv c n) := by
  funext k
  unfold ud
  by_cases h1 : k = 19 + n
  · subst h1
    simp only [y_ages]
    rw [if_neg (by omega), if_pos (by omega), if_pos trivial]
    congr 1
    omega
  · rw [if_neg h1]
    by_cases h2 : k = 7 + n
    · subst h2
      simp only [y_ages]
      rw [if_pos (by omega), if_pos trivial]
      congr 1
      omega
    · rw [if_neg h2]
      simp only [y_ages]
      by_cases h3 : 7 ≤ k ∧ k < 7 + n
      · rw [if_pos (by omega), if_pos h3]
      · rw [if_neg (by omega), if_neg h3]
        by_cases h4 : 19 ≤ k ∧ k < 19 + n
        · rw [if_pos (by omega), if_pos h4]
        · rw [if_neg (by omega), if_neg h4]
theorem y_ages_at {c : Nat → Int32} {n k : Nat} (h1 : ¬ (7 ≤ k ∧ k < 7 + n)) (h2 : ¬ (19 ≤ k ∧ k < 19 + n)) : y_ages c n k = c k := by
  unfold y_ages
  rw [if_neg h1, if_neg h2]
theorem ud_self {α : Type} (c : Nat → α) (k : Nat) : ud c k (c k) = c := by
  funext j
  unfold ud
  split
  · next h => rw [h]
  · rfl
theorem ud_ud {α : Type} (c : Nat → α) (k : Nat) (v v' : α) : ud (ud c k v) k v' = ud c k v' := by
  funext j
  unfold ud
  split <;> rfl
theorem r_ages {μ : mM} {P T : Nat} (hR : RefP μ) (hD : Dim (cR μ) P T) : fn_M_ages (some (40, 0, 0)) μ = some ((), rY μ (y_ages (cR μ) P) (m_I μ (40, 0, 0) 27 + i_sum (y_dead (cR μ)) P)) := by
  obtain ⟨hP0, hT0, hP6, hT8⟩ := id hD
  unfold fn_M_ages
  rw [r_th hR]
  have h := lp_nat (body := fn_M_ages_l2 (some (40, 0, 0))) (fun i => nI i) (fun i => rY μ (y_ages (cR μ) i) (m_I μ (40, 0, 0) 27 + i_sum (y_dead (cR μ)) i)) P (x := ()) (μe := rY μ (y_ages (cR μ) P) (m_I μ (40, 0, 0) 27 + i_sum (y_dead (cR μ)) P)) (fun i hi => ?_) ?_ (F := m_F) (by have := F_gt; omega)
  · simp only [y_ages_0, i_sum, Int32.add_zero, rY_self] at h
    exact (bd_of h).trans rfl
  · unfold fn_M_ages_l2
    have e0 : y_ages (cR μ) i 0 = nI P := by rw [y_ages_at (by omega) (by omega)]; exact hP0
    have e1 : y_ages (cR μ) i (19 + i) = cR μ (19 + i) := y_ages_at (by omega) (by omega)
    have e2 : y_ages (cR μ) i (7 + i) = cR μ (7 + i) := y_ages_at (by omega) (by omega)
    have e3 : y_ages (cR μ) i 3 = cR μ 3 := y_ages_at (by omega) (by omega)
    have n3 : ¬ 3 = 7 + i := by omega
    simp (disch := first | exact hR | ((repeat first | apply RefP_sI | apply RefP_rY | apply RefP_rI | apply RefP_sJ | apply RefP_rJ); exact hR) | omega) only [r_th, r_gI, r_gJ, r_pI, r_pJ, r_g41, r_g42, r_g43, r_g44, r_g45, r_g46, r_g47, r_g48, r_g49, r_g50, r_g51, r_g52, r_g53, r_g54, r_g55, r_g56, r_g57, r_g58, r_a41, r_a42, r_a43, r_a44, r_a45, r_a46, r_a47, r_a48, r_a49, r_a50, r_a51, r_a52, r_a53, r_a54, r_a55, r_a56, r_a57, r_a58, r_t41, r_t42, r_t43, r_t44, r_t45, r_t46, r_t47, r_t48, r_t49, r_t50, r_t51, r_t52, r_t53, r_t54, r_t55, r_t56, r_t57, r_t58, r_l43_0, r_l45_0, r_l45_1, r_l45_2, r_l45_3, r_l45_4, r_l45_5, r_l45_6, r_l45_105, r_l45_106, r_l45_1508, r_l45_1509, r_tl45_0, r_tl45_1, r_tl45_2, r_tl45_3, r_tl45_4, r_tl45_5, r_tl45_6, r_tl45_105, r_tl45_106, r_tl45_1508, r_tl45_1509, r_l48_0, r_l56_0, r_l57_0, r_tl58_0, r_tl58_1, r_tl58_2, r_tl58_3, r_tl58_4, la_1, lm_1, la_2, lm_2, la_3, lm_3, la_6, lm_6, la_7, lm_7, la_8, lm_8, la_13, lm_13, la_19, lm_19, la_25, lm_25, la_33, lm_33, la_41, lm_41, la_49, lm_49, la_57, lm_57, la_60, lm_60, la_105, lm_105, la_107, lm_107, la_1508, lm_1508, la_96, lm_96, la_377, lm_377, la_1509, lm_1509, bd_bd, bd_rt, bd_ite, ap_ite, ap_rt, ite_some, nI_add, nI_1, rY_c, rY_d, rY_wc, rY_wd, e0, e1, e2, e3, if_neg (nI_ge hi (show P < 2 ^ 31 by omega)), ud_at, ud_ne n3, y_ages_s (cR μ) (show i < 6 by omega), i_sum, y_age, y_liv, y_dead]
    by_cases h1 : cR μ (19 + i) = 0
    · simp only [h1, if_true, Int32.add_zero]
      rw [show ud (y_ages (cR μ) i) (7 + i) (cR μ (7 + i)) = y_ages (cR μ) i by rw [← e2, ud_self], show ud (y_ages (cR μ) i) (19 + i) 0 = y_ages (cR μ) i by rw [← h1, ← e1, ud_self]]
    · simp only [if_neg h1]
      by_cases h2 : cR μ 3 ≤ cR μ (7 + i) + 1
      · simp only [if_pos h2, Int32.add_assoc]
      · simp only [if_neg h2, Int32.add_zero]
        have e4 : ud (y_ages (cR μ) i) (7 + i) (cR μ (7 + i) + 1) (19 + i) = cR μ (19 + i) := by rw [ud_ne (by omega), e1]
        rw [show ud (ud (y_ages (cR μ) i) (7 + i) (cR μ (7 + i) + 1)) (19 + i) (cR μ (19 + i)) = ud (y_ages (cR μ) i) (7 + i) (cR μ (7 + i) + 1) by rw [← e4, ud_self]]
  · unfold fn_M_ages_l2
    have e0 : y_ages (cR μ) P 0 = nI P := by rw [y_ages_at (by omega) (by omega)]; exact hP0
    simp (disch := first | exact hR | ((repeat first | apply RefP_sI | apply RefP_rY | apply RefP_rI | apply RefP_sJ | apply RefP_rJ); exact hR) | omega) only [r_th, r_gI, r_gJ, r_pI, r_pJ, r_g41, r_g42, r_g43, r_g44, r_g45, r_g46, r_g47, r_g48, r_g49, r_g50, r_g51, r_g52, r_g53, r_g54, r_g55, r_g56, r_g57, r_g58, r_a41, r_a42, r_a43, r_a44, r_a45, r_a46, r_a47, r_a48, r_a49, r_a50, r_a51, r_a52, r_a53, r_a54, r_a55, r_a56, r_a57, r_a58, r_t41, r_t42, r_t43, r_t44, r_t45, r_t46, r_t47, r_t48, r_t49, r_t50, r_t51, r_t52, r_t53, r_t54, r_t55, r_t56, r_t57, r_t58, r_l43_0, r_l45_0, r_l45_1, r_l45_2, r_l45_3, r_l45_4, r_l45_5, r_l45_6, r_l45_105, r_l45_106, r_l45_1508, r_l45_1509, r_tl45_0, r_tl45_1, r_tl45_2, r_tl45_3, r_tl45_4, r_tl45_5, r_tl45_6, r_tl45_105, r_tl45_106, r_tl45_1508, r_tl45_1509, r_l48_0, r_l56_0, r_l57_0, r_tl58_0, r_tl58_1, r_tl58_2, r_tl58_3, r_tl58_4, la_1, lm_1, la_2, lm_2, la_3, lm_3, la_6, lm_6, la_7, lm_7, la_8, lm_8, la_13, lm_13, la_19, lm_19, la_25, lm_25, la_33, lm_33, la_41, lm_41, la_49, lm_49, la_57, lm_57, la_60, lm_60, la_105, lm_105, la_107, lm_107, la_1508, lm_1508, la_96, lm_96, la_377, lm_377, la_1509, lm_1509, bd_bd, bd_rt, bd_ite, ap_ite, ap_rt, ite_some, nI_add, nI_1, rY_c, e0, if_pos (Int32.le_refl (nI P))]
