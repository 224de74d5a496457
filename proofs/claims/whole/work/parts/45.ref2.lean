/-! Part 45: numbers within bounds; the reference's small methods -/
def w_in (x a b : Int32) : Int32 := if x < a then 0 else if b < x then 0 else 1
def w_at (x : Int32) (P : Nat) : Int32 := if x < 0 then 0 else if nI P ≤ x then 0 else 1
theorem w_in_b (x a b : Int32) : w_in x a b = 0 ∨ w_in x a b = 1 := by unfold w_in; split <;> (try split) <;> simp
theorem w_at_b (x : Int32) (P : Nat) : w_at x P = 0 ∨ w_at x P = 1 := by unfold w_at; split <;> (try split) <;> simp
theorem w_in_at {P : Nat} (h : P ≤ 256) (x : Int32) : w_in x 0 (nI P - 1) = w_at x P := by
  unfold w_in w_at
  split
  · rfl
  · have h1 : (nI P - 1 < x) = (nI P ≤ x) := by
      apply propext
      have h2 : (nI P - 1).toInt = (P : Int) - 1 := by
        rw [Int32.toInt_sub, nI_toInt (by omega)]
        show Int.bmod ((P : Int) - 1) (2 ^ 32) = _
        simp only [Int.bmod]
        omega
      rw [Int32.lt_iff_toInt_lt, Int32.le_iff_toInt_le, h2, nI_toInt (by omega)]
      omega
    simp only [h1]
theorem w_at_cases (x : Int32) {P : Nat} (h : P < 2 ^ 31) : w_at x P = 0 ∨ ∃ p, p < P ∧ x = nI p ∧ w_at x P = 1 := by
  unfold w_at
  by_cases h0 : x < 0
  · left; simp [h0]
  · obtain ⟨j, hj, rfl⟩ := nI_of h0
    by_cases h1 : P ≤ j
    · left
      rw [if_neg h0, if_pos (nI_le h1 hj)]
    · right
      exact ⟨j, by omega, rfl, by rw [if_neg h0, if_neg (nI_ge (by omega) h)]⟩
theorem w_at_1 {p P : Nat} (hp : p < P) (h : P < 2 ^ 31) : w_at (nI p) P = 1 := by
  unfold w_at
  rw [if_neg (nI_pos (by omega)), if_neg (nI_ge hp h)]
theorem w_in_cases {x : Int32} {A B : Nat} (hB : B < 2 ^ 31) (hA : A < 2 ^ 31) : w_in x (nI A) (nI B) = 0 ∨ ∃ p, A ≤ p ∧ p ≤ B ∧ x = nI p ∧ w_in x (nI A) (nI B) = 1 := by
  unfold w_in
  by_cases h0 : x < nI A
  · left; simp [h0]
  · have h00 : ¬ x < 0 := by
      intro h
      apply h0
      rw [Int32.lt_iff_toInt_lt] at h ⊢
      rw [nI_toInt hA]
      have : (0 : Int32).toInt = 0 := rfl
      omega
    obtain ⟨j, hj, rfl⟩ := nI_of h00
    by_cases h1 : B < j
    · left
      rw [if_neg h0, if_pos (nI_lt h1 hj)]
    · right
      refine ⟨j, ?_, by omega, rfl, by rw [if_neg h0, if_neg (nI_nlt (by omega) hB)]⟩
      rw [nI_ltI hj hA] at h0
      omega
theorem b10 (c : Prop) [Decidable c] : ((if c then (1 : Int32) else 0) = 0) = ¬ c := by by_cases h : c <;> simp [h]
theorem b01 (c : Prop) [Decidable c] : ((if c then (0 : Int32) else 1) = 0) = c := by by_cases h : c <;> simp [h]
theorem n10 : ((1 : Int32) = 0) = False := by decide
theorem n_m1 : ((-1 : Int32) = 0) = False := by decide
section RI
variable {α : Type} {μ : mM}
theorem bd_isIn (x a b : Int32) (K : Int32 → mP α) : m_bd (fn_M_isIn x.toInt64 a.toInt64 b.toInt64) K μ = K (w_in x a b) μ := by
  unfold fn_M_isIn w_in
  have h1 : (lg_cmp x.toInt64 a.toInt64 < 0) = (x < a) := by
    apply propext
    rw [lg_cmp_lt, Int64.lt_iff_toInt_lt, Int32.lt_iff_toInt_lt, Int32.toInt_toInt64, Int32.toInt_toInt64]
  have h2 : (0 < lg_cmp x.toInt64 b.toInt64) = (b < x) := by
    apply propext
    rw [lg_cmp_gt, Int64.lt_iff_toInt_lt, Int32.lt_iff_toInt_lt, Int32.toInt_toInt64, Int32.toInt_toInt64]
  simp only [h1, h2, bd_bd, bd_rt, bd_ite, ap_ite, ap_rt, ite_some]
  split
  · rfl
  · split <;> rfl
theorem bd_in_0_3 (x : Int32) (K : Int32 → mP α) : m_bd (fn_M_isIn x.toInt64 0 3) K μ = K (w_in x 0 3) μ := bd_isIn x 0 3 K
theorem bd_in_0_11 (x : Int32) (K : Int32 → mP α) : m_bd (fn_M_isIn x.toInt64 0 11) K μ = K (w_in x 0 11) μ := bd_isIn x 0 11 K
theorem bd_in_0_4 (x : Int32) (K : Int32 → mP α) : m_bd (fn_M_isIn x.toInt64 0 4) K μ = K (w_in x 0 4) μ := bd_isIn x 0 4 K
theorem bd_in_0_6 (x : Int32) (K : Int32 → mP α) : m_bd (fn_M_isIn x.toInt64 0 6) K μ = K (w_in x 0 6) μ := bd_isIn x 0 6 K
theorem bd_in_1_99 (x : Int32) (K : Int32 → mP α) : m_bd (fn_M_isIn x.toInt64 1 99) K μ = K (w_in x 1 99) μ := bd_isIn x 1 99 K
theorem bd_in_0_9 (x : Int32) (K : Int32 → mP α) : m_bd (fn_M_isIn x.toInt64 0 9) K μ = K (w_in x 0 9) μ := bd_isIn x 0 9 K
theorem bd_in_1_999 (x : Int32) (K : Int32 → mP α) : m_bd (fn_M_isIn x.toInt64 1 999) K μ = K (w_in x 1 999) μ := bd_isIn x 1 999 K
theorem bd_in_0_119 (x : Int32) (K : Int32 → mP α) : m_bd (fn_M_isIn x.toInt64 0 119) K μ = K (w_in x 0 119) μ := bd_isIn x 0 119 K
theorem bd_in_2_5 (x : Int32) (K : Int32 → mP α) : m_bd (fn_M_isIn x.toInt64 2 5) K μ = K (w_in x 2 5) μ := bd_isIn x 2 5 K
theorem bd_in_0_200 (x : Int32) (K : Int32 → mP α) : m_bd (fn_M_isIn x.toInt64 0 200) K μ = K (w_in x 0 200) μ := bd_isIn x 0 200 K
theorem bd_in_0_50 (x : Int32) (K : Int32 → mP α) : m_bd (fn_M_isIn x.toInt64 0 50) K μ = K (w_in x 0 50) μ := bd_isIn x 0 50 K
theorem bd_in_0_8 (x : Int32) (K : Int32 → mP α) : m_bd (fn_M_isIn x.toInt64 0 8) K μ = K (w_in x 0 8) μ := bd_isIn x 0 8 K
theorem bd_in_0_20 (x : Int32) (K : Int32 → mP α) : m_bd (fn_M_isIn x.toInt64 0 20) K μ = K (w_in x 0 20) μ := bd_isIn x 0 20 K
theorem bd_in_0_10 (x : Int32) (K : Int32 → mP α) : m_bd (fn_M_isIn x.toInt64 0 10) K μ = K (w_in x 0 10) μ := bd_isIn x 0 10 K
theorem bd_in_1_20 (x : Int32) (K : Int32 → mP α) : m_bd (fn_M_isIn x.toInt64 1 20) K μ = K (w_in x 1 20) μ := bd_isIn x 1 20 K
theorem bd_in_0_9999 (x : Int32) (K : Int32 → mP α) : m_bd (fn_M_isIn x.toInt64 0 9999) K μ = K (w_in x 0 9999) μ := bd_isIn x 0 9999 K
theorem bd_in_0 (x b : Int32) (K : Int32 → mP α) : m_bd (fn_M_isIn x.toInt64 0 b.toInt64) K μ = K (w_in x 0 b) μ := bd_isIn x 0 b K
end RI
theorem bd_within {α : Type} {μ : mM} (x a b : Int32) (K : Int32 → mP α) : m_bd (fn_C_isWithin x a b) K μ = K (w_in x a b) μ := by
  unfold fn_C_isWithin w_in
  simp only [bd_bd, bd_rt, bd_ite, ap_ite, ap_rt, ite_some]
  split
  · rfl
  · split <;> rfl
theorem i_lov_eq (c : Nat → Int32) (t : Nat) : ∀ n, i_lov c t n = i_lvf (i_sho c) c t n
  | 0 => rfl
  | n + 1 => by simp only [i_lov, i_lvf, i_lov_eq c t n]
section RS
variable {μ : mM} {P T : Nat} {α : Type}
theorem r_isPersonAt (hR : RefP μ) (hD : Dim (cR μ) P T) (x : Int32) : fn_M_isPersonAt (some (40, 0, 0)) x μ = some (w_at x P, μ) := by
  unfold fn_M_isPersonAt
  simp (disch := first | exact hR | exact w_in_b _ _ _ | omega) only [r_th, r_gI, r_gJ, r_pI, r_pJ, r_g41, r_g42, r_g43, r_g44, r_g45, r_g46, r_g47, r_g48, r_g49, r_g50, r_g51, r_g52, r_g53, r_g54, r_g55, r_g56, r_g57, r_g58, r_a41, r_a42, r_a43, r_a44, r_a45, r_a46, r_a47, r_a48, r_a49, r_a50, r_a51, r_a52, r_a53, r_a54, r_a55, r_a56, r_a57, r_a58, r_t41, r_t42, r_t43, r_t44, r_t45, r_t46, r_t47, r_t48, r_t49, r_t50, r_t51, r_t52, r_t53, r_t54, r_t55, r_t56, r_t57, r_t58, r_l43_0, r_l45_0, r_l45_1, r_l45_2, r_l45_3, r_l45_4, r_l45_5, r_l45_6, r_l45_105, r_l45_106, r_l45_1508, r_l45_1509, r_tl45_0, r_tl45_1, r_tl45_2, r_tl45_3, r_tl45_4, r_tl45_5, r_tl45_6, r_tl45_105, r_tl45_106, r_tl45_1508, r_tl45_1509, r_l48_0, r_l56_0, r_l57_0, r_tl58_0, r_tl58_1, r_tl58_2, r_tl58_3, r_tl58_4, la_1, lm_1, la_2, lm_2, la_3, lm_3, la_6, lm_6, la_7, lm_7, la_8, lm_8, la_13, lm_13, la_19, lm_19, la_25, lm_25, la_33, lm_33, la_41, lm_41, la_49, lm_49, la_57, lm_57, la_60, lm_60, la_105, lm_105, la_107, lm_107, la_1508, lm_1508, la_96, lm_96, la_377, lm_377, la_1509, lm_1509, bd_bd, bd_rt, bd_ite, ap_ite, ap_rt, ite_some, nI_add, nI_1, bd_in_0, bd_cz]
  rw [show m_I μ (45, 0, 0) 0 = nI P from hD.1, w_in_at (by have := hD.2.2.1; omega)]
theorem r_isThingAt (hR : RefP μ) (hD : Dim (cR μ) P T) (x : Int32) : fn_M_isThingAt (some (40, 0, 0)) x μ = some (w_at x T, μ) := by
  unfold fn_M_isThingAt
  simp (disch := first | exact hR | exact w_in_b _ _ _ | omega) only [r_th, r_gI, r_gJ, r_pI, r_pJ, r_g41, r_g42, r_g43, r_g44, r_g45, r_g46, r_g47, r_g48, r_g49, r_g50, r_g51, r_g52, r_g53, r_g54, r_g55, r_g56, r_g57, r_g58, r_a41, r_a42, r_a43, r_a44, r_a45, r_a46, r_a47, r_a48, r_a49, r_a50, r_a51, r_a52, r_a53, r_a54, r_a55, r_a56, r_a57, r_a58, r_t41, r_t42, r_t43, r_t44, r_t45, r_t46, r_t47, r_t48, r_t49, r_t50, r_t51, r_t52, r_t53, r_t54, r_t55, r_t56, r_t57, r_t58, r_l43_0, r_l45_0, r_l45_1, r_l45_2, r_l45_3, r_l45_4, r_l45_5, r_l45_6, r_l45_105, r_l45_106, r_l45_1508, r_l45_1509, r_tl45_0, r_tl45_1, r_tl45_2, r_tl45_3, r_tl45_4, r_tl45_5, r_tl45_6, r_tl45_105, r_tl45_106, r_tl45_1508, r_tl45_1509, r_l48_0, r_l56_0, r_l57_0, r_tl58_0, r_tl58_1, r_tl58_2, r_tl58_3, r_tl58_4, la_1, lm_1, la_2, lm_2, la_3, lm_3, la_6, lm_6, la_7, lm_7, la_8, lm_8, la_13, lm_13, la_19, lm_19, la_25, lm_25, la_33, lm_33, la_41, lm_41, la_49, lm_49, la_57, lm_57, la_60, lm_60, la_105, lm_105, la_107, lm_107, la_1508, lm_1508, la_96, lm_96, la_377, lm_377, la_1509, lm_1509, bd_bd, bd_rt, bd_ite, ap_ite, ap_rt, ite_some, nI_add, nI_1, bd_in_0, bd_cz]
  rw [show m_I μ (45, 0, 0) 1 = nI T from hD.2.1, w_in_at (by have := hD.2.2.2; omega)]
theorem r_refuse (hR : RefP μ) (x : Int32) : fn_M_refuse (some (40, 0, 0)) x μ = some (-1, m_sI μ (40, 0, 0) 0 x) := by
  unfold fn_M_refuse
  simp (disch := first | exact hR | omega) only [r_th, r_gI, r_gJ, r_pI, r_pJ, r_g41, r_g42, r_g43, r_g44, r_g45, r_g46, r_g47, r_g48, r_g49, r_g50, r_g51, r_g52, r_g53, r_g54, r_g55, r_g56, r_g57, r_g58, r_a41, r_a42, r_a43, r_a44, r_a45, r_a46, r_a47, r_a48, r_a49, r_a50, r_a51, r_a52, r_a53, r_a54, r_a55, r_a56, r_a57, r_a58, r_t41, r_t42, r_t43, r_t44, r_t45, r_t46, r_t47, r_t48, r_t49, r_t50, r_t51, r_t52, r_t53, r_t54, r_t55, r_t56, r_t57, r_t58, r_l43_0, r_l45_0, r_l45_1, r_l45_2, r_l45_3, r_l45_4, r_l45_5, r_l45_6, r_l45_105, r_l45_106, r_l45_1508, r_l45_1509, r_tl45_0, r_tl45_1, r_tl45_2, r_tl45_3, r_tl45_4, r_tl45_5, r_tl45_6, r_tl45_105, r_tl45_106, r_tl45_1508, r_tl45_1509, r_l48_0, r_l56_0, r_l57_0, r_tl58_0, r_tl58_1, r_tl58_2, r_tl58_3, r_tl58_4, la_1, lm_1, la_2, lm_2, la_3, lm_3, la_6, lm_6, la_7, lm_7, la_8, lm_8, la_13, lm_13, la_19, lm_19, la_25, lm_25, la_33, lm_33, la_41, lm_41, la_49, lm_49, la_57, lm_57, la_60, lm_60, la_105, lm_105, la_107, lm_107, la_1508, lm_1508, la_96, lm_96, la_377, lm_377, la_1509, lm_1509, bd_bd, bd_rt, bd_ite, ap_ite, ap_rt, ite_some, nI_add, nI_1]
theorem r_no (hR : RefP μ) (x : Int32) : fn_M_no (some (40, 0, 0)) x μ = some (0, m_sI μ (40, 0, 0) 0 x) := by
  unfold fn_M_no
  simp (disch := first | exact hR | omega) only [r_th, r_gI, r_gJ, r_pI, r_pJ, r_g41, r_g42, r_g43, r_g44, r_g45, r_g46, r_g47, r_g48, r_g49, r_g50, r_g51, r_g52, r_g53, r_g54, r_g55, r_g56, r_g57, r_g58, r_a41, r_a42, r_a43, r_a44, r_a45, r_a46, r_a47, r_a48, r_a49, r_a50, r_a51, r_a52, r_a53, r_a54, r_a55, r_a56, r_a57, r_a58, r_t41, r_t42, r_t43, r_t44, r_t45, r_t46, r_t47, r_t48, r_t49, r_t50, r_t51, r_t52, r_t53, r_t54, r_t55, r_t56, r_t57, r_t58, r_l43_0, r_l45_0, r_l45_1, r_l45_2, r_l45_3, r_l45_4, r_l45_5, r_l45_6, r_l45_105, r_l45_106, r_l45_1508, r_l45_1509, r_tl45_0, r_tl45_1, r_tl45_2, r_tl45_3, r_tl45_4, r_tl45_5, r_tl45_6, r_tl45_105, r_tl45_106, r_tl45_1508, r_tl45_1509, r_l48_0, r_l56_0, r_l57_0, r_tl58_0, r_tl58_1, r_tl58_2, r_tl58_3, r_tl58_4, la_1, lm_1, la_2, lm_2, la_3, lm_3, la_6, lm_6, la_7, lm_7, la_8, lm_8, la_13, lm_13, la_19, lm_19, la_25, lm_25, la_33, lm_33, la_41, lm_41, la_49, lm_49, la_57, lm_57, la_60, lm_60, la_105, lm_105, la_107, lm_107, la_1508, lm_1508, la_96, lm_96, la_377, lm_377, la_1509, lm_1509, bd_bd, bd_rt, bd_ite, ap_ite, ap_rt, ite_some, nI_add, nI_1]
theorem r_lovedOf' {t : Nat} (hR : RefP μ) (hD : Dim (cR μ) P T) (ht : t < 8) : fn_M_lovedOf (some (40, 0, 0)) (nI t) μ = some (i_lvf (i_sho (cR μ)) (cR μ) t P, μ) := by
  rw [r_lovedOf hR hD.1 hD.2.2.1 ht, i_lov_eq]
theorem r_showing (hR : RefP μ) (hD : Dim (cR μ) P T) : fn_M_showing (some (40, 0, 0)) μ = some (i_set (i_sho (cR μ)) P, μ) := by
  obtain ⟨hP0, hT0, hP6, hT8⟩ := id hD
  unfold fn_M_showing
  rw [r_th hR]
  have h := lp_nat (body := fn_M_showing_l4 (some (40, 0, 0))) (fun i => (i_set (i_sho (cR μ)) i, nI i)) (fun _ => μ) P (x := i_set (i_sho (cR μ)) P) (μe := μ) (fun i hi => ?_) ?_ (F := m_F) (by have := F_gt; omega)
  · exact (bd_of h).trans rfl
  · unfold fn_M_showing_l4
    simp (disch := first | exact hR | omega) only [r_th, r_gI, r_gJ, r_pI, r_pJ, r_g41, r_g42, r_g43, r_g44, r_g45, r_g46, r_g47, r_g48, r_g49, r_g50, r_g51, r_g52, r_g53, r_g54, r_g55, r_g56, r_g57, r_g58, r_a41, r_a42, r_a43, r_a44, r_a45, r_a46, r_a47, r_a48, r_a49, r_a50, r_a51, r_a52, r_a53, r_a54, r_a55, r_a56, r_a57, r_a58, r_t41, r_t42, r_t43, r_t44, r_t45, r_t46, r_t47, r_t48, r_t49, r_t50, r_t51, r_t52, r_t53, r_t54, r_t55, r_t56, r_t57, r_t58, r_l43_0, r_l45_0, r_l45_1, r_l45_2, r_l45_3, r_l45_4, r_l45_5, r_l45_6, r_l45_105, r_l45_106, r_l45_1508, r_l45_1509, r_tl45_0, r_tl45_1, r_tl45_2, r_tl45_3, r_tl45_4, r_tl45_5, r_tl45_6, r_tl45_105, r_tl45_106, r_tl45_1508, r_tl45_1509, r_l48_0, r_l56_0, r_l57_0, r_tl58_0, r_tl58_1, r_tl58_2, r_tl58_3, r_tl58_4, la_1, lm_1, la_2, lm_2, la_3, lm_3, la_6, lm_6, la_7, lm_7, la_8, lm_8, la_13, lm_13, la_19, lm_19, la_25, lm_25, la_33, lm_33, la_41, lm_41, la_49, lm_49, la_57, lm_57, la_60, lm_60, la_105, lm_105, la_107, lm_107, la_1508, lm_1508, la_96, lm_96, la_377, lm_377, la_1509, lm_1509, bd_bd, bd_rt, bd_ite, ap_ite, ap_rt, ite_some, nI_add, nI_1, bd_of (r_showsNow hR (show i < 6 by omega)), i_set, hP0, if_neg (nI_ge hi (show P < 2 ^ 31 by omega))]
    try (split <;> rename_i hq <;> simp [hq])
  · unfold fn_M_showing_l4
    simp (disch := first | exact hR | omega) only [r_th, r_gI, r_gJ, r_pI, r_pJ, r_g41, r_g42, r_g43, r_g44, r_g45, r_g46, r_g47, r_g48, r_g49, r_g50, r_g51, r_g52, r_g53, r_g54, r_g55, r_g56, r_g57, r_g58, r_a41, r_a42, r_a43, r_a44, r_a45, r_a46, r_a47, r_a48, r_a49, r_a50, r_a51, r_a52, r_a53, r_a54, r_a55, r_a56, r_a57, r_a58, r_t41, r_t42, r_t43, r_t44, r_t45, r_t46, r_t47, r_t48, r_t49, r_t50, r_t51, r_t52, r_t53, r_t54, r_t55, r_t56, r_t57, r_t58, r_l43_0, r_l45_0, r_l45_1, r_l45_2, r_l45_3, r_l45_4, r_l45_5, r_l45_6, r_l45_105, r_l45_106, r_l45_1508, r_l45_1509, r_tl45_0, r_tl45_1, r_tl45_2, r_tl45_3, r_tl45_4, r_tl45_5, r_tl45_6, r_tl45_105, r_tl45_106, r_tl45_1508, r_tl45_1509, r_l48_0, r_l56_0, r_l57_0, r_tl58_0, r_tl58_1, r_tl58_2, r_tl58_3, r_tl58_4, la_1, lm_1, la_2, lm_2, la_3, lm_3, la_6, lm_6, la_7, lm_7, la_8, lm_8, la_13, lm_13, la_19, lm_19, la_25, lm_25, la_33, lm_33, la_41, lm_41, la_49, lm_49, la_57, lm_57, la_60, lm_60, la_105, lm_105, la_107, lm_107, la_1508, lm_1508, la_96, lm_96, la_377, lm_377, la_1509, lm_1509, bd_bd, bd_rt, bd_ite, ap_ite, ap_rt, ite_some, nI_add, nI_1, hP0, if_pos (Int32.le_refl (nI P))]
theorem r_throughs (hR : RefP μ) (hD : Dim (cR μ) P T) : fn_M_throughs (some (40, 0, 0)) μ = some (i_set (i_thr (cR μ)) T, μ) := by
  obtain ⟨hP0, hT0, hP6, hT8⟩ := id hD
  unfold fn_M_throughs
  rw [r_th hR]
  have h := lp_nat (body := fn_M_throughs_l4 (some (40, 0, 0))) (fun i => (i_set (i_thr (cR μ)) i, nI i)) (fun _ => μ) T (x := i_set (i_thr (cR μ)) T) (μe := μ) (fun i hi => ?_) ?_ (F := m_F) (by have := F_gt; omega)
  · exact (bd_of h).trans rfl
  · unfold fn_M_throughs_l4
    simp (disch := first | exact hR | omega) only [r_th, r_gI, r_gJ, r_pI, r_pJ, r_g41, r_g42, r_g43, r_g44, r_g45, r_g46, r_g47, r_g48, r_g49, r_g50, r_g51, r_g52, r_g53, r_g54, r_g55, r_g56, r_g57, r_g58, r_a41, r_a42, r_a43, r_a44, r_a45, r_a46, r_a47, r_a48, r_a49, r_a50, r_a51, r_a52, r_a53, r_a54, r_a55, r_a56, r_a57, r_a58, r_t41, r_t42, r_t43, r_t44, r_t45, r_t46, r_t47, r_t48, r_t49, r_t50, r_t51, r_t52, r_t53, r_t54, r_t55, r_t56, r_t57, r_t58, r_l43_0, r_l45_0, r_l45_1, r_l45_2, r_l45_3, r_l45_4, r_l45_5, r_l45_6, r_l45_105, r_l45_106, r_l45_1508, r_l45_1509, r_tl45_0, r_tl45_1, r_tl45_2, r_tl45_3, r_tl45_4, r_tl45_5, r_tl45_6, r_tl45_105, r_tl45_106, r_tl45_1508, r_tl45_1509, r_l48_0, r_l56_0, r_l57_0, r_tl58_0, r_tl58_1, r_tl58_2, r_tl58_3, r_tl58_4, la_1, lm_1, la_2, lm_2, la_3, lm_3, la_6, lm_6, la_7, lm_7, la_8, lm_8, la_13, lm_13, la_19, lm_19, la_25, lm_25, la_33, lm_33, la_41, lm_41, la_49, lm_49, la_57, lm_57, la_60, lm_60, la_105, lm_105, la_107, lm_107, la_1508, lm_1508, la_96, lm_96, la_377, lm_377, la_1509, lm_1509, bd_bd, bd_rt, bd_ite, ap_ite, ap_rt, ite_some, nI_add, nI_1, bd_of (r_isThrough hR (show i < 8 by omega)), i_set, hT0, if_neg (nI_ge hi (show T < 2 ^ 31 by omega))]
    try (split <;> rename_i hq <;> simp [hq])
  · unfold fn_M_throughs_l4
    simp (disch := first | exact hR | omega) only [r_th, r_gI, r_gJ, r_pI, r_pJ, r_g41, r_g42, r_g43, r_g44, r_g45, r_g46, r_g47, r_g48, r_g49, r_g50, r_g51, r_g52, r_g53, r_g54, r_g55, r_g56, r_g57, r_g58, r_a41, r_a42, r_a43, r_a44, r_a45, r_a46, r_a47, r_a48, r_a49, r_a50, r_a51, r_a52, r_a53, r_a54, r_a55, r_a56, r_a57, r_a58, r_t41, r_t42, r_t43, r_t44, r_t45, r_t46, r_t47, r_t48, r_t49, r_t50, r_t51, r_t52, r_t53, r_t54, r_t55, r_t56, r_t57, r_t58, r_l43_0, r_l45_0, r_l45_1, r_l45_2, r_l45_3, r_l45_4, r_l45_5, r_l45_6, r_l45_105, r_l45_106, r_l45_1508, r_l45_1509, r_tl45_0, r_tl45_1, r_tl45_2, r_tl45_3, r_tl45_4, r_tl45_5, r_tl45_6, r_tl45_105, r_tl45_106, r_tl45_1508, r_tl45_1509, r_l48_0, r_l56_0, r_l57_0, r_tl58_0, r_tl58_1, r_tl58_2, r_tl58_3, r_tl58_4, la_1, lm_1, la_2, lm_2, la_3, lm_3, la_6, lm_6, la_7, lm_7, la_8, lm_8, la_13, lm_13, la_19, lm_19, la_25, lm_25, la_33, lm_33, la_41, lm_41, la_49, lm_49, la_57, lm_57, la_60, lm_60, la_105, lm_105, la_107, lm_107, la_1508, lm_1508, la_96, lm_96, la_377, lm_377, la_1509, lm_1509, bd_bd, bd_rt, bd_ite, ap_ite, ap_rt, ite_some, nI_add, nI_1, hT0, if_pos (Int32.le_refl (nI T))]
theorem r_oiled (hR : RefP μ) (hD : Dim (cR μ) P T) : fn_M_oiled (some (40, 0, 0)) μ = some (i_set (f_oil (cR μ)) T, μ) := by
  obtain ⟨hP0, hT0, hP6, hT8⟩ := id hD
  unfold fn_M_oiled
  rw [r_th hR]
  have h := lp_nat (body := fn_M_oiled_l4 (some (40, 0, 0))) (fun i => (i_set (f_oil (cR μ)) i, nI i)) (fun _ => μ) T (x := i_set (f_oil (cR μ)) T) (μe := μ) (fun i hi => ?_) ?_ (F := m_F) (by have := F_gt; omega)
  · exact (bd_of h).trans rfl
  · unfold fn_M_oiled_l4
    simp (disch := first | exact hR | omega) only [r_th, r_gI, r_gJ, r_pI, r_pJ, r_g41, r_g42, r_g43, r_g44, r_g45, r_g46, r_g47, r_g48, r_g49, r_g50, r_g51, r_g52, r_g53, r_g54, r_g55, r_g56, r_g57, r_g58, r_a41, r_a42, r_a43, r_a44, r_a45, r_a46, r_a47, r_a48, r_a49, r_a50, r_a51, r_a52, r_a53, r_a54, r_a55, r_a56, r_a57, r_a58, r_t41, r_t42, r_t43, r_t44, r_t45, r_t46, r_t47, r_t48, r_t49, r_t50, r_t51, r_t52, r_t53, r_t54, r_t55, r_t56, r_t57, r_t58, r_l43_0, r_l45_0, r_l45_1, r_l45_2, r_l45_3, r_l45_4, r_l45_5, r_l45_6, r_l45_105, r_l45_106, r_l45_1508, r_l45_1509, r_tl45_0, r_tl45_1, r_tl45_2, r_tl45_3, r_tl45_4, r_tl45_5, r_tl45_6, r_tl45_105, r_tl45_106, r_tl45_1508, r_tl45_1509, r_l48_0, r_l56_0, r_l57_0, r_tl58_0, r_tl58_1, r_tl58_2, r_tl58_3, r_tl58_4, la_1, lm_1, la_2, lm_2, la_3, lm_3, la_6, lm_6, la_7, lm_7, la_8, lm_8, la_13, lm_13, la_19, lm_19, la_25, lm_25, la_33, lm_33, la_41, lm_41, la_49, lm_49, la_57, lm_57, la_60, lm_60, la_105, lm_105, la_107, lm_107, la_1508, lm_1508, la_96, lm_96, la_377, lm_377, la_1509, lm_1509, bd_bd, bd_rt, bd_ite, ap_ite, ap_rt, ite_some, nI_add, nI_1, i_set, f_oil, b01, hT0, if_neg (nI_ge hi (show T < 2 ^ 31 by omega))]
    try (split <;> rename_i hq <;> simp [hq])
  · unfold fn_M_oiled_l4
    simp (disch := first | exact hR | omega) only [r_th, r_gI, r_gJ, r_pI, r_pJ, r_g41, r_g42, r_g43, r_g44, r_g45, r_g46, r_g47, r_g48, r_g49, r_g50, r_g51, r_g52, r_g53, r_g54, r_g55, r_g56, r_g57, r_g58, r_a41, r_a42, r_a43, r_a44, r_a45, r_a46, r_a47, r_a48, r_a49, r_a50, r_a51, r_a52, r_a53, r_a54, r_a55, r_a56, r_a57, r_a58, r_t41, r_t42, r_t43, r_t44, r_t45, r_t46, r_t47, r_t48, r_t49, r_t50, r_t51, r_t52, r_t53, r_t54, r_t55, r_t56, r_t57, r_t58, r_l43_0, r_l45_0, r_l45_1, r_l45_2, r_l45_3, r_l45_4, r_l45_5, r_l45_6, r_l45_105, r_l45_106, r_l45_1508, r_l45_1509, r_tl45_0, r_tl45_1, r_tl45_2, r_tl45_3, r_tl45_4, r_tl45_5, r_tl45_6, r_tl45_105, r_tl45_106, r_tl45_1508, r_tl45_1509, r_l48_0, r_l56_0, r_l57_0, r_tl58_0, r_tl58_1, r_tl58_2, r_tl58_3, r_tl58_4, la_1, lm_1, la_2, lm_2, la_3, lm_3, la_6, lm_6, la_7, lm_7, la_8, lm_8, la_13, lm_13, la_19, lm_19, la_25, lm_25, la_33, lm_33, la_41, lm_41, la_49, lm_49, la_57, lm_57, la_60, lm_60, la_105, lm_105, la_107, lm_107, la_1508, lm_1508, la_96, lm_96, la_377, lm_377, la_1509, lm_1509, bd_bd, bd_rt, bd_ite, ap_ite, ap_rt, ite_some, nI_add, nI_1, hT0, if_pos (Int32.le_refl (nI T))]
theorem r_allRust (hR : RefP μ) (hD : Dim (cR μ) P T) : fn_M_allRust (some (40, 0, 0)) μ = some (i_sum (fun t => cR μ (41 + t)) T, μ) := by
  obtain ⟨hP0, hT0, hP6, hT8⟩ := id hD
  unfold fn_M_allRust
  rw [r_th hR]
  have h := lp_nat (body := fn_M_allRust_l4 (some (40, 0, 0))) (fun i => (i_sum (fun t => cR μ (41 + t)) i, nI i)) (fun _ => μ) T (x := i_sum (fun t => cR μ (41 + t)) T) (μe := μ) (fun i hi => ?_) ?_ (F := m_F) (by have := F_gt; omega)
  · exact (bd_of h).trans rfl
  · unfold fn_M_allRust_l4
    simp (disch := first | exact hR | omega) only [r_th, r_gI, r_gJ, r_pI, r_pJ, r_g41, r_g42, r_g43, r_g44, r_g45, r_g46, r_g47, r_g48, r_g49, r_g50, r_g51, r_g52, r_g53, r_g54, r_g55, r_g56, r_g57, r_g58, r_a41, r_a42, r_a43, r_a44, r_a45, r_a46, r_a47, r_a48, r_a49, r_a50, r_a51, r_a52, r_a53, r_a54, r_a55, r_a56, r_a57, r_a58, r_t41, r_t42, r_t43, r_t44, r_t45, r_t46, r_t47, r_t48, r_t49, r_t50, r_t51, r_t52, r_t53, r_t54, r_t55, r_t56, r_t57, r_t58, r_l43_0, r_l45_0, r_l45_1, r_l45_2, r_l45_3, r_l45_4, r_l45_5, r_l45_6, r_l45_105, r_l45_106, r_l45_1508, r_l45_1509, r_tl45_0, r_tl45_1, r_tl45_2, r_tl45_3, r_tl45_4, r_tl45_5, r_tl45_6, r_tl45_105, r_tl45_106, r_tl45_1508, r_tl45_1509, r_l48_0, r_l56_0, r_l57_0, r_tl58_0, r_tl58_1, r_tl58_2, r_tl58_3, r_tl58_4, la_1, lm_1, la_2, lm_2, la_3, lm_3, la_6, lm_6, la_7, lm_7, la_8, lm_8, la_13, lm_13, la_19, lm_19, la_25, lm_25, la_33, lm_33, la_41, lm_41, la_49, lm_49, la_57, lm_57, la_60, lm_60, la_105, lm_105, la_107, lm_107, la_1508, lm_1508, la_96, lm_96, la_377, lm_377, la_1509, lm_1509, bd_bd, bd_rt, bd_ite, ap_ite, ap_rt, ite_some, nI_add, nI_1, i_sum, hT0, if_neg (nI_ge hi (show T < 2 ^ 31 by omega))]
    try (split <;> rename_i hq <;> simp [hq])
  · unfold fn_M_allRust_l4
    simp (disch := first | exact hR | omega) only [r_th, r_gI, r_gJ, r_pI, r_pJ, r_g41, r_g42, r_g43, r_g44, r_g45, r_g46, r_g47, r_g48, r_g49, r_g50, r_g51, r_g52, r_g53, r_g54, r_g55, r_g56, r_g57, r_g58, r_a41, r_a42, r_a43, r_a44, r_a45, r_a46, r_a47, r_a48, r_a49, r_a50, r_a51, r_a52, r_a53, r_a54, r_a55, r_a56, r_a57, r_a58, r_t41, r_t42, r_t43, r_t44, r_t45, r_t46, r_t47, r_t48, r_t49, r_t50, r_t51, r_t52, r_t53, r_t54, r_t55, r_t56, r_t57, r_t58, r_l43_0, r_l45_0, r_l45_1, r_l45_2, r_l45_3, r_l45_4, r_l45_5, r_l45_6, r_l45_105, r_l45_106, r_l45_1508, r_l45_1509, r_tl45_0, r_tl45_1, r_tl45_2, r_tl45_3, r_tl45_4, r_tl45_5, r_tl45_6, r_tl45_105, r_tl45_106, r_tl45_1508, r_tl45_1509, r_l48_0, r_l56_0, r_l57_0, r_tl58_0, r_tl58_1, r_tl58_2, r_tl58_3, r_tl58_4, la_1, lm_1, la_2, lm_2, la_3, lm_3, la_6, lm_6, la_7, lm_7, la_8, lm_8, la_13, lm_13, la_19, lm_19, la_25, lm_25, la_33, lm_33, la_41, lm_41, la_49, lm_49, la_57, lm_57, la_60, lm_60, la_105, lm_105, la_107, lm_107, la_1508, lm_1508, la_96, lm_96, la_377, lm_377, la_1509, lm_1509, bd_bd, bd_rt, bd_ite, ap_ite, ap_rt, ite_some, nI_add, nI_1, hT0, if_pos (Int32.le_refl (nI T))]
theorem r_lovedThings {p : Nat} (hR : RefP μ) (hD : Dim (cR μ) P T) (hp : p < P) : fn_M_lovedThings (some (40, 0, 0)) (nI p) μ = some (i_set (f_lov (cR μ) p) T, μ) := by
  obtain ⟨hP0, hT0, hP6, hT8⟩ := id hD
  unfold fn_M_lovedThings
  rw [r_th hR]
  have h := lp_nat (body := fn_M_lovedThings_l4 (some (40, 0, 0)) (nI p)) (fun i => (i_set (f_lov (cR μ) p) i, nI i)) (fun _ => μ) T (x := i_set (f_lov (cR μ) p) T) (μe := μ) (fun i hi => ?_) ?_ (F := m_F) (by have := F_gt; omega)
  · exact (bd_of h).trans rfl
  · unfold fn_M_lovedThings_l4
    simp (disch := first | exact hR | omega) only [r_th, r_gI, r_gJ, r_pI, r_pJ, r_g41, r_g42, r_g43, r_g44, r_g45, r_g46, r_g47, r_g48, r_g49, r_g50, r_g51, r_g52, r_g53, r_g54, r_g55, r_g56, r_g57, r_g58, r_a41, r_a42, r_a43, r_a44, r_a45, r_a46, r_a47, r_a48, r_a49, r_a50, r_a51, r_a52, r_a53, r_a54, r_a55, r_a56, r_a57, r_a58, r_t41, r_t42, r_t43, r_t44, r_t45, r_t46, r_t47, r_t48, r_t49, r_t50, r_t51, r_t52, r_t53, r_t54, r_t55, r_t56, r_t57, r_t58, r_l43_0, r_l45_0, r_l45_1, r_l45_2, r_l45_3, r_l45_4, r_l45_5, r_l45_6, r_l45_105, r_l45_106, r_l45_1508, r_l45_1509, r_tl45_0, r_tl45_1, r_tl45_2, r_tl45_3, r_tl45_4, r_tl45_5, r_tl45_6, r_tl45_105, r_tl45_106, r_tl45_1508, r_tl45_1509, r_l48_0, r_l56_0, r_l57_0, r_tl58_0, r_tl58_1, r_tl58_2, r_tl58_3, r_tl58_4, la_1, lm_1, la_2, lm_2, la_3, lm_3, la_6, lm_6, la_7, lm_7, la_8, lm_8, la_13, lm_13, la_19, lm_19, la_25, lm_25, la_33, lm_33, la_41, lm_41, la_49, lm_49, la_57, lm_57, la_60, lm_60, la_105, lm_105, la_107, lm_107, la_1508, lm_1508, la_96, lm_96, la_377, lm_377, la_1509, lm_1509, bd_bd, bd_rt, bd_ite, ap_ite, ap_rt, ite_some, nI_add, nI_1, bd_of (r_loveOf hR (show p < 6 by omega) (show i < 8 by omega)), i_set, f_lov, b01, hT0, if_neg (nI_ge hi (show T < 2 ^ 31 by omega))]
    try (split <;> rename_i hq <;> simp [hq])
  · unfold fn_M_lovedThings_l4
    simp (disch := first | exact hR | omega) only [r_th, r_gI, r_gJ, r_pI, r_pJ, r_g41, r_g42, r_g43, r_g44, r_g45, r_g46, r_g47, r_g48, r_g49, r_g50, r_g51, r_g52, r_g53, r_g54, r_g55, r_g56, r_g57, r_g58, r_a41, r_a42, r_a43, r_a44, r_a45, r_a46, r_a47, r_a48, r_a49, r_a50, r_a51, r_a52, r_a53, r_a54, r_a55, r_a56, r_a57, r_a58, r_t41, r_t42, r_t43, r_t44, r_t45, r_t46, r_t47, r_t48, r_t49, r_t50, r_t51, r_t52, r_t53, r_t54, r_t55, r_t56, r_t57, r_t58, r_l43_0, r_l45_0, r_l45_1, r_l45_2, r_l45_3, r_l45_4, r_l45_5, r_l45_6, r_l45_105, r_l45_106, r_l45_1508, r_l45_1509, r_tl45_0, r_tl45_1, r_tl45_2, r_tl45_3, r_tl45_4, r_tl45_5, r_tl45_6, r_tl45_105, r_tl45_106, r_tl45_1508, r_tl45_1509, r_l48_0, r_l56_0, r_l57_0, r_tl58_0, r_tl58_1, r_tl58_2, r_tl58_3, r_tl58_4, la_1, lm_1, la_2, lm_2, la_3, lm_3, la_6, lm_6, la_7, lm_7, la_8, lm_8, la_13, lm_13, la_19, lm_19, la_25, lm_25, la_33, lm_33, la_41, lm_41, la_49, lm_49, la_57, lm_57, la_60, lm_60, la_105, lm_105, la_107, lm_107, la_1508, lm_1508, la_96, lm_96, la_377, lm_377, la_1509, lm_1509, bd_bd, bd_rt, bd_ite, ap_ite, ap_rt, ite_some, nI_add, nI_1, hT0, if_pos (Int32.le_refl (nI T))]
end RS
