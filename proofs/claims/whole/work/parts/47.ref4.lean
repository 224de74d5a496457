/-! Part 47: a year of the reference, whole -/
def q_bit (ru th oi l d : Int32) : Int32 := if ru < th then (if oi ≤ 0 then l * d / 4 else l * d / 4 / 2) else 0
def y_bit (c : Nat → Int32) (P t : Nat) : Int32 := q_bit (c (41 + t)) (c (25 + t)) (c (49 + t)) (i_lvf (i_sho c) c t P) (c 4)
def q_coa (co b : Int32) : Int32 := co - iMin co b
def q_rus (co ru b : Int32) : Int32 := iMin 999 (ru + b - iMin co b)
def y_bites (c : Nat → Int32) (P n : Nat) : Nat → Int32 := fun k => if 33 ≤ k ∧ k < 33 + n then q_coa (c k) (y_bit c P (k - 33)) else if 41 ≤ k ∧ k < 41 + n then q_rus (c (k - 8)) (c k) (y_bit c P (k - 41)) else if 49 ≤ k ∧ k < 49 + n then iMax 0 (c k - 1) else c k
theorem y_bites_0 (c : Nat → Int32) (P : Nat) : y_bites c P 0 = c := by
  funext k
  unfold y_bites
  rw [if_neg (by omega), if_neg (by omega), if_neg (by omega)]
theorem y_bites_s (c : Nat → Int32) (P : Nat) {n : Nat} (h : n < 8) : y_bites c P (n + 1) = ud (ud (ud (y_bites c P n) (33 + n) (q_coa (c (33 + n)) (y_bit c P n))) (41 + n) (q_rus (c (33 + n)) (c (41 + n)) (y_bit c P n))) (49 + n) (iMax 0 (c (49 + n) - 1)) := by
  funext k
  unfold ud
  by_cases h1 : k = 49 + n
  · subst h1
    simp only [y_bites]
    rw [if_neg (by omega), if_neg (by omega), if_pos (by omega), if_pos trivial]
  · rw [if_neg h1]
    by_cases h2 : k = 41 + n
    · subst h2
      simp only [y_bites]
      rw [if_neg (by omega), if_pos (by omega), if_pos trivial, show 41 + n - 8 = 33 + n by omega, show 41 + n - 41 = n by omega]
    · rw [if_neg h2]
      by_cases h3 : k = 33 + n
      · subst h3
        simp only [y_bites]
        rw [if_pos (by omega), if_pos trivial, show 33 + n - 33 = n by omega]
      · rw [if_neg h3]
        simp only [y_bites]
        by_cases h4 : 33 ≤ k ∧ k < 33 + n
        · rw [if_pos (by omega), if_pos h4]
        · rw [if_neg (by omega), if_neg h4]
          by_cases h5 : 41 ≤ k ∧ k < 41 + n
          · rw [if_pos (by omega), if_pos h5]
          · rw [if_neg (by omega), if_neg h5]
            by_cases h6 : 49 ≤ k ∧ k < 49 + n
            · rw [if_pos (by omega), if_pos h6]
            · rw [if_neg (by omega), if_neg h6]
theorem y_bites_at {c : Nat → Int32} {P n k : Nat} (h1 : ¬ (33 ≤ k ∧ k < 33 + n)) (h2 : ¬ (41 ≤ k ∧ k < 41 + n)) (h3 : ¬ (49 ≤ k ∧ k < 49 + n)) : y_bites c P n k = c k := by
  unfold y_bites
  rw [if_neg h1, if_neg h2, if_neg h3]
theorem i_sho_c {c c' : Nat → Int32} (h : ∀ k, k < 25 → c' k = c k) {p : Nat} (hp : p < 6) : i_sho c' p = i_sho c p := by
  unfold i_sho
  rw [h (19 + p) (by omega), h (13 + p) (by omega), h (7 + p) (by omega), h 2 (by omega)]
theorem i_lvf_c {c c' : Nat → Int32} (h : ∀ k, k < 25 ∨ 57 ≤ k → c' k = c k) {t n : Nat} (hn : n ≤ 6) : i_lvf (i_sho c') c' t n = i_lvf (i_sho c) c t n :=
  i_lvf_congr n (fun k hk => by rw [i_sho_c (fun j hj => h j (.inl hj)) (by omega)]) (fun k hk => h _ (.inr (by omega)))
theorem y_bites_bit {c : Nat → Int32} {P n : Nat} (hP : P ≤ 6) (hn : n < 8) : y_bit (y_bites c P n) P n = y_bit c P n := by
  unfold y_bit
  rw [i_lvf_c (c := c) (fun k hk => y_bites_at (by omega) (by omega) (by omega)) hP, y_bites_at (by omega) (by omega) (by omega), y_bites_at (by omega) (by omega) (by omega), y_bites_at (by omega) (by omega) (by omega), y_bites_at (by omega) (by omega) (by omega)]
theorem rY_rI {μ : mM} {g g' : Nat → Int32} {d : Int32} : m_rI (rY μ g d) (45, 0, 0) g' = rY μ g' d := by
  unfold rY
  rw [sr_comm, rI_rI]
section RB
variable {μ : mM} {P T : Nat}
theorem r_biteOf {t : Nat} (hR : RefP μ) (hD : Dim (cR μ) P T) (ht : t < 8) : fn_M_biteOf (some (40, 0, 0)) (nI t) μ = some (y_bit (cR μ) P t, μ) := by
  unfold fn_M_biteOf fn_M_bitten
  have e : (i_thr (cR μ) t = 0) = (cR μ (41 + t) < cR μ (25 + t)) := b01 _
  simp (disch := first | exact hR | ((repeat first | apply RefP_sI | apply RefP_rY | apply RefP_rI | apply RefP_sJ | apply RefP_rJ); exact hR) | omega) only [r_th, r_gI, r_gJ, r_pI, r_pJ, r_g41, r_g42, r_g43, r_g44, r_g45, r_g46, r_g47, r_g48, r_g49, r_g50, r_g51, r_g52, r_g53, r_g54, r_g55, r_g56, r_g57, r_g58, r_a41, r_a42, r_a43, r_a44, r_a45, r_a46, r_a47, r_a48, r_a49, r_a50, r_a51, r_a52, r_a53, r_a54, r_a55, r_a56, r_a57, r_a58, r_t41, r_t42, r_t43, r_t44, r_t45, r_t46, r_t47, r_t48, r_t49, r_t50, r_t51, r_t52, r_t53, r_t54, r_t55, r_t56, r_t57, r_t58, r_l43_0, r_l45_0, r_l45_1, r_l45_2, r_l45_3, r_l45_4, r_l45_5, r_l45_6, r_l45_105, r_l45_106, r_l45_1508, r_l45_1509, r_tl45_0, r_tl45_1, r_tl45_2, r_tl45_3, r_tl45_4, r_tl45_5, r_tl45_6, r_tl45_105, r_tl45_106, r_tl45_1508, r_tl45_1509, r_l48_0, r_l56_0, r_l57_0, r_tl58_0, r_tl58_1, r_tl58_2, r_tl58_3, r_tl58_4, la_1, lm_1, la_2, lm_2, la_3, lm_3, la_6, lm_6, la_7, lm_7, la_8, lm_8, la_13, lm_13, la_19, lm_19, la_25, lm_25, la_33, lm_33, la_41, lm_41, la_49, lm_49, la_57, lm_57, la_60, lm_60, la_105, lm_105, la_107, lm_107, la_1508, lm_1508, la_96, lm_96, la_377, lm_377, la_1509, lm_1509, bd_bd, bd_rt, bd_ite, ap_ite, ap_rt, ite_some, nI_add, nI_1, bd_of (r_isThrough hR ht), e, b01, b10, n10, if_true, if_false, bd_of (r_lovedOf' hR hD ht)]
  unfold y_bit q_bit
  rfl
theorem r_isBitten {t : Nat} (hR : RefP μ) (ht : t < 8) (b : Int32) : fn_M_isBitten (some (40, 0, 0)) (nI t) b μ = some ((), m_rI μ (45, 0, 0) (ud (ud (cR μ) (33 + t) (q_coa (cR μ (33 + t)) b)) (41 + t) (q_rus (cR μ (33 + t)) (cR μ (41 + t)) b))) := by
  unfold fn_M_isBitten
  have n1 : ¬ 41 + t = 33 + t := by omega
  simp (disch := first | exact hR | ((repeat first | apply RefP_sI | apply RefP_rY | apply RefP_rI | apply RefP_sJ | apply RefP_rJ); exact hR) | omega) only [r_th, r_gI, r_gJ, r_pI, r_pJ, r_g41, r_g42, r_g43, r_g44, r_g45, r_g46, r_g47, r_g48, r_g49, r_g50, r_g51, r_g52, r_g53, r_g54, r_g55, r_g56, r_g57, r_g58, r_a41, r_a42, r_a43, r_a44, r_a45, r_a46, r_a47, r_a48, r_a49, r_a50, r_a51, r_a52, r_a53, r_a54, r_a55, r_a56, r_a57, r_a58, r_t41, r_t42, r_t43, r_t44, r_t45, r_t46, r_t47, r_t48, r_t49, r_t50, r_t51, r_t52, r_t53, r_t54, r_t55, r_t56, r_t57, r_t58, r_l43_0, r_l45_0, r_l45_1, r_l45_2, r_l45_3, r_l45_4, r_l45_5, r_l45_6, r_l45_105, r_l45_106, r_l45_1508, r_l45_1509, r_tl45_0, r_tl45_1, r_tl45_2, r_tl45_3, r_tl45_4, r_tl45_5, r_tl45_6, r_tl45_105, r_tl45_106, r_tl45_1508, r_tl45_1509, r_l48_0, r_l56_0, r_l57_0, r_tl58_0, r_tl58_1, r_tl58_2, r_tl58_3, r_tl58_4, la_1, lm_1, la_2, lm_2, la_3, lm_3, la_6, lm_6, la_7, lm_7, la_8, lm_8, la_13, lm_13, la_19, lm_19, la_25, lm_25, la_33, lm_33, la_41, lm_41, la_49, lm_49, la_57, lm_57, la_60, lm_60, la_105, lm_105, la_107, lm_107, la_1508, lm_1508, la_96, lm_96, la_377, lm_377, la_1509, lm_1509, bd_bd, bd_rt, bd_ite, ap_ite, ap_rt, ite_some, nI_add, nI_1, I_row, sI_rI, I_rat, rI_rI, ud_ne n1]
  rfl
def y_year (c : Nat → Int32) (P T : Nat) : Nat → Int32 := ud (y_bites (y_ages c P) P T) 6 (c 6 + 1)
theorem r_goesYear (hR : RefP μ) (hD : Dim (cR μ) P T) : fn_M_goesYear (some (40, 0, 0)) μ = some ((), rY μ (y_year (cR μ) P T) (m_I μ (40, 0, 0) 27 + i_sum (y_dead (cR μ)) P)) := by
  obtain ⟨hP0, hT0, hP6, hT8⟩ := id hD
  unfold fn_M_goesYear
  rw [r_th hR, bd_of (r_ages hR hD)]
  generalize hd : m_I μ (40, 0, 0) 27 + i_sum (y_dead (cR μ)) P = d
  generalize hc : y_ages (cR μ) P = c
  have c0 : c 0 = nI P := by rw [← hc, y_ages_at (by omega) (by omega)]; exact hP0
  have c1 : c 1 = nI T := by rw [← hc, y_ages_at (by omega) (by omega)]; exact hT0
  have c6 : c 6 = cR μ 6 := by rw [← hc, y_ages_at (by omega) (by omega)]
  have h := lp_nat (body := fn_M_goesYear_l6 (some (40, 0, 0))) (fun i => nI i) (fun i => rY μ (y_bites c P i) d) T (x := ()) (μe := rY μ (y_bites c P T) d) (fun i hi => ?_) ?_ (F := m_F) (by have := F_gt; omega)
  · simp only [y_bites_0] at h
    refine (bd_of h).trans ?_
    have e6 : y_bites c P T 6 = cR μ 6 := by rw [y_bites_at (by omega) (by omega) (by omega), c6]
    simp (disch := first | exact hR | ((repeat first | apply RefP_sI | apply RefP_rY | apply RefP_rI | apply RefP_sJ | apply RefP_rJ); exact hR) | omega) only [r_th, r_gI, r_gJ, r_pI, r_pJ, r_g41, r_g42, r_g43, r_g44, r_g45, r_g46, r_g47, r_g48, r_g49, r_g50, r_g51, r_g52, r_g53, r_g54, r_g55, r_g56, r_g57, r_g58, r_a41, r_a42, r_a43, r_a44, r_a45, r_a46, r_a47, r_a48, r_a49, r_a50, r_a51, r_a52, r_a53, r_a54, r_a55, r_a56, r_a57, r_a58, r_t41, r_t42, r_t43, r_t44, r_t45, r_t46, r_t47, r_t48, r_t49, r_t50, r_t51, r_t52, r_t53, r_t54, r_t55, r_t56, r_t57, r_t58, r_l43_0, r_l45_0, r_l45_1, r_l45_2, r_l45_3, r_l45_4, r_l45_5, r_l45_6, r_l45_105, r_l45_106, r_l45_1508, r_l45_1509, r_tl45_0, r_tl45_1, r_tl45_2, r_tl45_3, r_tl45_4, r_tl45_5, r_tl45_6, r_tl45_105, r_tl45_106, r_tl45_1508, r_tl45_1509, r_l48_0, r_l56_0, r_l57_0, r_tl58_0, r_tl58_1, r_tl58_2, r_tl58_3, r_tl58_4, la_1, lm_1, la_2, lm_2, la_3, lm_3, la_6, lm_6, la_7, lm_7, la_8, lm_8, la_13, lm_13, la_19, lm_19, la_25, lm_25, la_33, lm_33, la_41, lm_41, la_49, lm_49, la_57, lm_57, la_60, lm_60, la_105, lm_105, la_107, lm_107, la_1508, lm_1508, la_96, lm_96, la_377, lm_377, la_1509, lm_1509, bd_bd, bd_rt, bd_ite, ap_ite, ap_rt, ite_some, nI_add, nI_1, rY_c, rY_wc, e6]
    unfold y_year
    rw [hc]
  · unfold fn_M_goesYear_l6
    have e1 : y_bites c P i 1 = nI T := by rw [y_bites_at (by omega) (by omega) (by omega), c1]
    have hDi : Dim (cR (rY μ (y_bites c P i) d)) P T := by
      show Dim (m_I (rY μ (y_bites c P i) d) (45, 0, 0)) P T
      rw [rY_c]
      exact ⟨by rw [y_bites_at (by omega) (by omega) (by omega), c0], e1, hP6, hT8⟩
    have hRi : RefP (rY μ (y_bites c P i) d) := hR
    have e33 : y_bites c P i (33 + i) = c (33 + i) := y_bites_at (by omega) (by omega) (by omega)
    have e41 : y_bites c P i (41 + i) = c (41 + i) := y_bites_at (by omega) (by omega) (by omega)
    have e49 : y_bites c P i (49 + i) = c (49 + i) := y_bites_at (by omega) (by omega) (by omega)
    have n1 : ¬ 49 + i = 33 + i := by omega
    have n2 : ¬ 49 + i = 41 + i := by omega
    have hb := r_biteOf (t := i) hRi hDi (by omega)
    have hb2 : y_bit (cR (rY μ (y_bites c P i) d)) P i = y_bit c P i := by
      show y_bit (m_I (rY μ (y_bites c P i) d) (45, 0, 0)) P i = _
      rw [rY_c, y_bites_bit hP6 (by omega)]
    rw [hb2] at hb
    simp (disch := first | exact hR | ((repeat first | apply RefP_sI | apply RefP_rY | apply RefP_rI | apply RefP_sJ | apply RefP_rJ); exact hR) | omega) only [r_th, r_gI, r_gJ, r_pI, r_pJ, r_g41, r_g42, r_g43, r_g44, r_g45, r_g46, r_g47, r_g48, r_g49, r_g50, r_g51, r_g52, r_g53, r_g54, r_g55, r_g56, r_g57, r_g58, r_a41, r_a42, r_a43, r_a44, r_a45, r_a46, r_a47, r_a48, r_a49, r_a50, r_a51, r_a52, r_a53, r_a54, r_a55, r_a56, r_a57, r_a58, r_t41, r_t42, r_t43, r_t44, r_t45, r_t46, r_t47, r_t48, r_t49, r_t50, r_t51, r_t52, r_t53, r_t54, r_t55, r_t56, r_t57, r_t58, r_l43_0, r_l45_0, r_l45_1, r_l45_2, r_l45_3, r_l45_4, r_l45_5, r_l45_6, r_l45_105, r_l45_106, r_l45_1508, r_l45_1509, r_tl45_0, r_tl45_1, r_tl45_2, r_tl45_3, r_tl45_4, r_tl45_5, r_tl45_6, r_tl45_105, r_tl45_106, r_tl45_1508, r_tl45_1509, r_l48_0, r_l56_0, r_l57_0, r_tl58_0, r_tl58_1, r_tl58_2, r_tl58_3, r_tl58_4, la_1, lm_1, la_2, lm_2, la_3, lm_3, la_6, lm_6, la_7, lm_7, la_8, lm_8, la_13, lm_13, la_19, lm_19, la_25, lm_25, la_33, lm_33, la_41, lm_41, la_49, lm_49, la_57, lm_57, la_60, lm_60, la_105, lm_105, la_107, lm_107, la_1508, lm_1508, la_96, lm_96, la_377, lm_377, la_1509, lm_1509, bd_bd, bd_rt, bd_ite, ap_ite, ap_rt, ite_some, nI_add, nI_1, rY_c, e1, if_neg (nI_ge hi (show T < 2 ^ 31 by omega)), bd_of hb, bd_of (r_isBitten hRi (show i < 8 by omega) (y_bit c P i)), rY_rI, e33, e41, rY_wc, ud_ne n1, ud_ne n2, e49, y_bites_s c P (show i < 8 by omega)]
  · unfold fn_M_goesYear_l6
    have e1 : y_bites c P T 1 = nI T := by rw [y_bites_at (by omega) (by omega) (by omega), c1]
    simp (disch := first | exact hR | ((repeat first | apply RefP_sI | apply RefP_rY | apply RefP_rI | apply RefP_sJ | apply RefP_rJ); exact hR) | omega) only [r_th, r_gI, r_gJ, r_pI, r_pJ, r_g41, r_g42, r_g43, r_g44, r_g45, r_g46, r_g47, r_g48, r_g49, r_g50, r_g51, r_g52, r_g53, r_g54, r_g55, r_g56, r_g57, r_g58, r_a41, r_a42, r_a43, r_a44, r_a45, r_a46, r_a47, r_a48, r_a49, r_a50, r_a51, r_a52, r_a53, r_a54, r_a55, r_a56, r_a57, r_a58, r_t41, r_t42, r_t43, r_t44, r_t45, r_t46, r_t47, r_t48, r_t49, r_t50, r_t51, r_t52, r_t53, r_t54, r_t55, r_t56, r_t57, r_t58, r_l43_0, r_l45_0, r_l45_1, r_l45_2, r_l45_3, r_l45_4, r_l45_5, r_l45_6, r_l45_105, r_l45_106, r_l45_1508, r_l45_1509, r_tl45_0, r_tl45_1, r_tl45_2, r_tl45_3, r_tl45_4, r_tl45_5, r_tl45_6, r_tl45_105, r_tl45_106, r_tl45_1508, r_tl45_1509, r_l48_0, r_l56_0, r_l57_0, r_tl58_0, r_tl58_1, r_tl58_2, r_tl58_3, r_tl58_4, la_1, lm_1, la_2, lm_2, la_3, lm_3, la_6, lm_6, la_7, lm_7, la_8, lm_8, la_13, lm_13, la_19, lm_19, la_25, lm_25, la_33, lm_33, la_41, lm_41, la_49, lm_49, la_57, lm_57, la_60, lm_60, la_105, lm_105, la_107, lm_107, la_1508, lm_1508, la_96, lm_96, la_377, lm_377, la_1509, lm_1509, bd_bd, bd_rt, bd_ite, ap_ite, ap_rt, ite_some, nI_add, nI_1, rY_c, e1, if_pos (Int32.le_refl (nI T))]
theorem y_year_at {c : Nat → Int32} (k : Nat) (h : k = 0 ∨ k = 1 ∨ k = 2 ∨ k = 3 ∨ k = 4 ∨ k = 5 ∨ (13 ≤ k ∧ k < 19) ∨ (25 ≤ k ∧ k < 33) ∨ 57 ≤ k) (hP : P ≤ 6) (hT : T ≤ 8) : y_year c P T k = c k := by
  unfold y_year
  rw [ud_ne (by omega), y_bites_at (by omega) (by omega) (by omega), y_ages_at (by omega) (by omega)]
theorem y_year_dim {c : Nat → Int32} (hD : Dim c P T) : Dim (y_year c P T) P T := by
  obtain ⟨hP0, hT0, hP6, hT8⟩ := id hD
  exact ⟨by rw [y_year_at 0 (by omega) hP6 hT8, hP0], by rw [y_year_at 1 (by omega) hP6 hT8, hT0], hP6, hT8⟩
/-- n years -/
def y_yrs (c : Nat → Int32) (P T : Nat) : Nat → Nat → Int32
  | 0 => c
  | n + 1 => y_year (y_yrs c P T n) P T
def y_dds (c : Nat → Int32) (P T : Nat) : Nat → Int32
  | 0 => 0
  | n + 1 => y_dds c P T n + i_sum (y_dead (y_yrs c P T n)) P
theorem y_yrs_dim {c : Nat → Int32} (hD : Dim c P T) : ∀ n, Dim (y_yrs c P T n) P T
  | 0 => hD
  | n + 1 => y_year_dim (y_yrs_dim hD n)
theorem y_yrs_at {c : Nat → Int32} (k : Nat) (h : k = 0 ∨ k = 1 ∨ k = 2 ∨ k = 3 ∨ k = 4 ∨ k = 5 ∨ (13 ≤ k ∧ k < 19) ∨ (25 ≤ k ∧ k < 33) ∨ 57 ≤ k) (hP : P ≤ 6) (hT : T ≤ 8) : ∀ n, y_yrs c P T n k = c k
  | 0 => rfl
  | n + 1 => by rw [y_yrs, y_year_at k h hP hT, y_yrs_at k h hP hT n]
/-- a loop that lets n years go by -/
theorem r_goesYears (hR : RefP μ) (hD : Dim (cR μ) P T) (n : Nat) : fn_M_goesYear (some (40, 0, 0)) (rY μ (y_yrs (cR μ) P T n) (m_I μ (40, 0, 0) 27 + y_dds (cR μ) P T n)) = some ((), rY μ (y_yrs (cR μ) P T (n + 1)) (m_I μ (40, 0, 0) 27 + y_dds (cR μ) P T (n + 1))) := by
  have h := r_goesYear (μ := rY μ (y_yrs (cR μ) P T n) (m_I μ (40, 0, 0) 27 + y_dds (cR μ) P T n)) (P := P) (T := T) hR (by
    show Dim (m_I (rY μ _ _) (45, 0, 0)) P T
    rw [rY_c]
    exact y_yrs_dim hD n)
  rw [h]
  simp only [rY_c, rY_d, rY_rY, y_yrs, y_dds, Int32.add_assoc]
end RB
