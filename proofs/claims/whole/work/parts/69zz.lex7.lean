/-! Part 69zz: who bears a name -/
/-- the first of n from i on that bears x -/
def fnd (w : Nat → Int64) (x : Int64) : Nat → Nat → Int32
  | 0, _ => -1
  | n + 1, i => if w i = x then nI i else fnd w x n (i + 1)
set_option maxHeartbeats 200000 in
theorem fnd_is {w : Nat → Int64} {x : Int64} : ∀ n i, fnd w x n i = -1 ∨ ∃ j, i ≤ j ∧ j < i + n ∧ fnd w x n i = nI j
  | 0, _ => .inl rfl
  | n + 1, i => by
    by_cases z : w i = x
    · exact .inr ⟨i, Nat.le_refl i, by omega, if_pos z⟩
    · rcases fnd_is (w := w) (x := x) n (i + 1) with h | ⟨j, h1, h2, h⟩
      · exact .inl ((if_neg z).trans h)
      · exact .inr ⟨j, by omega, by omega, (if_neg z).trans h⟩
section NM
variable {μ ν : mM} {f P T : Nat} {w : Nat → Int64}
set_option maxHeartbeats 200000 in
theorem k_personNamed (hP : FamP μ f) (h0 : m_I μ (7, f, 0) 0 = nI P) (hP6 : P ≤ 6) (hw : ∀ i, i < P → m_J μ (9, f, i) 0 = w i) (x : Int64) : fn_Fa_personNamed (some (7, f, 0)) x μ = some (fnd w x P 0, μ) := by
  have key : ∀ n i F, i + n = P → n < F → m_lp (fn_Fa_personNamed_l2 (some (7, f, 0)) x) F (nI i) μ = some (fnd w x n i, μ) := by
    intro n
    induction n with
    | zero =>
      intro i F hi hF
      obtain ⟨F', rfl⟩ : ∃ F', F = F' + 1 := ⟨F - 1, by omega⟩
      have h1 : fn_Fa_personNamed_l2 (some (7, f, 0)) x (nI i) μ = some (.inr (-1), μ) := by
        unfold fn_Fa_personNamed_l2
        rw [c_fam_gI hP, h0, ap_ite, if_pos (nI_le (by omega) (by omega))]
        rfl
      rw [lp_s, bd_of h1]
      rfl
    | succ n ih =>
      intro i F hi hF
      obtain ⟨F', rfl⟩ : ∃ F', F = F' + 1 := ⟨F - 1, by omega⟩
      by_cases z : w i = x
      · have h1 : fn_Fa_personNamed_l2 (some (7, f, 0)) x (nI i) μ = some (.inr (nI i), μ) := by
          unfold fn_Fa_personNamed_l2
          rw [c_fam_gI hP, h0, ap_ite, if_neg (nI_ge (by omega) (by omega)), c_fam_r7 hP, c_pers_r hP (show i < 6 by omega), c_per_gJ hP (show i < 6 by omega), hw i (by omega), ap_ite, if_pos (by rw [lg_cmp_eq]; exact z)]
          rfl
        rw [lp_s, bd_of h1, show fnd w x (n + 1) i = nI i from if_pos z]
        rfl
      · have h1 : fn_Fa_personNamed_l2 (some (7, f, 0)) x (nI i) μ = some (.inl (nI (i + 1)), μ) := by
          unfold fn_Fa_personNamed_l2
          rw [c_fam_gI hP, h0, ap_ite, if_neg (nI_ge (by omega) (by omega)), c_fam_r7 hP, c_pers_r hP (show i < 6 by omega), c_per_gJ hP (show i < 6 by omega), hw i (by omega), ap_ite, if_neg (by rw [lg_cmp_eq]; exact z), nI_1]
          rfl
        rw [lp_s, bd_of h1, show fnd w x (n + 1) i = fnd w x n (i + 1) from if_neg z]
        exact ih (i + 1) F' (by omega) (by omega)
  unfold fn_Fa_personNamed
  rw [c_fam_th hP]
  exact key P 0 m_F (by omega) (by have := F_gt; omega)
set_option maxHeartbeats 200000 in
theorem k_thingNamed (hP : FamP μ f) (h0 : m_I μ (7, f, 0) 1 = nI T) (hT8 : T ≤ 8) (hw : ∀ i, i < T → m_J μ (12, f, i) 0 = w i) (x : Int64) : fn_Fa_thingNamed (some (7, f, 0)) x μ = some (fnd w x T 0, μ) := by
  have key : ∀ n i F, i + n = T → n < F → m_lp (fn_Fa_thingNamed_l2 (some (7, f, 0)) x) F (nI i) μ = some (fnd w x n i, μ) := by
    intro n
    induction n with
    | zero =>
      intro i F hi hF
      obtain ⟨F', rfl⟩ : ∃ F', F = F' + 1 := ⟨F - 1, by omega⟩
      have h1 : fn_Fa_thingNamed_l2 (some (7, f, 0)) x (nI i) μ = some (.inr (-1), μ) := by
        unfold fn_Fa_thingNamed_l2
        rw [c_fam_gI hP, h0, ap_ite, if_pos (nI_le (by omega) (by omega))]
        rfl
      rw [lp_s, bd_of h1]
      rfl
    | succ n ih =>
      intro i F hi hF
      obtain ⟨F', rfl⟩ : ∃ F', F = F' + 1 := ⟨F - 1, by omega⟩
      by_cases z : w i = x
      · have h1 : fn_Fa_thingNamed_l2 (some (7, f, 0)) x (nI i) μ = some (.inr (nI i), μ) := by
          unfold fn_Fa_thingNamed_l2
          rw [c_fam_gI hP, h0, ap_ite, if_neg (nI_ge (by omega) (by omega)), c_fam_r8 hP, c_itm_r hP (show i < 8 by omega), c_thi_gJ hP (show i < 8 by omega), hw i (by omega), ap_ite, if_pos (by rw [lg_cmp_eq]; exact z)]
          rfl
        rw [lp_s, bd_of h1, show fnd w x (n + 1) i = nI i from if_pos z]
        rfl
      · have h1 : fn_Fa_thingNamed_l2 (some (7, f, 0)) x (nI i) μ = some (.inl (nI (i + 1)), μ) := by
          unfold fn_Fa_thingNamed_l2
          rw [c_fam_gI hP, h0, ap_ite, if_neg (nI_ge (by omega) (by omega)), c_fam_r8 hP, c_itm_r hP (show i < 8 by omega), c_thi_gJ hP (show i < 8 by omega), hw i (by omega), ap_ite, if_neg (by rw [lg_cmp_eq]; exact z), nI_1]
          rfl
        rw [lp_s, bd_of h1, show fnd w x (n + 1) i = fnd w x n (i + 1) from if_neg z]
        exact ih (i + 1) F' (by omega) (by omega)
  unfold fn_Fa_thingNamed
  rw [c_fam_th hP]
  exact key T 0 m_F (by omega) (by have := F_gt; omega)
set_option maxHeartbeats 200000 in
theorem r_named (hR : RefP ν) {k j N : Nat} (hk : k ≤ 4) (hj : j ≤ 1) (h0 : m_I ν (45, 0, 0) (377 * k + j) = nI N) (hN : N ≤ 8) (hw : ∀ i, i < N → m_J ν (48, 0, 0) (14 * k + 6 * j + i) = w i) : fn_M_named (some (40, 0, 0)) (nI k) (nI j) ν = some (fnd w (m_J ν (40, 0, 0) 19) N 0, ν) := by
  have key : ∀ n i F, i + n = N → n < F → m_lp (fn_M_named_l2 (some (40, 0, 0)) (nI k) (nI j)) F (nI i) ν = some (fnd w (m_J ν (40, 0, 0) 19) n i, ν) := by
    intro n
    induction n with
    | zero =>
      intro i F hi hF
      obtain ⟨F', rfl⟩ : ∃ F', F = F' + 1 := ⟨F - 1, by omega⟩
      have h1 : fn_M_named_l2 (some (40, 0, 0)) (nI k) (nI j) (nI i) ν = some (.inr (-1), ν) := by
        unfold fn_M_named_l2
        rw [r_g45 hR, show (377 : Int32) = nI 377 from rfl, pk_mul, nI_add, r_a45 hR (by omega), h0, ap_ite, if_pos (nI_le (by omega) (by omega))]
        rfl
      rw [lp_s, bd_of h1]
      rfl
    | succ n ih =>
      intro i F hi hF
      obtain ⟨F', rfl⟩ : ∃ F', F = F' + 1 := ⟨F - 1, by omega⟩
      by_cases z : w i = m_J ν (40, 0, 0) 19
      · have h1 : fn_M_named_l2 (some (40, 0, 0)) (nI k) (nI j) (nI i) ν = some (.inr (nI i), ν) := by
          unfold fn_M_named_l2
          rw [r_g45 hR, show (377 : Int32) = nI 377 from rfl, pk_mul, nI_add, r_a45 hR (by omega), h0, ap_ite, if_neg (nI_ge (by omega) (by omega)), r_g48 hR, show (14 : Int32) = nI 14 from rfl, show (6 : Int32) = nI 6 from rfl, pk_mul, pk_mul, nI_add, nI_add, r_a48 hR (by omega), hw i (by omega), r_gJ hR, ap_ite, if_pos (by rw [lg_cmp_eq]; exact z)]
          rfl
        rw [lp_s, bd_of h1, show fnd w (m_J ν (40, 0, 0) 19) (n + 1) i = nI i from if_pos z]
        rfl
      · have h1 : fn_M_named_l2 (some (40, 0, 0)) (nI k) (nI j) (nI i) ν = some (.inl (nI (i + 1)), ν) := by
          unfold fn_M_named_l2
          rw [r_g45 hR, show (377 : Int32) = nI 377 from rfl, pk_mul, nI_add, r_a45 hR (by omega), h0, ap_ite, if_neg (nI_ge (by omega) (by omega)), r_g48 hR, show (14 : Int32) = nI 14 from rfl, show (6 : Int32) = nI 6 from rfl, pk_mul, pk_mul, nI_add, nI_add, r_a48 hR (by omega), hw i (by omega), r_gJ hR, ap_ite, if_neg (by rw [lg_cmp_eq]; exact z), nI_1]
          rfl
        rw [lp_s, bd_of h1, show fnd w (m_J ν (40, 0, 0) 19) (n + 1) i = fnd w (m_J ν (40, 0, 0) 19) n (i + 1) from if_neg z]
        exact ih (i + 1) F' (by omega) (by omega)
  unfold fn_M_named
  rw [r_th hR]
  exact key N 0 m_F (by omega) (by have := F_gt; omega)
end NM
