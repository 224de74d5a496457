/-! Part 69zb: the reference plays -/
/-- the reference's block at turn k -/
def SGm (c : Nat → Int32) (P T t e k : Nat) (G : Nat → tri) (c' : Nat → Int32) : Prop := (∀ i, i < 25 → i ≠ 6 → c' i = y_sts c P T k i) ∧ (∀ i, 25 ≤ i → i < 33 → c' i = c i) ∧ (∀ i, 57 ≤ i → i < 105 → c' i = c i) ∧ ∀ s, s < 2 → th3 c' (ttG t e s) = G s
set_option maxHeartbeats 200000 in
theorem ages_25 {c c' : Nat → Int32} {P : Nat} (hP : P ≤ 6) (h : ∀ i, i < 25 → i ≠ 6 → c' i = c i) : ∀ i, i < 25 → i ≠ 6 → y_ages c' P i = y_ages c P i := by
  intro i hi hn
  unfold y_ages y_age y_liv
  by_cases h1 : 7 ≤ i ∧ i < 7 + P
  · rw [if_pos h1, if_pos h1, h (19 + (i - 7)) (by omega) (by omega), h (7 + (i - 7)) (by omega) (by omega)]
  · rw [if_neg h1, if_neg h1]
    by_cases h2 : 19 ≤ i ∧ i < 19 + P
    · rw [if_pos h2, if_pos h2, h (19 + (i - 19)) (by omega) (by omega), h (7 + (i - 19)) (by omega) (by omega), h 3 (by omega) (by omega)]
    · rw [if_neg h2, if_neg h2, h i hi hn]
section GQ
variable {c : Nat → Int32} {P T t e : Nat}
set_option maxHeartbeats 200000 in
theorem SGm_at {k : Nat} {G : Nat → tri} {c' : Nat → Int32} (h : SGm c P T t e k G c') (hP : P ≤ 6) (hT : T ≤ 8) : ∀ i, (i < 6 ∨ (13 ≤ i ∧ i < 19) ∨ (25 ≤ i ∧ i < 33) ∨ (57 ≤ i ∧ i < 105)) → c' i = c i := by
  intro i hi
  by_cases h1 : i < 25
  · rw [h.1 i h1 (by omega), y_sts_at i (by omega) hP hT]
  · by_cases h2 : i < 33
    · exact h.2.1 i (by omega) h2
    · exact h.2.2.1 i (by omega) (by omega)
set_option maxHeartbeats 200000 in
theorem SGm_dim {k : Nat} {G : Nat → tri} {c' : Nat → Int32} (h : SGm c P T t e k G c') (hD : Dim c P T) : Dim c' P T := by
  obtain ⟨h0, h1, h2, h3⟩ := id hD
  exact ⟨by rw [SGm_at h h2 h3 0 (by omega), h0], by rw [SGm_at h h2 h3 1 (by omega), h1], h2, h3⟩
set_option maxHeartbeats 200000 in
theorem tt_lt {s : Nat} (ht : t < T) (he : e < T) : ttG t e s < T := by
  unfold ttG
  split <;> assumption
set_option maxHeartbeats 200000 in
theorem SGm_year {k : Nat} {G : Nat → tri} {c' : Nat → Int32} (hO : Okc c P T) (h : SGm c P T t e k G c') (ht : t < T) (he : e < T) (hP : P ≤ 6) (hT : T ≤ 8) (hk : k < 100) : SGm c P T t e (k + 1) (fun s => ty (THG c t e s) (c 4) (LG c P t e s (k + 1)) (G s)) (y_year c' P T) := by
  have ha : ∀ i, i < 25 → i ≠ 6 → y_ages c' P i = y_sts c P T (k + 1) i := fun i h1 h2 => by
    rw [ages_25 hP h.1 i h1 h2]
    show _ = y_bites (y_ages (y_sts c P T k) P) P T i
    rw [y_bites_at (by omega) (by omega) (by omega)]
  have hat := SGm_at h hP hT
  refine ⟨fun i h1 h2 => ?_, fun i h1 h2 => ?_, fun i h1 h2 => ?_, fun s hs => ?_⟩
  · unfold y_year
    rw [ud_ne h2, y_bites_at (by omega) (by omega) (by omega), ha i h1 h2]
  · rw [y_year_at i (by omega) hP hT, hat i (by omega)]
  · rw [y_year_at i (by omega) hP hT, hat i (by omega)]
  · have htt := tt_lt (s := s) ht he
    have hG := h.2.2.2 s hs
    generalize hq : ttG t e s = q at *
    obtain ⟨q1, q2, q3⟩ := y_bites_on (c := y_ages c' P) (P := P) htt hT
    have hlv : i_lvf (i_sho (y_ages c' P)) (y_ages c' P) q P = lvN c P q (k + 1) := by
      unfold lvN
      refine i_lvf_congr P (fun p hp => ?_) (fun p hp => ?_)
      · rw [← sho_sts hO hp hP hT (show k + 1 < 2000 by omega)]
        unfold i_sho
        rw [ha (19 + p) (by omega) (by omega), ha (13 + p) (by omega) (by omega), ha (7 + p) (by omega) (by omega), ha 2 (by omega) (by omega)]
      · rw [y_ages_at (by omega) (by omega), hat _ (by omega)]
    have hb : y_bit (y_ages c' P) P q = q_bit (c' (41 + q)) (c (25 + q)) (c' (49 + q)) (lvN c P q (k + 1)) (c 4) := by
      unfold y_bit
      rw [hlv, y_ages_at (by omega) (by omega), y_ages_at (by omega) (by omega), y_ages_at (by omega) (by omega), y_ages_at (by omega) (by omega), hat (25 + q) (by omega), hat 4 (by omega)]
    unfold th3 y_year
    rw [ud_ne (by omega), ud_ne (by omega), ud_ne (by omega), q1, q2, q3, hb, y_ages_at (by omega) (by omega), y_ages_at (by omega) (by omega), y_ages_at (by omega) (by omega)]
    show _ = ty (c (25 + ttG t e s)) (c 4) (lvN c P (ttG t e s) (k + 1)) (G s)
    rw [← hG, hq]
    rfl
/-- the block behind a move -/
def mvR (m own his : Nat) (c' : Nat → Int32) : Nat → Int32 := if m = 0 then ud c' (41 + his) (iMin 999 (c' (41 + his) + c' 5)) else if m = 1 then ud c' (49 + own) 3 else c'
set_option maxHeartbeats 200000 in
theorem SGm_move {k m : Nat} {G : Nat → tri} {c' : Nat → Int32} (h : SGm c P T t e k G c') (hne : t ≠ e) (ht : t < T) (he : e < T) (hP : P ≤ 6) (hT : T ≤ 8) (hm : m < 3) : SGm c P T t e k (mvG (c 5) k m G) (mvR m (ttG t e (k % 2)) (ttG t e (1 - k % 2)) c') := by
  have h5 := SGm_at h hP hT 5 (by omega)
  have h1 := tt_lt (s := k % 2) ht he
  have h2 := tt_lt (s := 1 - k % 2) ht he
  have hinj : ∀ s s', s < 2 → s' < 2 → ttG t e s = ttG t e s' → s = s' := fun s s' hs hs' q => by
    unfold ttG at q
    obtain rfl | rfl : s = 0 ∨ s = 1 := by omega
    · obtain rfl | rfl : s' = 0 ∨ s' = 1 := by omega
      · rfl
      · exact absurd q hne
    · obtain rfl | rfl : s' = 0 ∨ s' = 1 := by omega
      · exact absurd q.symm hne
      · rfl
  have hk2 : k % 2 < 2 := Nat.mod_lt _ (by decide)
  unfold mvR
  obtain rfl | rfl | rfl : m = 0 ∨ m = 1 ∨ m = 2 := by omega
  · rw [if_pos rfl]
    refine ⟨fun i g1 g2 => by rw [ud_ne (by omega)]; exact h.1 i g1 g2, fun i g1 g2 => by rw [ud_ne (by omega)]; exact h.2.1 i g1 g2, fun i g1 g2 => by rw [ud_ne (by omega)]; exact h.2.2.1 i g1 g2, fun s hs => ?_⟩
    have hG := h.2.2.2 s hs
    unfold mvG
    by_cases z : s = 1 - k % 2
    · subst z
      rw [if_pos ⟨rfl, rfl⟩, ← hG]
      unfold th3
      rw [ud_ne (by omega), ud_at, ud_ne (by omega), h5]
    · rw [if_neg (fun q => z q.2), if_neg (fun q => absurd q.1 (by decide)), ← hG]
      have hq : ¬ ttG t e s = ttG t e (1 - k % 2) := fun q => z (hinj _ _ hs (by omega) q)
      unfold th3
      have hlt := tt_lt (s := s) ht he
      rw [ud_ne (by omega), ud_ne (by omega), ud_ne (by omega)]
  · rw [if_neg (by decide), if_pos rfl]
    refine ⟨fun i g1 g2 => by rw [ud_ne (by omega)]; exact h.1 i g1 g2, fun i g1 g2 => by rw [ud_ne (by omega)]; exact h.2.1 i g1 g2, fun i g1 g2 => by rw [ud_ne (by omega)]; exact h.2.2.1 i g1 g2, fun s hs => ?_⟩
    have hG := h.2.2.2 s hs
    unfold mvG
    rw [if_neg (fun q => absurd q.1 (by decide))]
    by_cases z : s = k % 2
    · subst z
      rw [if_pos ⟨rfl, rfl⟩, ← hG]
      unfold th3
      rw [ud_ne (by omega), ud_ne (by omega), ud_at]
    · rw [if_neg (fun q => z q.2), ← hG]
      have hq : ¬ ttG t e s = ttG t e (k % 2) := fun q => z (hinj _ _ hs (by omega) q)
      unfold th3
      have hlt := tt_lt (s := s) ht he
      rw [ud_ne (by omega), ud_ne (by omega), ud_ne (by omega)]
  · rw [if_neg (by decide), if_neg (by decide)]
    refine ⟨h.1, h.2.1, h.2.2.1, fun s hs => ?_⟩
    unfold mvG
    rw [if_neg (fun q => absurd q.1 (by decide)), if_neg (fun q => absurd q.1 (by decide))]
    exact h.2.2.2 s hs
set_option maxHeartbeats 200000 in
theorem r_moves {ν : mM} (hR : RefP ν) {k m : Nat} {G : Nat → tri} (h : SGm c P T t e k G (m_I ν (45, 0, 0))) (ht : t < T) (he : e < T) (hP : P ≤ 6) (hT : T ≤ 8) (hm : m < 3) : fn_M_moves (some (40, 0, 0)) (nI m) (nI (ttG t e (k % 2))) (nI (ttG t e (1 - k % 2))) ν = some (if okG (THG c t e) k G m = true then 1 else 0, if okG (THG c t e) k G m = true then m_rI ν (45, 0, 0) (mvR m (ttG t e (k % 2)) (ttG t e (1 - k % 2)) (m_I ν (45, 0, 0))) else ν) := by
  have h1 := tt_lt (s := k % 2) ht he
  have h2 := tt_lt (s := 1 - k % 2) ht he
  have hk2 : k % 2 < 2 := Nat.mod_lt _ (by decide)
  have hG1 := h.2.2.2 (k % 2) hk2
  have hG2 := h.2.2.2 (1 - k % 2) (by omega)
  have hth : ∀ q, q < 8 → fn_M_isThrough (some (40, 0, 0)) (nI q) ν = some (i_thr (m_I ν (45, 0, 0)) q, ν) := fun q hq => r_isThrough hR hq
  have hat := SGm_at h hP hT
  obtain rfl | rfl | rfl : m = 0 ∨ m = 1 ∨ m = 2 := by omega
  · have eok : okG (THG c t e) k G 0 = decide (m_I ν (45, 0, 0) (41 + ttG t e (1 - k % 2)) < m_I ν (45, 0, 0) (25 + ttG t e (1 - k % 2))) := by
      show decide ((G (1 - k % 2)).2.1 < c (25 + ttG t e (1 - k % 2))) = _
      rw [← hG2, hat (25 + ttG t e (1 - k % 2)) (by omega)]
    rw [eok]
    have h8 : ttG t e (1 - k % 2) < 8 := by omega
    have h0 : mvR 0 (ttG t e (k % 2)) (ttG t e (1 - k % 2)) (m_I ν (45, 0, 0)) = ud (m_I ν (45, 0, 0)) (41 + ttG t e (1 - k % 2)) (iMin 999 (m_I ν (45, 0, 0) (41 + ttG t e (1 - k % 2)) + m_I ν (45, 0, 0) 5)) := if_pos rfl
    rw [h0]
    have ht1 := hth _ h8
    unfold i_thr at ht1
    have e0 : nI 0 = 0 := rfl
    unfold fn_M_moves fn_M_breathed
    by_cases z : m_I ν (45, 0, 0) (41 + ttG t e (1 - k % 2)) < m_I ν (45, 0, 0) (25 + ttG t e (1 - k % 2))
    · rw [if_pos z] at ht1
      rw [decide_eq_true z]
      simp (disch := first | exact .inr rfl | exact .inl rfl | first | exact hC | exact hP | exact hR | ((repeat first | apply ClsP_sI | apply ClsP_sJ | apply ClsP_rI | apply ClsP_rJ | apply ClsP_rY); exact hC) | ((repeat first | apply FamP_sI | apply FamP_sJ | apply FamP_rI | apply FamP_rJ | apply FamP_rY); exact hP) | ((repeat first | apply RefP_sI | apply RefP_sJ | apply RefP_rI | apply RefP_rJ | apply RefP_rY); exact hR) | ((repeat first | apply PlanP_sI | apply PlanP_sJ | apply PlanP_rI | apply PlanP_rJ | apply PlanP_rY); exact hL) | omega) only [↓r_thb, ↓r_th, ↓r_gI, ↓r_gJ, ↓r_pI, ↓r_pJ, ↓r_g41, ↓r_g42, ↓r_g43, ↓r_g44, ↓r_g45, ↓r_g46, ↓r_g47, ↓r_g48, ↓r_g49, ↓r_g50, ↓r_g51, ↓r_g52, ↓r_g53, ↓r_g54, ↓r_g55, ↓r_g56, ↓r_g57, ↓r_g58, ↓r_a41, ↓r_a42, ↓r_a43, ↓r_a44, ↓r_a45, ↓r_a46, ↓r_a47, ↓r_a48, ↓r_a49, ↓r_a50, ↓r_a51, ↓r_a52, ↓r_a53, ↓r_a54, ↓r_a55, ↓r_a56, ↓r_a57, ↓r_a58, ↓r_t41, ↓r_t42, ↓r_t43, ↓r_t44, ↓r_t45, ↓r_t46, ↓r_t47, ↓r_t48, ↓r_t49, ↓r_t50, ↓r_t51, ↓r_t52, ↓r_t53, ↓r_t54, ↓r_t55, ↓r_t56, ↓r_t57, ↓r_t58, ↓r_l43_0, ↓r_l45_0, ↓r_l45_1, ↓r_l45_2, ↓r_l45_3, ↓r_l45_4, ↓r_l45_5, ↓r_l45_6, ↓r_l45_105, ↓r_l45_106, ↓r_l45_1508, ↓r_l45_1509, ↓r_tl45_0, ↓r_tl45_1, ↓r_tl45_2, ↓r_tl45_3, ↓r_tl45_4, ↓r_tl45_5, ↓r_tl45_6, ↓r_tl45_105, ↓r_tl45_106, ↓r_tl45_1508, ↓r_tl45_1509, ↓r_l48_0, ↓r_l56_0, ↓r_l57_0, ↓r_tl58_0, ↓r_tl58_1, ↓r_tl58_2, ↓r_tl58_3, ↓r_tl58_4, ↓bd_bd, ↓bd_rt, r_thb, r_th, r_gI, r_gJ, r_pI, r_pJ, r_g41, r_g42, r_g43, r_g44, r_g45, r_g46, r_g47, r_g48, r_g49, r_g50, r_g51, r_g52, r_g53, r_g54, r_g55, r_g56, r_g57, r_g58, r_a41, r_a42, r_a43, r_a44, r_a45, r_a46, r_a47, r_a48, r_a49, r_a50, r_a51, r_a52, r_a53, r_a54, r_a55, r_a56, r_a57, r_a58, r_t41, r_t42, r_t43, r_t44, r_t45, r_t46, r_t47, r_t48, r_t49, r_t50, r_t51, r_t52, r_t53, r_t54, r_t55, r_t56, r_t57, r_t58, r_l43_0, r_l45_0, r_l45_1, r_l45_2, r_l45_3, r_l45_4, r_l45_5, r_l45_6, r_l45_105, r_l45_106, r_l45_1508, r_l45_1509, r_tl45_0, r_tl45_1, r_tl45_2, r_tl45_3, r_tl45_4, r_tl45_5, r_tl45_6, r_tl45_105, r_tl45_106, r_tl45_1508, r_tl45_1509, r_l48_0, r_l56_0, r_l57_0, r_tl58_0, r_tl58_1, r_tl58_2, r_tl58_3, r_tl58_4, la_1, lm_1, la_2, lm_2, la_3, lm_3, la_6, lm_6, la_7, lm_7, la_8, lm_8, la_13, lm_13, la_19, lm_19, la_25, lm_25, la_33, lm_33, la_41, lm_41, la_49, lm_49, la_57, lm_57, la_60, lm_60, la_105, lm_105, la_107, lm_107, la_1508, lm_1508, la_96, lm_96, la_377, lm_377, la_1509, lm_1509, ↓reduceIte, ↓ap_ite, ↓bd_ite, bd_bd, bd_rt, ap_rt, ite_some, nI_add, nI_1, nz_1, nz_2, nz_3, nz_4, nz_5, nz_6, nz_7, nz_8, nz_9, nz_10, nz_11, nz_12, nz_m1, z_eq, if_true, if_false, e_some, ite_self, e0, ↓bd_of ht1, ↓bd_cz, sI_rI]
    · rw [if_neg z] at ht1
      rw [decide_eq_false z]
      simp (disch := first | exact .inr rfl | exact .inl rfl | first | exact hC | exact hP | exact hR | ((repeat first | apply ClsP_sI | apply ClsP_sJ | apply ClsP_rI | apply ClsP_rJ | apply ClsP_rY); exact hC) | ((repeat first | apply FamP_sI | apply FamP_sJ | apply FamP_rI | apply FamP_rJ | apply FamP_rY); exact hP) | ((repeat first | apply RefP_sI | apply RefP_sJ | apply RefP_rI | apply RefP_rJ | apply RefP_rY); exact hR) | ((repeat first | apply PlanP_sI | apply PlanP_sJ | apply PlanP_rI | apply PlanP_rJ | apply PlanP_rY); exact hL) | omega) only [↓r_thb, ↓r_th, ↓r_gI, ↓r_gJ, ↓r_pI, ↓r_pJ, ↓r_g41, ↓r_g42, ↓r_g43, ↓r_g44, ↓r_g45, ↓r_g46, ↓r_g47, ↓r_g48, ↓r_g49, ↓r_g50, ↓r_g51, ↓r_g52, ↓r_g53, ↓r_g54, ↓r_g55, ↓r_g56, ↓r_g57, ↓r_g58, ↓r_a41, ↓r_a42, ↓r_a43, ↓r_a44, ↓r_a45, ↓r_a46, ↓r_a47, ↓r_a48, ↓r_a49, ↓r_a50, ↓r_a51, ↓r_a52, ↓r_a53, ↓r_a54, ↓r_a55, ↓r_a56, ↓r_a57, ↓r_a58, ↓r_t41, ↓r_t42, ↓r_t43, ↓r_t44, ↓r_t45, ↓r_t46, ↓r_t47, ↓r_t48, ↓r_t49, ↓r_t50, ↓r_t51, ↓r_t52, ↓r_t53, ↓r_t54, ↓r_t55, ↓r_t56, ↓r_t57, ↓r_t58, ↓r_l43_0, ↓r_l45_0, ↓r_l45_1, ↓r_l45_2, ↓r_l45_3, ↓r_l45_4, ↓r_l45_5, ↓r_l45_6, ↓r_l45_105, ↓r_l45_106, ↓r_l45_1508, ↓r_l45_1509, ↓r_tl45_0, ↓r_tl45_1, ↓r_tl45_2, ↓r_tl45_3, ↓r_tl45_4, ↓r_tl45_5, ↓r_tl45_6, ↓r_tl45_105, ↓r_tl45_106, ↓r_tl45_1508, ↓r_tl45_1509, ↓r_l48_0, ↓r_l56_0, ↓r_l57_0, ↓r_tl58_0, ↓r_tl58_1, ↓r_tl58_2, ↓r_tl58_3, ↓r_tl58_4, ↓bd_bd, ↓bd_rt, r_thb, r_th, r_gI, r_gJ, r_pI, r_pJ, r_g41, r_g42, r_g43, r_g44, r_g45, r_g46, r_g47, r_g48, r_g49, r_g50, r_g51, r_g52, r_g53, r_g54, r_g55, r_g56, r_g57, r_g58, r_a41, r_a42, r_a43, r_a44, r_a45, r_a46, r_a47, r_a48, r_a49, r_a50, r_a51, r_a52, r_a53, r_a54, r_a55, r_a56, r_a57, r_a58, r_t41, r_t42, r_t43, r_t44, r_t45, r_t46, r_t47, r_t48, r_t49, r_t50, r_t51, r_t52, r_t53, r_t54, r_t55, r_t56, r_t57, r_t58, r_l43_0, r_l45_0, r_l45_1, r_l45_2, r_l45_3, r_l45_4, r_l45_5, r_l45_6, r_l45_105, r_l45_106, r_l45_1508, r_l45_1509, r_tl45_0, r_tl45_1, r_tl45_2, r_tl45_3, r_tl45_4, r_tl45_5, r_tl45_6, r_tl45_105, r_tl45_106, r_tl45_1508, r_tl45_1509, r_l48_0, r_l56_0, r_l57_0, r_tl58_0, r_tl58_1, r_tl58_2, r_tl58_3, r_tl58_4, la_1, lm_1, la_2, lm_2, la_3, lm_3, la_6, lm_6, la_7, lm_7, la_8, lm_8, la_13, lm_13, la_19, lm_19, la_25, lm_25, la_33, lm_33, la_41, lm_41, la_49, lm_49, la_57, lm_57, la_60, lm_60, la_105, lm_105, la_107, lm_107, la_1508, lm_1508, la_96, lm_96, la_377, lm_377, la_1509, lm_1509, ↓reduceIte, ↓ap_ite, ↓bd_ite, bd_bd, bd_rt, ap_rt, ite_some, nI_add, nI_1, nz_1, nz_2, nz_3, nz_4, nz_5, nz_6, nz_7, nz_8, nz_9, nz_10, nz_11, nz_12, nz_m1, z_eq, if_true, if_false, e_some, ite_self, e0, ↓bd_of ht1, ↓bd_cz, (show ((false : Bool) = true) = False by simp)]
  · have eok : okG (THG c t e) k G 1 = decide (m_I ν (45, 0, 0) (41 + ttG t e (k % 2)) < m_I ν (45, 0, 0) (25 + ttG t e (k % 2))) := by
      show decide ((G (k % 2)).2.1 < c (25 + ttG t e (k % 2))) = _
      rw [← hG1, hat (25 + ttG t e (k % 2)) (by omega)]
    rw [eok]
    have h8 : ttG t e (k % 2) < 8 := by omega
    have h0 : mvR 1 (ttG t e (k % 2)) (ttG t e (1 - k % 2)) (m_I ν (45, 0, 0)) = ud (m_I ν (45, 0, 0)) (49 + ttG t e (k % 2)) 3 := by
      unfold mvR
      rw [if_neg (by decide), if_pos rfl]
    rw [h0]
    have ht1 := hth _ h8
    unfold i_thr at ht1
    have e1 : nI 1 = 1 := rfl
    have e2 : ((1 : Int32) = 2) = False := eq_false (by decide)
    unfold fn_M_moves
    by_cases z : m_I ν (45, 0, 0) (41 + ttG t e (k % 2)) < m_I ν (45, 0, 0) (25 + ttG t e (k % 2))
    · rw [if_pos z] at ht1
      rw [decide_eq_true z]
      simp (disch := first | exact hC | exact hP | exact hR | ((repeat first | apply ClsP_sI | apply ClsP_sJ | apply ClsP_rI | apply ClsP_rJ | apply ClsP_rY); exact hC) | ((repeat first | apply FamP_sI | apply FamP_sJ | apply FamP_rI | apply FamP_rJ | apply FamP_rY); exact hP) | ((repeat first | apply RefP_sI | apply RefP_sJ | apply RefP_rI | apply RefP_rJ | apply RefP_rY); exact hR) | ((repeat first | apply PlanP_sI | apply PlanP_sJ | apply PlanP_rI | apply PlanP_rJ | apply PlanP_rY); exact hL) | omega) only [↓r_thb, ↓r_th, ↓r_gI, ↓r_gJ, ↓r_pI, ↓r_pJ, ↓r_g41, ↓r_g42, ↓r_g43, ↓r_g44, ↓r_g45, ↓r_g46, ↓r_g47, ↓r_g48, ↓r_g49, ↓r_g50, ↓r_g51, ↓r_g52, ↓r_g53, ↓r_g54, ↓r_g55, ↓r_g56, ↓r_g57, ↓r_g58, ↓r_a41, ↓r_a42, ↓r_a43, ↓r_a44, ↓r_a45, ↓r_a46, ↓r_a47, ↓r_a48, ↓r_a49, ↓r_a50, ↓r_a51, ↓r_a52, ↓r_a53, ↓r_a54, ↓r_a55, ↓r_a56, ↓r_a57, ↓r_a58, ↓r_t41, ↓r_t42, ↓r_t43, ↓r_t44, ↓r_t45, ↓r_t46, ↓r_t47, ↓r_t48, ↓r_t49, ↓r_t50, ↓r_t51, ↓r_t52, ↓r_t53, ↓r_t54, ↓r_t55, ↓r_t56, ↓r_t57, ↓r_t58, ↓r_l43_0, ↓r_l45_0, ↓r_l45_1, ↓r_l45_2, ↓r_l45_3, ↓r_l45_4, ↓r_l45_5, ↓r_l45_6, ↓r_l45_105, ↓r_l45_106, ↓r_l45_1508, ↓r_l45_1509, ↓r_tl45_0, ↓r_tl45_1, ↓r_tl45_2, ↓r_tl45_3, ↓r_tl45_4, ↓r_tl45_5, ↓r_tl45_6, ↓r_tl45_105, ↓r_tl45_106, ↓r_tl45_1508, ↓r_tl45_1509, ↓r_l48_0, ↓r_l56_0, ↓r_l57_0, ↓r_tl58_0, ↓r_tl58_1, ↓r_tl58_2, ↓r_tl58_3, ↓r_tl58_4, ↓bd_bd, ↓bd_rt, r_thb, r_th, r_gI, r_gJ, r_pI, r_pJ, r_g41, r_g42, r_g43, r_g44, r_g45, r_g46, r_g47, r_g48, r_g49, r_g50, r_g51, r_g52, r_g53, r_g54, r_g55, r_g56, r_g57, r_g58, r_a41, r_a42, r_a43, r_a44, r_a45, r_a46, r_a47, r_a48, r_a49, r_a50, r_a51, r_a52, r_a53, r_a54, r_a55, r_a56, r_a57, r_a58, r_t41, r_t42, r_t43, r_t44, r_t45, r_t46, r_t47, r_t48, r_t49, r_t50, r_t51, r_t52, r_t53, r_t54, r_t55, r_t56, r_t57, r_t58, r_l43_0, r_l45_0, r_l45_1, r_l45_2, r_l45_3, r_l45_4, r_l45_5, r_l45_6, r_l45_105, r_l45_106, r_l45_1508, r_l45_1509, r_tl45_0, r_tl45_1, r_tl45_2, r_tl45_3, r_tl45_4, r_tl45_5, r_tl45_6, r_tl45_105, r_tl45_106, r_tl45_1508, r_tl45_1509, r_l48_0, r_l56_0, r_l57_0, r_tl58_0, r_tl58_1, r_tl58_2, r_tl58_3, r_tl58_4, la_1, lm_1, la_2, lm_2, la_3, lm_3, la_6, lm_6, la_7, lm_7, la_8, lm_8, la_13, lm_13, la_19, lm_19, la_25, lm_25, la_33, lm_33, la_41, lm_41, la_49, lm_49, la_57, lm_57, la_60, lm_60, la_105, lm_105, la_107, lm_107, la_1508, lm_1508, la_96, lm_96, la_377, lm_377, la_1509, lm_1509, ↓reduceIte, ↓ap_ite, ↓bd_ite, bd_bd, bd_rt, ap_rt, ite_some, nI_add, nI_1, nz_1, nz_2, nz_3, nz_4, nz_5, nz_6, nz_7, nz_8, nz_9, nz_10, nz_11, nz_12, nz_m1, z_eq, if_true, if_false, e_some, ite_self, e1, e2, ↓bd_of ht1, sI_rI]
    · rw [if_neg z] at ht1
      rw [decide_eq_false z]
      simp (disch := first | exact hC | exact hP | exact hR | ((repeat first | apply ClsP_sI | apply ClsP_sJ | apply ClsP_rI | apply ClsP_rJ | apply ClsP_rY); exact hC) | ((repeat first | apply FamP_sI | apply FamP_sJ | apply FamP_rI | apply FamP_rJ | apply FamP_rY); exact hP) | ((repeat first | apply RefP_sI | apply RefP_sJ | apply RefP_rI | apply RefP_rJ | apply RefP_rY); exact hR) | ((repeat first | apply PlanP_sI | apply PlanP_sJ | apply PlanP_rI | apply PlanP_rJ | apply PlanP_rY); exact hL) | omega) only [↓r_thb, ↓r_th, ↓r_gI, ↓r_gJ, ↓r_pI, ↓r_pJ, ↓r_g41, ↓r_g42, ↓r_g43, ↓r_g44, ↓r_g45, ↓r_g46, ↓r_g47, ↓r_g48, ↓r_g49, ↓r_g50, ↓r_g51, ↓r_g52, ↓r_g53, ↓r_g54, ↓r_g55, ↓r_g56, ↓r_g57, ↓r_g58, ↓r_a41, ↓r_a42, ↓r_a43, ↓r_a44, ↓r_a45, ↓r_a46, ↓r_a47, ↓r_a48, ↓r_a49, ↓r_a50, ↓r_a51, ↓r_a52, ↓r_a53, ↓r_a54, ↓r_a55, ↓r_a56, ↓r_a57, ↓r_a58, ↓r_t41, ↓r_t42, ↓r_t43, ↓r_t44, ↓r_t45, ↓r_t46, ↓r_t47, ↓r_t48, ↓r_t49, ↓r_t50, ↓r_t51, ↓r_t52, ↓r_t53, ↓r_t54, ↓r_t55, ↓r_t56, ↓r_t57, ↓r_t58, ↓r_l43_0, ↓r_l45_0, ↓r_l45_1, ↓r_l45_2, ↓r_l45_3, ↓r_l45_4, ↓r_l45_5, ↓r_l45_6, ↓r_l45_105, ↓r_l45_106, ↓r_l45_1508, ↓r_l45_1509, ↓r_tl45_0, ↓r_tl45_1, ↓r_tl45_2, ↓r_tl45_3, ↓r_tl45_4, ↓r_tl45_5, ↓r_tl45_6, ↓r_tl45_105, ↓r_tl45_106, ↓r_tl45_1508, ↓r_tl45_1509, ↓r_l48_0, ↓r_l56_0, ↓r_l57_0, ↓r_tl58_0, ↓r_tl58_1, ↓r_tl58_2, ↓r_tl58_3, ↓r_tl58_4, ↓bd_bd, ↓bd_rt, r_thb, r_th, r_gI, r_gJ, r_pI, r_pJ, r_g41, r_g42, r_g43, r_g44, r_g45, r_g46, r_g47, r_g48, r_g49, r_g50, r_g51, r_g52, r_g53, r_g54, r_g55, r_g56, r_g57, r_g58, r_a41, r_a42, r_a43, r_a44, r_a45, r_a46, r_a47, r_a48, r_a49, r_a50, r_a51, r_a52, r_a53, r_a54, r_a55, r_a56, r_a57, r_a58, r_t41, r_t42, r_t43, r_t44, r_t45, r_t46, r_t47, r_t48, r_t49, r_t50, r_t51, r_t52, r_t53, r_t54, r_t55, r_t56, r_t57, r_t58, r_l43_0, r_l45_0, r_l45_1, r_l45_2, r_l45_3, r_l45_4, r_l45_5, r_l45_6, r_l45_105, r_l45_106, r_l45_1508, r_l45_1509, r_tl45_0, r_tl45_1, r_tl45_2, r_tl45_3, r_tl45_4, r_tl45_5, r_tl45_6, r_tl45_105, r_tl45_106, r_tl45_1508, r_tl45_1509, r_l48_0, r_l56_0, r_l57_0, r_tl58_0, r_tl58_1, r_tl58_2, r_tl58_3, r_tl58_4, la_1, lm_1, la_2, lm_2, la_3, lm_3, la_6, lm_6, la_7, lm_7, la_8, lm_8, la_13, lm_13, la_19, lm_19, la_25, lm_25, la_33, lm_33, la_41, lm_41, la_49, lm_49, la_57, lm_57, la_60, lm_60, la_105, lm_105, la_107, lm_107, la_1508, lm_1508, la_96, lm_96, la_377, lm_377, la_1509, lm_1509, ↓reduceIte, ↓ap_ite, ↓bd_ite, bd_bd, bd_rt, ap_rt, ite_some, nI_add, nI_1, nz_1, nz_2, nz_3, nz_4, nz_5, nz_6, nz_7, nz_8, nz_9, nz_10, nz_11, nz_12, nz_m1, z_eq, if_true, if_false, e_some, ite_self, e1, e2, ↓bd_of ht1, (show ((false : Bool) = true) = False by simp)]
  · have h0 : mvR 2 (ttG t e (k % 2)) (ttG t e (1 - k % 2)) (m_I ν (45, 0, 0)) = m_I ν (45, 0, 0) := by
      unfold mvR
      rw [if_neg (by decide), if_neg (by decide)]
    rw [h0, show okG (THG c t e) k G 2 = true from rfl, if_pos rfl, if_pos rfl, rI_self]
    unfold fn_M_moves
    rw [r_th hR]
    rfl
end GQ
section GR
variable {ν : mM}
set_option maxHeartbeats 200000 in
theorem r_laysTurn (hR : RefP ν) {k : Nat} (hk : k < 5) : m_e (fn_M_laysTurn (some (40, 0, 0)) (nI k) ν) (fun _ ν' => sm (fun x _ _ i => x = 55 ∧ 105 * k ≤ i ∧ i < 105 * k + 105) ν ν' ∧ m_J ν' = m_J ν ∧ ∀ i, i < 105 → m_I ν' (55, 0, 0) (105 * k + i) = m_I ν (45, 0, 0) i) := by
  unfold fn_M_laysTurn
  rw [r_th hR]
  refine e_bd (R := fun _ ν' => sm (fun x _ _ i => x = 55 ∧ 105 * k ≤ i ∧ i < 105 * k + 105) ν ν' ∧ m_J ν' = m_J ν ∧ ∀ i, i < 105 → m_I ν' (55, 0, 0) (105 * k + i) = m_I ν (45, 0, 0) i) ?_ (fun _ ν' h => ⟨(), _, rfl, h⟩)
  refine e_inv (fun j s ν' => s = nI j ∧ sm (fun x _ _ i => x = 55 ∧ 105 * k ≤ i ∧ i < 105 * k + 105) ν ν' ∧ m_J ν' = m_J ν ∧ ∀ i, i < j → m_I ν' (55, 0, 0) (105 * k + i) = m_I ν (45, 0, 0) i) 105 ?_ ?_ ⟨rfl, sm_rf, rfl, fun i hi => absurd hi (Nat.not_lt_zero i)⟩ (by omega)
  · rintro j s ν' hj ⟨rfl, b1, b2, b3⟩
    have hR1 := sm_R b1 hR
    have hge : ¬ (105 : Int32) ≤ nI j := nI_ge hj (by decide)
    unfold fn_M_laysTurn_l2
    rw [ap_ite, if_neg hge, r_g55 hR1, r_g45 hR1, r_a45 hR1 (by omega), show (105 : Int32) = nI 105 from rfl, pk_mul, nI_add, r_t55 hR1 (by omega)]
    refine ⟨_, _, rfl, _, rfl, nI_1 j, sm_sI b1 _ (by omega), b2, fun i hi => ?_⟩
    rw [I_row]
    by_cases z : i = j
    · subst z
      rw [ud_at, sm_I b1 (by omega)]
    · rw [ud_ne (by omega)]
      exact b3 i (by omega)
  · rintro s ν' ⟨rfl, b1, b2, b3⟩
    unfold fn_M_laysTurn_l2
    rw [ap_ite, if_pos (show (105 : Int32) ≤ nI 105 by decide)]
    exact ⟨_, _, rfl, (), rfl, b1, b2, b3⟩
set_option maxHeartbeats 200000 in
theorem r_takesTurn (hR : RefP ν) {k : Nat} (hk : k < 5) : m_e (fn_M_takesTurn (some (40, 0, 0)) (nI k) ν) (fun _ ν' => sm (fun x y z i => x = 45 ∧ y = 0 ∧ z = 0 ∧ i < 105) ν ν' ∧ m_J ν' = m_J ν ∧ ∀ i, i < 105 → m_I ν' (45, 0, 0) i = m_I ν (55, 0, 0) (105 * k + i)) := by
  unfold fn_M_takesTurn
  rw [r_th hR]
  refine e_bd (R := fun _ ν' => sm (fun x y z i => x = 45 ∧ y = 0 ∧ z = 0 ∧ i < 105) ν ν' ∧ m_J ν' = m_J ν ∧ ∀ i, i < 105 → m_I ν' (45, 0, 0) i = m_I ν (55, 0, 0) (105 * k + i)) ?_ (fun _ ν' h => ⟨(), _, rfl, h⟩)
  refine e_inv (fun j s ν' => s = nI j ∧ sm (fun x y z i => x = 45 ∧ y = 0 ∧ z = 0 ∧ i < 105) ν ν' ∧ m_J ν' = m_J ν ∧ ∀ i, i < j → m_I ν' (45, 0, 0) i = m_I ν (55, 0, 0) (105 * k + i)) 105 ?_ ?_ ⟨rfl, sm_rf, rfl, fun i hi => absurd hi (Nat.not_lt_zero i)⟩ (by omega)
  · rintro j s ν' hj ⟨rfl, b1, b2, b3⟩
    have hR1 := sm_R b1 hR
    have hge : ¬ (105 : Int32) ≤ nI j := nI_ge hj (by decide)
    unfold fn_M_takesTurn_l2
    rw [ap_ite, if_neg hge, r_g45 hR1, r_g55 hR1, show (105 : Int32) = nI 105 from rfl, pk_mul, nI_add, r_a55 hR1 (by omega), r_t45 hR1 (by omega)]
    refine ⟨_, _, rfl, _, rfl, nI_1 j, sm_sI b1 _ (by omega), b2, fun i hi => ?_⟩
    rw [I_row]
    by_cases z : i = j
    · subst z
      rw [ud_at, sm_I b1 (by omega)]
    · rw [ud_ne z]
      exact b3 i (by omega)
  · rintro s ν' ⟨rfl, b1, b2, b3⟩
    unfold fn_M_takesTurn_l2
    rw [ap_ite, if_pos (show (105 : Int32) ≤ nI 105 by decide)]
    exact ⟨_, _, rfl, (), rfl, b1, b2, b3⟩
end GR
section GS
variable {P T t e : Nat} {c : Nat → Int32}
set_option maxHeartbeats 200000 in
theorem mvR_at {m own his : Nat} {c' : Nat → Int32} {i : Nat} (ho : own < 8) (hh : his < 8) (hi : 105 ≤ i) : mvR m own his c' i = c' i := by
  unfold mvR
  split
  · rw [ud_ne (by omega)]
  · split
    · rw [ud_ne (by omega)]
    · rfl
set_option maxHeartbeats 200000 in
theorem r_plays (hD : Dim c P T) (hO : Okc c P T) (ht : t < T) (he : e < T) (hne : t ≠ e) {n : Nat} (hn : n ≤ 4) : ∀ fuel j k, j < fuel → k + j = n → ∀ (ν : mM) (G : Nat → tri), RefP ν → SGm c P T t e k G (m_I ν (45, 0, 0)) → m_e (fn_M_plays fuel (some (40, 0, 0)) (nI t) (nI e) (nI k) (nI n) ν) (fun v ν' => v = gv (THG c t e) (LG c P t e) (c 4) (c 5) n j G ∧ m_I ν' (45, 0, 0) = m_I ν (45, 0, 0) ∧ m_J ν' = m_J ν ∧ sm (fun x y z k' => (x = 55 ∧ 105 * k ≤ k') ∨ (x = 40 ∧ (k' = 27 ∨ (k' = 38 ∧ k = 0))) ∨ (x = 45 ∧ y = 0 ∧ z = 0)) ν ν' ∧ (k = 0 → 0 < j → m_I ν' (40, 0, 0) 38 = (gbst 0 (okG (THG c t e) 0 G) (fun m => gv (THG c t e) (LG c P t e) (c 4) (c 5) n (j - 1) (gm' (THG c t e) (LG c P t e) (c 4) (c 5) 0 m G)) 3).2))
  | 0, j, k, h, _ => by omega
  | fuel + 1, j, k, hj, hkj => by
    intro ν G hR hS
    obtain ⟨hP0, hT0, hP6, hT8⟩ := id hD
    unfold fn_M_plays fn_M_plays_r
    rw [r_th hR, ap_ite]
    cases j with
    | zero =>
      obtain rfl : k = n := by omega
      have h0 := hS.2.2.2 0 (by omega)
      have h1 := hS.2.2.2 1 (by omega)
      have e0 : m_I ν (45, 0, 0) (41 + t) = (G 0).2.1 := by rw [← h0]; rfl
      have e1 : m_I ν (45, 0, 0) (41 + e) = (G 1).2.1 := by rw [← h1]; rfl
      rw [if_pos rfl, r_g45 hR, show (41 : Int32) = nI 41 from rfl, nI_add, nI_add, r_a45 hR (by omega), r_g45 hR, r_a45 hR (by omega), e0, e1]
      exact ⟨_, _, rfl, rfl, rfl, rfl, sm_rf, fun _ h => absurd h (Nat.lt_irrefl 0)⟩
    | succ j =>
      have hk4 : k < 4 := by omega
      have hkn : n - (j + 1) = k := by omega
      have hgv : gv (THG c t e) (LG c P t e) (c 4) (c 5) n (j + 1) G = (gbst (k % 2) (okG (THG c t e) k G) (fun m => gv (THG c t e) (LG c P t e) (c 4) (c 5) n j (gm' (THG c t e) (LG c P t e) (c 4) (c 5) k m G)) 3).1 := by
        show (gbst ((n - (j + 1)) % 2) _ _ 3).1 = _
        rw [hkn]
      rw [hgv, if_neg (fun q => by have := (nI_eq (show k < 2 ^ 31 by omega) (show n < 2 ^ 31 by omega)).mp q; omega), show j + 1 - 1 = j from rfl, iR_2 k (by omega)]
      have ih := r_plays hD hO ht he hne hn fuel j (k + 1) (by omega) (by omega)
      have hb : (m_bd (α := Int32) (if nI (k % 2) = 0 then m_rt 1 else m_rt 0) fun (t1 : Int32) => m_bd (fn_M_laysTurn (some (40, 0, 0)) (nI k)) fun _ => m_bd (m_lp (fn_M_plays_l53 (fn_M_plays fuel) (some (40, 0, 0)) (nI t) (nI e) (nI k) (nI n) t1) m_F (0, (-1), 0)) fun (t8 : Int32 × Int32) => if nI k = 0 then m_bd (m_pI 11 38 (some (40, 0, 0)) t8.2) fun _ => m_rt t8.1 else m_rt t8.1) ν = m_bd (fn_M_laysTurn (some (40, 0, 0)) (nI k)) (fun _ => m_bd (m_lp (fn_M_plays_l53 (fn_M_plays fuel) (some (40, 0, 0)) (nI t) (nI e) (nI k) (nI n) (if k % 2 = 0 then 1 else 0)) m_F (0, (-1), 0)) fun (t8 : Int32 × Int32) => if nI k = 0 then m_bd (m_pI 11 38 (some (40, 0, 0)) t8.2) fun _ => m_rt t8.1 else m_rt t8.1) ν := by
        rw [bd_ite]
        by_cases x : k % 2 = 0
        · rw [if_pos (by rw [x]; rfl), if_pos x, bd_rt]
        · rw [if_neg (nI_ne0 (by omega) (by omega)), if_neg x, bd_rt]
      refine Eq.mpr (congrArg (fun r => m_e r _) hb) ?_
      refine e_bd (r_laysTurn hR (show k < 5 by omega)) ?_
      rintro - ν1 ⟨b1, b2, b3⟩
      have hR1 := sm_R b1 hR
      have hc1 : m_I ν1 (45, 0, 0) = m_I ν (45, 0, 0) := sm_Ir b1 (by omega)
      have hmain : m_e (m_lp (fn_M_plays_l53 (fn_M_plays fuel) (some (40, 0, 0)) (nI t) (nI e) (nI k) (nI n) (if k % 2 = 0 then 1 else 0)) m_F (0, (-1), 0) ν1) (fun v ν' => v = gbst (k % 2) (okG (THG c t e) k G) (fun m => gv (THG c t e) (LG c P t e) (c 4) (c 5) n j (gm' (THG c t e) (LG c P t e) (c 4) (c 5) k m G)) 3 ∧ m_I ν' (45, 0, 0) = m_I ν (45, 0, 0) ∧ m_J ν' = m_J ν ∧ sm (fun x y z k' => (x = 55 ∧ 105 * k ≤ k') ∨ (x = 40 ∧ k' = 27) ∨ (x = 45 ∧ y = 0 ∧ z = 0)) ν ν') := by
        generalize hg : (fun m => gv (THG c t e) (LG c P t e) (c 4) (c 5) n j (gm' (THG c t e) (LG c P t e) (c 4) (c 5) k m G)) = g at *
        have hgm : ∀ m, g m = gv (THG c t e) (LG c P t e) (c 4) (c 5) n j (gm' (THG c t e) (LG c P t e) (c 4) (c 5) k m G) := fun m => by rw [← hg]
        refine e_inv (fun m s ν' => s = ((gbst (k % 2) (okG (THG c t e) k G) g m).1, (gbst (k % 2) (okG (THG c t e) k G) g m).2, nI m) ∧ m_I ν' (45, 0, 0) = m_I ν (45, 0, 0) ∧ m_J ν' = m_J ν ∧ sm (fun x y z k' => (x = 55 ∧ 105 * k ≤ k') ∨ (x = 40 ∧ k' = 27) ∨ (x = 45 ∧ y = 0 ∧ z = 0)) ν ν' ∧ ∀ i, i < 105 → m_I ν' (55, 0, 0) (105 * k + i) = m_I ν (45, 0, 0) i) 3 ?_ ?_ ⟨rfl, hc1, b2, sm_mono b1 (by omega), b3⟩ (by omega)
        · rintro m s ν2 hm ⟨rfl, d1, d2, d3, d4⟩
          have hR2 := sm_R d3 hR
          have hge : ¬ (3 : Int32) ≤ nI m := nI_ge hm (by decide)
          have hmo := r_moves (ν := ν2) (m := m) hR2 (by rw [d1]; exact hS) ht he hP6 hT8 hm
          have ho8 := tt_lt (s := k % 2) ht he
          have hh8 := tt_lt (s := 1 - k % 2) ht he
          have hown : (m_bd (α := Int32) (if (if k % 2 = 0 then (1 : Int32) else 0) = 0 then m_rt (nI e) else m_rt (nI t))) = (m_bd (m_rt (nI (ttG t e (k % 2)))) : (Int32 → mP ((Int32 × Int32 × Int32) ⊕ (Int32 × Int32))) → mP ((Int32 × Int32 × Int32) ⊕ (Int32 × Int32))) := by
            unfold ttG
            by_cases x : k % 2 = 0
            · rw [if_pos x, if_neg (by decide), if_pos x]
            · rw [if_neg x, if_pos rfl, if_neg x]
          have hhis : (m_bd (α := Int32) (if (if k % 2 = 0 then (1 : Int32) else 0) = 0 then m_rt (nI t) else m_rt (nI e))) = (m_bd (m_rt (nI (ttG t e (1 - k % 2)))) : (Int32 → mP ((Int32 × Int32 × Int32) ⊕ (Int32 × Int32))) → mP ((Int32 × Int32 × Int32) ⊕ (Int32 × Int32))) := by
            unfold ttG
            by_cases x : k % 2 = 0
            · rw [if_pos x, if_neg (by decide), if_neg (by omega)]
            · rw [if_neg x, if_pos rfl, if_pos (by omega)]
          unfold fn_M_plays_l53
          rw [ap_ite, if_neg hge, hown, bd_rt, hhis, bd_rt, bd_of hmo]
          by_cases z : okG (THG c t e) k G m = true
          · rw [if_pos z, if_pos z, d1, bd_ite, if_neg (by decide)]
            have hSm := SGm_move (m := m) hS hne ht he hP6 hT8 hm
            generalize hcm : mvR m (ttG t e (k % 2)) (ttG t e (1 - k % 2)) (m_I ν (45, 0, 0)) = cm at *
            have hR3 : RefP (m_rI ν2 (45, 0, 0) cm) := hR2
            have hc3 : cR (m_rI ν2 (45, 0, 0) cm) = cm := I_rat ν2 (45, 0, 0) cm
            have hgy := r_goesYear (μ := m_rI ν2 (45, 0, 0) cm) (P := P) (T := T) hR3 (by rw [hc3]; exact SGm_dim hSm hD)
            rw [hc3] at hgy
            have hSy := SGm_year hO hSm ht he hP6 hT8 (show k < 100 by omega)
            rw [bd_bd, bd_of hgy, bd_bd, nI_1]
            generalize hdd : m_I (m_rI ν2 (45, 0, 0) cm) (40, 0, 0) 27 + i_sum (y_dead cm) P = dd
            refine e_bd (ih (rY (m_rI ν2 (45, 0, 0) cm) (y_year cm P T) dd) (fun s => ty (THG c t e s) (c 4) (LG c P t e s (k + 1)) (mvG (c 5) k m G s)) hR3 (by rw [rY_c]; exact hSy)) ?_
            rintro _ ν4 ⟨rfl, g1, g2, g3, -⟩
            rw [rY_c] at g1
            have h4 : sm (fun x y z k' => (x = 55 ∧ 105 * k + 105 ≤ k') ∨ (x = 40 ∧ k' = 27) ∨ (x = 45 ∧ y = 0 ∧ z = 0)) ν2 ν4 := sm_tr (sm_rY (sm_rI sm_rf _ (fun _ q => absurd (.inr (.inr ⟨rfl, rfl, rfl⟩)) q)) _ _ (fun _ q => absurd (.inr (.inr ⟨rfl, rfl, rfl⟩)) q) (.inr (.inl ⟨rfl, rfl⟩))) (sm_mono g3 (by omega))
            have hR4 := sm_R h4 hR2
            rw [bd_bd]
            refine e_bd (r_takesTurn hR4 (show k < 5 by omega)) ?_
            rintro - ν5 ⟨k1, k2, k3⟩
            have hR5 := sm_R k1 hR4
            have h55 : ∀ i, i < 105 → m_I ν4 (55, 0, 0) (105 * k + i) = m_I ν (45, 0, 0) i := fun i hi => by rw [sm_I h4 (by omega), d4 i hi]
            have hc5 : m_I ν5 (45, 0, 0) = m_I ν (45, 0, 0) := by
              funext i
              by_cases y : i < 105
              · rw [k3 i y, h55 i y]
              · rw [sm_I k1 (by omega), g1, y_year_at i (by omega) hP6 hT8, ← hcm, mvR_at (by omega) (by omega) (by omega)]
            have hJ5 : m_J ν5 = m_J ν := by rw [k2, g2, rY_J, J_rI, d2]
            have hs5 : sm (fun x y z k' => (x = 55 ∧ 105 * k ≤ k') ∨ (x = 40 ∧ k' = 27) ∨ (x = 45 ∧ y = 0 ∧ z = 0)) ν ν5 := sm_tr d3 (sm_tr (sm_mono h4 (by omega)) (sm_mono k1 (by omega)))
            have hfin : ∀ m', m' = m + 1 → m_I ν5 (45, 0, 0) = m_I ν (45, 0, 0) ∧ m_J ν5 = m_J ν ∧ sm (fun x y z k' => (x = 55 ∧ 105 * k ≤ k') ∨ (x = 40 ∧ k' = 27) ∨ (x = 45 ∧ y = 0 ∧ z = 0)) ν ν5 ∧ ∀ i, i < 105 → m_I ν5 (55, 0, 0) (105 * k + i) = m_I ν (45, 0, 0) i := fun _ _ => ⟨hc5, hJ5, hs5, fun i hi => by rw [sm_I k1 (by omega)]; exact h55 i hi⟩
            have hge2 : gv (THG c t e) (LG c P t e) (c 4) (c 5) n j (fun s => ty (THG c t e s) (c 4) (LG c P t e s (k + 1)) (mvG (c 5) k m G s)) = g m := (hgm m).symm
            rw [hge2]
            have hstep : gbst (k % 2) (okG (THG c t e) k G) g (m + 1) = if okG (THG c t e) k G m = true ∧ ((gbst (k % 2) (okG (THG c t e) k G) g m).2 = -1 ∨ (if k % 2 = 0 then (gbst (k % 2) (okG (THG c t e) k G) g m).1 < g m else g m < (gbst (k % 2) (okG (THG c t e) k G) g m).1)) then (g m, nI m) else gbst (k % 2) (okG (THG c t e) k G) g m := rfl
            dsimp only
            rw [bd_ite]
            rcases gbst_w (b := k % 2) (ok := okG (THG c t e) k G) (g := g) m (by omega) with y | ⟨i, hi, y⟩
            · rw [if_pos (by rw [y]; decide)]
              refine ⟨_, _, rfl, _, rfl, ?_, hfin _ rfl⟩
              rw [hstep, if_pos ⟨z, .inl y⟩, nI_1]
            · have yn : ¬ (gbst (k % 2) (okG (THG c t e) k G) g m).2 = -1 := by rw [y]; exact nI_m1 (by omega)
              rw [if_neg (by rw [y]; exact nI_pos (by omega)), bd_ite]
              by_cases x : k % 2 = 0
              · rw [if_pos x, if_neg (by decide), bd_ite]
                by_cases u : (gbst (k % 2) (okG (THG c t e) k G) g m).1 < g m
                · rw [if_pos u]
                  refine ⟨_, _, rfl, _, rfl, ?_, hfin _ rfl⟩
                  rw [hstep, if_pos ⟨z, .inr (by rw [if_pos x]; exact u)⟩, nI_1]
                · rw [if_neg u]
                  refine ⟨_, _, rfl, _, rfl, ?_, hfin _ rfl⟩
                  rw [hstep, if_neg, nI_1]
                  rintro ⟨-, v | v⟩
                  · exact yn v
                  · rw [if_pos x] at v
                    exact u v
              · rw [if_neg x, if_pos rfl, bd_ite]
                by_cases u : g m < (gbst (k % 2) (okG (THG c t e) k G) g m).1
                · rw [if_pos u]
                  refine ⟨_, _, rfl, _, rfl, ?_, hfin _ rfl⟩
                  rw [hstep, if_pos ⟨z, .inr (by rw [if_neg x]; exact u)⟩, nI_1]
                · rw [if_neg u]
                  refine ⟨_, _, rfl, _, rfl, ?_, hfin _ rfl⟩
                  rw [hstep, if_neg, nI_1]
                  rintro ⟨-, v | v⟩
                  · exact yn v
                  · rw [if_neg x] at v
                    exact u v
          · have e : gbst (k % 2) (okG (THG c t e) k G) g (m + 1) = gbst (k % 2) (okG (THG c t e) k G) g m := if_neg fun q => z q.1
            rw [if_neg z, if_neg z, bd_ite, if_pos rfl, e]
            exact ⟨_, _, rfl, _, rfl, by rw [nI_1], d1, d2, d3, d4⟩
        · rintro s ν2 ⟨rfl, d1, d2, d3, -⟩
          unfold fn_M_plays_l53
          rw [ap_ite, if_pos (show (3 : Int32) ≤ nI 3 by decide)]
          exact ⟨_, _, rfl, _, rfl, rfl, d1, d2, d3⟩
      refine e_bd hmain ?_
      rintro _ ν2 ⟨rfl, d1, d2, d3⟩
      have hR2 := sm_R d3 hR
      rw [ap_ite]
      by_cases y : k = 0
      · subst y
        rw [if_pos (by decide), r_pI hR2]
        exact ⟨_, _, rfl, rfl, by rw [I_ne _ rfl]; exact d1, d2, sm_sI (sm_mono d3 (by omega)) _ (by omega), fun _ _ => by rw [I_row, ud_at]⟩
      · rw [if_neg (nI_ne0 (by omega) (by omega))]
        exact ⟨_, _, rfl, rfl, d1, d2, sm_mono d3 (by omega), fun q => absurd q y⟩
end GS
