/-! Part 59: what is ahead, in closed form -/
set_option maxHeartbeats 200000 in
theorem step_liv {c : Nat → Int32} {P T p : Nat} (hp : p < P) (hP : P ≤ 6) (hT : T ≤ 8) : y_step c P T (19 + p) = y_liv c p ∧ y_step c P T (7 + p) = y_age c p := by
  unfold y_step
  rw [y_bites_at (by omega) (by omega) (by omega), y_bites_at (by omega) (by omega) (by omega)]
  unfold y_ages
  constructor
  · rw [if_neg (by omega), if_pos (by omega), show 19 + p - 19 = p by omega]
  · rw [if_pos (by omega), show 7 + p - 7 = p by omega]
set_option maxHeartbeats 200000 in
theorem sts_dead {c : Nat → Int32} {P T p : Nat} (hp : p < P) (hP : P ≤ 6) (hT : T ≤ 8) (h0 : c (19 + p) = 0) : ∀ i, y_sts c P T i (19 + p) = 0
  | 0 => h0
  | i + 1 => by
    rw [y_sts, (step_liv hp hP hT).1]
    unfold y_liv
    rw [if_pos (sts_dead hp hP hT h0 i), sts_dead hp hP hT h0 i]
set_option maxHeartbeats 200000 in
theorem sts_liv {c : Nat → Int32} {P T p a lf : Nat} (hp : p < P) (hP : P ≤ 6) (hT : T ≤ 8) (h1 : c (19 + p) = 1) (ha : c (7 + p) = nI a) (ha2 : a ≤ 119) (hl : c 3 = nI lf) (hl2 : lf ≤ 120) : ∀ i, i < 2000 → ((i = 0 ∨ a + i < lf) → y_sts c P T i (19 + p) = 1 ∧ y_sts c P T i (7 + p) = nI (a + i)) ∧ (¬ (i = 0 ∨ a + i < lf) → y_sts c P T i (19 + p) = 0)
  | 0, _ => ⟨fun _ => ⟨h1, ha⟩, fun q => absurd (.inl rfl) q⟩
  | i + 1, hi => by
    obtain ⟨b1, b2⟩ := sts_liv hp hP hT h1 ha ha2 hl hl2 i (by omega)
    have e3 : y_sts c P T i 3 = nI lf := by rw [y_sts_at 3 (by omega) hP hT, hl]
    rw [y_sts, (step_liv hp hP hT).1, (step_liv hp hP hT).2]
    unfold y_liv y_age
    by_cases hq : i = 0 ∨ a + i < lf
    · obtain ⟨c1, c2⟩ := b1 hq
      have n1 : ¬ (1 : Int32) = 0 := by decide
      rw [c1, c2, e3, if_neg n1, if_neg n1, nI_1]
      constructor
      · intro q
        rw [if_neg (nI_ge (by omega) (by omega))]
        exact ⟨rfl, rfl⟩
      · intro q
        rw [if_pos (nI_le (by omega) (by omega))]
    · have c1 := b2 hq
      rw [c1, if_pos rfl]
      exact ⟨fun q => by omega, fun _ => rfl⟩
set_option maxHeartbeats 200000 in
theorem sho_sts {c : Nat → Int32} {P T p : Nat} (h : Okc c P T) (hp : p < P) (hP : P ≤ 6) (hT : T ≤ 8) {i : Nat} (hi : i < 2000) : i_sho (y_sts c P T i) p = 0 ↔ i_sha c (nI i) p = 0 := by
  obtain ⟨⟨⟨sh, hsh, esh⟩, ⟨lf, hl1, hl2, el⟩, -⟩, h2, -⟩ := id h
  obtain ⟨⟨a', ha', ea'⟩, hof, hli, hal⟩ := (h2 p hp).1
  unfold i_sho i_sha
  have e2 : y_sts c P T i 2 = c 2 := y_sts_at 2 (by omega) hP hT i
  have e13 : y_sts c P T i (13 + p) = c (13 + p) := y_sts_at _ (by omega) hP hT i
  have n1 : ¬ (1 : Int32) = 0 := by decide
  have n0 : ¬ (0 : Int32) = 1 := by decide
  rcases bn01 hli with q0 | q1
  · rw [sts_dead hp hP hT q0 i, if_neg n0, q0, if_pos rfl]
  · obtain ⟨a, ha, ea⟩ := hal.resolve_left (by rw [q1]; exact n1)
    obtain ⟨b1, b2⟩ := sts_liv hp hP hT q1 ea ha el hl2 i hi
    rw [q1, if_neg n1, e13, e2]
    by_cases hq : i = 0 ∨ a + i < lf
    · obtain ⟨c1, c2⟩ := b1 hq
      rw [c1, c2, if_pos rfl, ea, nI_add, el, esh]
      rcases bn01 hof with o0 | o1
      · rw [o0, if_neg n0, if_pos rfl]
      · rw [o1, if_pos rfl, if_neg n1]
        split
        · rfl
        · by_cases hi0 : i = 0
          · subst hi0
            rw [nI_0, if_pos rfl]
          · rw [if_neg (nI_ne0 (by omega) (by omega)), if_neg (nI_ge (by omega) (by omega))]
    · rw [b2 hq, if_neg n0, ea, nI_add, el, esh]
      refine ⟨fun _ => ?_, fun _ => rfl⟩
      rw [if_neg (nI_ne0 (by omega) (by omega)), if_pos (nI_le (by omega) (by omega))]
      split
      · rfl
      · split <;> rfl
/-- by how much t is loved when i years have gone by -/
def lvN (c : Nat → Int32) (P t i : Nat) : Int32 := i_lvf (i_sha c (nI i)) c t P
/-- one thing's coat, rust, oil, by what it is loved in each year -/
def tj (th d : Int32) (L : Nat → Int32) (s : Int32 × Int32 × Int32) : Nat → Int32 × Int32 × Int32
  | 0 => s
  | n + 1 => (q_coa (tj th d L s n).1 (q_bit (tj th d L s n).2.1 th (tj th d L s n).2.2 (L (n + 1)) d), q_rus (tj th d L s n).1 (tj th d L s n).2.1 (q_bit (tj th d L s n).2.1 th (tj th d L s n).2.2 (L (n + 1)) d), iMax 0 ((tj th d L s n).2.2 - 1))
set_option maxHeartbeats 200000 in
theorem tj_c {th d : Int32} {L L' : Nat → Int32} {s : Int32 × Int32 × Int32} : ∀ n, (∀ i, 1 ≤ i → i ≤ n → L i = L' i) → tj th d L s n = tj th d L' s n
  | 0, _ => rfl
  | n + 1, h => by
    simp only [tj]
    rw [tj_c n (fun i h1 h2 => h i h1 (by omega)), h (n + 1) (by omega) (by omega)]
abbrev th3 (c : Nat → Int32) (t : Nat) : Int32 × Int32 × Int32 := (c (33 + t), c (41 + t), c (49 + t))
set_option maxHeartbeats 200000 in
theorem sts_tj {c : Nat → Int32} {P T t : Nat} (h : Okc c P T) (ht : t < T) (hP : P ≤ 6) (hT : T ≤ 8) : ∀ n, n < 1000 → th3 (y_sts c P T n) t = tj (c (25 + t)) (c 4) (lvN c P t) (th3 c t) n
  | 0, _ => rfl
  | n + 1, hn => by
    have ih := sts_tj h ht hP hT n (by omega)
    have e1 : (tj (c (25 + t)) (c 4) (lvN c P t) (th3 c t) n).1 = y_sts c P T n (33 + t) := by rw [← ih]
    have e2 : (tj (c (25 + t)) (c 4) (lvN c P t) (th3 c t) n).2.1 = y_sts c P T n (41 + t) := by rw [← ih]
    have e3 : (tj (c (25 + t)) (c 4) (lvN c P t) (th3 c t) n).2.2 = y_sts c P T n (49 + t) := by rw [← ih]
    simp only [tj, e1, e2, e3]
    have hs : y_sts c P T (n + 1) = y_bites (y_ages (y_sts c P T n) P) P T := rfl
    obtain ⟨q1, q2, q3⟩ := y_bites_on (c := y_ages (y_sts c P T n) P) (P := P) ht hT
    have hb : y_bit (y_ages (y_sts c P T n) P) P t = q_bit (y_sts c P T n (41 + t)) (c (25 + t)) (y_sts c P T n (49 + t)) (lvN c P t (n + 1)) (c 4) := by
      unfold y_bit
      rw [y_ages_at (by omega) (by omega), y_ages_at (by omega) (by omega), y_ages_at (by omega) (by omega), y_ages_at (by omega) (by omega), y_sts_at (25 + t) (by omega) hP hT, y_sts_at 4 (by omega) hP hT]
      congr 1
      unfold lvN
      refine i_lvf_congr P (fun k hk => ?_) (fun k hk => ?_)
      · rw [← sho_sts h hk hP hT (show n + 1 < 2000 by omega)]
        have : i_sho (y_sts c P T (n + 1)) k = i_sho (y_ages (y_sts c P T n) P) k := i_sho_c (fun j hj => y_bites_at (by omega) (by omega) (by omega)) (by omega)
        rw [this]
      · rw [y_ages_at (by omega) (by omega), y_sts_at _ (by omega) hP hT]
    unfold th3
    rw [hs, q1, q2, q3, hb, y_ages_at (by omega) (by omega), y_ages_at (by omega) (by omega), y_ages_at (by omega) (by omega)]
/-- through, as the class asks -/
def thr (th ru : Int32) : Prop := ¬ ru < th
set_option maxHeartbeats 200000 in
theorem tj_thr {th d : Int32} {L : Nat → Int32} {s : Int32 × Int32 × Int32} (ho : ∀ i, bn (tj th d L s i).1 999 ∧ bn (tj th d L s i).2.1 999) {i : Nat} (h : thr th (tj th d L s i).2.1) : ∀ j, (tj th d L s (i + j)).2.1 = (tj th d L s i).2.1
  | 0 => rfl
  | j + 1 => by
    have ih := tj_thr ho h j
    show q_rus (tj th d L s (i + j)).1 (tj th d L s (i + j)).2.1 (q_bit (tj th d L s (i + j)).2.1 th (tj th d L s (i + j)).2.2 (L (i + j + 1)) d) = _
    obtain ⟨⟨co, hco, eco⟩, ⟨ru, hru, eru⟩⟩ := ho (i + j)
    have hz : q_bit (tj th d L s (i + j)).2.1 th (tj th d L s (i + j)).2.2 (L (i + j + 1)) d = 0 := by
      unfold q_bit
      rw [ih, if_neg h]
    rw [hz, eco, eru, show (0 : Int32) = nI 0 from rfl, q_rus_n (by omega) (by omega) (by omega), ← ih, eru]
    congr 1
    omega
set_option maxHeartbeats 200000 in
theorem tj_ok {c : Nat → Int32} {P T t : Nat} (h : Okc c P T) (ht : t < T) (hP : P ≤ 6) (hT : T ≤ 8) {i : Nat} (hi : i < 1000) : bn (tj (c (25 + t)) (c 4) (lvN c P t) (th3 c t) i).1 999 ∧ bn (tj (c (25 + t)) (c 4) (lvN c P t) (th3 c t) i).2.1 999 ∧ bn (tj (c (25 + t)) (c 4) (lvN c P t) (th3 c t) i).2.2 3 := by
  rw [← sts_tj h ht hP hT i hi]
  exact ((Okc_sts h hP hT i).2.2 t ht).2
set_option maxHeartbeats 200000 in
/-- once through it stays so, and its rust, too -/
theorem tj_stay {c : Nat → Int32} {P T t : Nat} (h : Okc c P T) (ht : t < T) (hP : P ≤ 6) (hT : T ≤ 8) {i j : Nat} (hij : i ≤ j) (hj : j < 1000) (hth : thr (c (25 + t)) (tj (c (25 + t)) (c 4) (lvN c P t) (th3 c t) i).2.1) : (tj (c (25 + t)) (c 4) (lvN c P t) (th3 c t) j).2.1 = (tj (c (25 + t)) (c 4) (lvN c P t) (th3 c t) i).2.1 := by
  have key : ∀ k, i + k < 1000 → (tj (c (25 + t)) (c 4) (lvN c P t) (th3 c t) (i + k)).2.1 = (tj (c (25 + t)) (c 4) (lvN c P t) (th3 c t) i).2.1 := by
    intro k
    induction k with
    | zero => exact fun _ => rfl
    | succ k ih =>
      intro hk
      have ih := ih (by omega)
      obtain ⟨⟨co, hco, eco⟩, ⟨ru, hru, eru⟩, -⟩ := tj_ok h ht hP hT (show i + k < 1000 by omega)
      show q_rus (tj (c (25 + t)) (c 4) (lvN c P t) (th3 c t) (i + k)).1 (tj (c (25 + t)) (c 4) (lvN c P t) (th3 c t) (i + k)).2.1 (q_bit (tj (c (25 + t)) (c 4) (lvN c P t) (th3 c t) (i + k)).2.1 (c (25 + t)) (tj (c (25 + t)) (c 4) (lvN c P t) (th3 c t) (i + k)).2.2 (lvN c P t (i + k + 1)) (c 4)) = _
      have hz : q_bit (tj (c (25 + t)) (c 4) (lvN c P t) (th3 c t) (i + k)).2.1 (c (25 + t)) (tj (c (25 + t)) (c 4) (lvN c P t) (th3 c t) (i + k)).2.2 (lvN c P t (i + k + 1)) (c 4) = 0 := by
        unfold q_bit
        rw [ih, if_neg hth]
      rw [hz, eco, eru, show (0 : Int32) = nI 0 from rfl, q_rus_n (by omega) (by omega) (by omega), ← ih, eru]
      congr 1
      omega
  have := key (j - i) (by omega)
  rwa [show i + (j - i) = j by omega] at this
set_option maxHeartbeats 200000 in
/-- the reference's block, t's rust in n years -/
theorem yrs_rus {c : Nat → Int32} {P T t : Nat} (h : Okc c P T) (ht : t < T) (hP : P ≤ 6) (hT : T ≤ 8) {n : Nat} (hn : n < 1000) : y_yrs c P T n (41 + t) = (tj (c (25 + t)) (c 4) (lvN c P t) (th3 c t) n).2.1 := by
  rw [← sts_tj h ht hP hT n hn, yrs_sts hP hT, ud_ne (by omega)]
set_option maxHeartbeats 200000 in
theorem yrs_thr {c : Nat → Int32} {P T t : Nat} (h : Okc c P T) (ht : t < T) (hP : P ≤ 6) (hT : T ≤ 8) {n : Nat} (hn : n < 1000) : (i_thr (y_yrs c P T n) t = 0) = ¬ thr (c (25 + t)) (tj (c (25 + t)) (c 4) (lvN c P t) (th3 c t) n).2.1 := by
  unfold i_thr thr
  rw [yrs_rus h ht hP hT hn, y_yrs_at (25 + t) (by omega) hP hT, b01]
  apply propext
  exact ⟨fun q q' => q' q, fun q => Decidable.not_not.mp q⟩
-- the reference's copies
set_option maxHeartbeats 200000 in
theorem r_puts {μ : mM} (hR : RefP μ) : fn_M_puts (some (40, 0, 0)) μ = some ((), m_rI μ (46, 0, 0) (fun k => if k < 105 then m_I μ (45, 0, 0) k else m_I μ (46, 0, 0) k)) := by
  unfold fn_M_puts
  rw [r_th hR]
  have hk := lp_nat (body := fn_M_puts_l2 (some (40, 0, 0))) (fun j => nI j) (fun j => m_rI μ (46, 0, 0) (fun k => if k < j then m_I μ (45, 0, 0) k else m_I μ (46, 0, 0) k)) 105 (x := ()) (μe := m_rI μ (46, 0, 0) (fun k => if k < 105 then m_I μ (45, 0, 0) k else m_I μ (46, 0, 0) k)) (fun j hj => ?_) ?_ (F := m_F) (by have := F_gt; omega)
  · rw [fill_0 (by intro k; omega), rI_self, nI_0] at hk
    rw [bd_of hk]
    rfl
  · have hge : ¬ (105 : Int32) ≤ nI j := nI_ge hj (by decide)
    unfold fn_M_puts_l2
    simp (disch := first | exact hC | exact hP | exact hR | ((repeat first | apply ClsP_sI | apply ClsP_sJ | apply ClsP_rI | apply ClsP_rJ | apply ClsP_rY); exact hC) | ((repeat first | apply FamP_sI | apply FamP_sJ | apply FamP_rI | apply FamP_rJ | apply FamP_rY); exact hP) | ((repeat first | apply RefP_sI | apply RefP_sJ | apply RefP_rI | apply RefP_rJ | apply RefP_rY); exact hR) | ((repeat first | apply PlanP_sI | apply PlanP_sJ | apply PlanP_rI | apply PlanP_rJ | apply PlanP_rY); exact hL) | omega) only [↓r_thb, ↓r_th, ↓r_gI, ↓r_gJ, ↓r_pI, ↓r_pJ, ↓r_g41, ↓r_g42, ↓r_g43, ↓r_g44, ↓r_g45, ↓r_g46, ↓r_g47, ↓r_g48, ↓r_g49, ↓r_g50, ↓r_g51, ↓r_g52, ↓r_g53, ↓r_g54, ↓r_g55, ↓r_g56, ↓r_g57, ↓r_g58, ↓r_a41, ↓r_a42, ↓r_a43, ↓r_a44, ↓r_a45, ↓r_a46, ↓r_a47, ↓r_a48, ↓r_a49, ↓r_a50, ↓r_a51, ↓r_a52, ↓r_a53, ↓r_a54, ↓r_a55, ↓r_a56, ↓r_a57, ↓r_a58, ↓r_t41, ↓r_t42, ↓r_t43, ↓r_t44, ↓r_t45, ↓r_t46, ↓r_t47, ↓r_t48, ↓r_t49, ↓r_t50, ↓r_t51, ↓r_t52, ↓r_t53, ↓r_t54, ↓r_t55, ↓r_t56, ↓r_t57, ↓r_t58, ↓r_l43_0, ↓r_l45_0, ↓r_l45_1, ↓r_l45_2, ↓r_l45_3, ↓r_l45_4, ↓r_l45_5, ↓r_l45_6, ↓r_l45_105, ↓r_l45_106, ↓r_l45_1508, ↓r_l45_1509, ↓r_tl45_0, ↓r_tl45_1, ↓r_tl45_2, ↓r_tl45_3, ↓r_tl45_4, ↓r_tl45_5, ↓r_tl45_6, ↓r_tl45_105, ↓r_tl45_106, ↓r_tl45_1508, ↓r_tl45_1509, ↓r_l48_0, ↓r_l56_0, ↓r_l57_0, ↓r_tl58_0, ↓r_tl58_1, ↓r_tl58_2, ↓r_tl58_3, ↓r_tl58_4, ↓bd_bd, ↓bd_rt, r_thb, r_th, r_gI, r_gJ, r_pI, r_pJ, r_g41, r_g42, r_g43, r_g44, r_g45, r_g46, r_g47, r_g48, r_g49, r_g50, r_g51, r_g52, r_g53, r_g54, r_g55, r_g56, r_g57, r_g58, r_a41, r_a42, r_a43, r_a44, r_a45, r_a46, r_a47, r_a48, r_a49, r_a50, r_a51, r_a52, r_a53, r_a54, r_a55, r_a56, r_a57, r_a58, r_t41, r_t42, r_t43, r_t44, r_t45, r_t46, r_t47, r_t48, r_t49, r_t50, r_t51, r_t52, r_t53, r_t54, r_t55, r_t56, r_t57, r_t58, r_l43_0, r_l45_0, r_l45_1, r_l45_2, r_l45_3, r_l45_4, r_l45_5, r_l45_6, r_l45_105, r_l45_106, r_l45_1508, r_l45_1509, r_tl45_0, r_tl45_1, r_tl45_2, r_tl45_3, r_tl45_4, r_tl45_5, r_tl45_6, r_tl45_105, r_tl45_106, r_tl45_1508, r_tl45_1509, r_l48_0, r_l56_0, r_l57_0, r_tl58_0, r_tl58_1, r_tl58_2, r_tl58_3, r_tl58_4, la_1, lm_1, la_2, lm_2, la_3, lm_3, la_6, lm_6, la_7, lm_7, la_8, lm_8, la_13, lm_13, la_19, lm_19, la_25, lm_25, la_33, lm_33, la_41, lm_41, la_49, lm_49, la_57, lm_57, la_60, lm_60, la_105, lm_105, la_107, lm_107, la_1508, lm_1508, la_96, lm_96, la_377, lm_377, la_1509, lm_1509, ↓reduceIte, ↓ap_ite, ↓bd_ite, bd_bd, bd_rt, ap_rt, ite_some, nI_add, nI_1, nz_1, nz_2, nz_3, nz_4, nz_5, nz_6, nz_7, nz_8, nz_9, nz_10, nz_11, nz_12, nz_m1, z_eq, if_true, if_false, e_some, ite_self, hge, sI_rI, rI_rI, I_rat, I_rne _ (show Nat.beq 45 46 = false from rfl)]
    rw [ud_fill (h := m_I μ (45, 0, 0)) (q := fun k => k < j + 1) (by intro k; omega) rfl]
  · unfold fn_M_puts_l2
    simp only [↓bd_bd, ↓bd_rt, ↓reduceIte, ↓ap_ite, ↓bd_ite, bd_bd, bd_rt, ap_rt, ite_some, nz_1, nz_2, nz_3, nz_4, nz_5, nz_6, nz_7, nz_8, nz_9, nz_10, nz_11, nz_12, nz_m1, z_eq, if_true, if_false, e_some, ite_self, (show (105 : Int32) ≤ nI 105 by decide)]
set_option maxHeartbeats 200000 in
theorem r_gives {μ : mM} (hR : RefP μ) : fn_M_gives (some (40, 0, 0)) μ = some ((), m_rI μ (45, 0, 0) (fun k => if k < 105 then m_I μ (46, 0, 0) k else m_I μ (45, 0, 0) k)) := by
  unfold fn_M_gives
  rw [r_th hR]
  have hk := lp_nat (body := fn_M_gives_l2 (some (40, 0, 0))) (fun j => nI j) (fun j => m_rI μ (45, 0, 0) (fun k => if k < j then m_I μ (46, 0, 0) k else m_I μ (45, 0, 0) k)) 105 (x := ()) (μe := m_rI μ (45, 0, 0) (fun k => if k < 105 then m_I μ (46, 0, 0) k else m_I μ (45, 0, 0) k)) (fun j hj => ?_) ?_ (F := m_F) (by have := F_gt; omega)
  · rw [fill_0 (by intro k; omega), rI_self, nI_0] at hk
    rw [bd_of hk]
    rfl
  · have hge : ¬ (105 : Int32) ≤ nI j := nI_ge hj (by decide)
    unfold fn_M_gives_l2
    simp (disch := first | exact hC | exact hP | exact hR | ((repeat first | apply ClsP_sI | apply ClsP_sJ | apply ClsP_rI | apply ClsP_rJ | apply ClsP_rY); exact hC) | ((repeat first | apply FamP_sI | apply FamP_sJ | apply FamP_rI | apply FamP_rJ | apply FamP_rY); exact hP) | ((repeat first | apply RefP_sI | apply RefP_sJ | apply RefP_rI | apply RefP_rJ | apply RefP_rY); exact hR) | ((repeat first | apply PlanP_sI | apply PlanP_sJ | apply PlanP_rI | apply PlanP_rJ | apply PlanP_rY); exact hL) | omega) only [↓r_thb, ↓r_th, ↓r_gI, ↓r_gJ, ↓r_pI, ↓r_pJ, ↓r_g41, ↓r_g42, ↓r_g43, ↓r_g44, ↓r_g45, ↓r_g46, ↓r_g47, ↓r_g48, ↓r_g49, ↓r_g50, ↓r_g51, ↓r_g52, ↓r_g53, ↓r_g54, ↓r_g55, ↓r_g56, ↓r_g57, ↓r_g58, ↓r_a41, ↓r_a42, ↓r_a43, ↓r_a44, ↓r_a45, ↓r_a46, ↓r_a47, ↓r_a48, ↓r_a49, ↓r_a50, ↓r_a51, ↓r_a52, ↓r_a53, ↓r_a54, ↓r_a55, ↓r_a56, ↓r_a57, ↓r_a58, ↓r_t41, ↓r_t42, ↓r_t43, ↓r_t44, ↓r_t45, ↓r_t46, ↓r_t47, ↓r_t48, ↓r_t49, ↓r_t50, ↓r_t51, ↓r_t52, ↓r_t53, ↓r_t54, ↓r_t55, ↓r_t56, ↓r_t57, ↓r_t58, ↓r_l43_0, ↓r_l45_0, ↓r_l45_1, ↓r_l45_2, ↓r_l45_3, ↓r_l45_4, ↓r_l45_5, ↓r_l45_6, ↓r_l45_105, ↓r_l45_106, ↓r_l45_1508, ↓r_l45_1509, ↓r_tl45_0, ↓r_tl45_1, ↓r_tl45_2, ↓r_tl45_3, ↓r_tl45_4, ↓r_tl45_5, ↓r_tl45_6, ↓r_tl45_105, ↓r_tl45_106, ↓r_tl45_1508, ↓r_tl45_1509, ↓r_l48_0, ↓r_l56_0, ↓r_l57_0, ↓r_tl58_0, ↓r_tl58_1, ↓r_tl58_2, ↓r_tl58_3, ↓r_tl58_4, ↓bd_bd, ↓bd_rt, r_thb, r_th, r_gI, r_gJ, r_pI, r_pJ, r_g41, r_g42, r_g43, r_g44, r_g45, r_g46, r_g47, r_g48, r_g49, r_g50, r_g51, r_g52, r_g53, r_g54, r_g55, r_g56, r_g57, r_g58, r_a41, r_a42, r_a43, r_a44, r_a45, r_a46, r_a47, r_a48, r_a49, r_a50, r_a51, r_a52, r_a53, r_a54, r_a55, r_a56, r_a57, r_a58, r_t41, r_t42, r_t43, r_t44, r_t45, r_t46, r_t47, r_t48, r_t49, r_t50, r_t51, r_t52, r_t53, r_t54, r_t55, r_t56, r_t57, r_t58, r_l43_0, r_l45_0, r_l45_1, r_l45_2, r_l45_3, r_l45_4, r_l45_5, r_l45_6, r_l45_105, r_l45_106, r_l45_1508, r_l45_1509, r_tl45_0, r_tl45_1, r_tl45_2, r_tl45_3, r_tl45_4, r_tl45_5, r_tl45_6, r_tl45_105, r_tl45_106, r_tl45_1508, r_tl45_1509, r_l48_0, r_l56_0, r_l57_0, r_tl58_0, r_tl58_1, r_tl58_2, r_tl58_3, r_tl58_4, la_1, lm_1, la_2, lm_2, la_3, lm_3, la_6, lm_6, la_7, lm_7, la_8, lm_8, la_13, lm_13, la_19, lm_19, la_25, lm_25, la_33, lm_33, la_41, lm_41, la_49, lm_49, la_57, lm_57, la_60, lm_60, la_105, lm_105, la_107, lm_107, la_1508, lm_1508, la_96, lm_96, la_377, lm_377, la_1509, lm_1509, ↓reduceIte, ↓ap_ite, ↓bd_ite, bd_bd, bd_rt, ap_rt, ite_some, nI_add, nI_1, nz_1, nz_2, nz_3, nz_4, nz_5, nz_6, nz_7, nz_8, nz_9, nz_10, nz_11, nz_12, nz_m1, z_eq, if_true, if_false, e_some, ite_self, hge, sI_rI, rI_rI, I_rat, I_rne _ (show Nat.beq 46 45 = false from rfl)]
    rw [ud_fill (h := m_I μ (46, 0, 0)) (q := fun k => k < j + 1) (by intro k; omega) rfl]
  · unfold fn_M_gives_l2
    simp only [↓bd_bd, ↓bd_rt, ↓reduceIte, ↓ap_ite, ↓bd_ite, bd_bd, bd_rt, ap_rt, ite_some, nz_1, nz_2, nz_3, nz_4, nz_5, nz_6, nz_7, nz_8, nz_9, nz_10, nz_11, nz_12, nz_m1, z_eq, if_true, if_false, e_some, ite_self, (show (105 : Int32) ≤ nI 105 by decide)]
set_option maxHeartbeats 200000 in
/-- what was written and is as it was counts for nothing -/
theorem sm_fix {K K' : Nat → Nat → Nat → Nat → Prop} {μ μ' : mM} (h : sm K μ μ') (hk : ∀ x y z k, K x y z k → K' x y z k ∨ (m_I μ' (x, y, z) k = m_I μ (x, y, z) k ∧ m_J μ' (x, y, z) k = m_J μ (x, y, z) k)) : sm K' μ μ' := by
  refine ⟨h.1, h.2.1, fun x y z k hn => ?_⟩
  by_cases q : K x y z k
  · exact (hk x y z k q).resolve_left hn
  · exact h.2.2 x y z k q
