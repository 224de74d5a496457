/-! Part 69zj: the class lives its years -/
/-- the class's steps -/
def ProgC (μ : mM) (g S : Nat) (e : Nat → Nat) (b : Nat → Nat → Int32) (P T : Nat) : Prop := m_I μ (13, g, 0) 1 = nI S ∧ S ≤ 30 ∧ (∀ s, s < S → e s ≤ 30) ∧ ∀ s, s < S → StepI (m_I μ (14, g, 0) s) (m_I μ (14, g, 1) s) (m_I μ (14, g, 2) s) (m_I μ (14, g, 3) s) (m_I μ (14, g, 4) s) (b s) s (e s) P T
/-- the loops that stand open -/
def stkR (μ : mM) (g : Nat) : stL → Prop
  | [] => True
  | (s, r) :: k => m_I μ (15, g, 0) k.length = nI s ∧ m_I μ (15, g, 1) k.length = nI r ∧ stkR μ g k
set_option maxHeartbeats 200000 in
theorem stkR_sm {K : Nat → Nat → Nat → Nat → Prop} {μ μ' : mM} {g n : Nat} (hs : sm K μ μ') (hk : ∀ z k, k < n → ¬ K 15 g z k) : ∀ {stk : stL}, stk.length ≤ n → stkR μ g stk → stkR μ' g stk
  | [], _, _ => trivial
  | (s, r) :: k, hl, h => by
    have hl' : k.length < n := by simp at hl; omega
    exact ⟨by rw [sm_I hs (hk 0 _ hl')]; exact h.1, by rw [sm_I hs (hk 1 _ hl')]; exact h.2.1, stkR_sm hs hk (by omega) h.2.2⟩
def Conf (μ : mM) (g a : Nat) (stk : stL) : Prop := m_I μ (13, g, 0) 10 = nI a ∧ m_I μ (13, g, 0) 13 = nI stk.length ∧ stkR μ g stk
set_option maxHeartbeats 200000 in
theorem ProgC_sm {K : Nat → Nat → Nat → Nat → Prop} {μ μ' : mM} {g S P T : Nat} {e : Nat → Nat} {b : Nat → Nat → Int32} (h : ProgC μ g S e b P T) (hs : sm K μ μ') (h1 : ¬ K 13 g 0 1) (h2 : ∀ z k, ¬ K 14 g z k) : ProgC μ' g S e b P T := by
  unfold ProgC at h ⊢
  rw [sm_I hs h1, sm_Ir hs (h2 0), sm_Ir hs (h2 1), sm_Ir hs (h2 2), sm_Ir hs (h2 3), sm_Ir hs (h2 4)]
  exact h
set_option maxHeartbeats 200000 in
theorem pl_ne {g : Nat} : ((15, g, 0) : mA) ≠ (15, g, 1) := by simp
section KR
variable {μ : mM} {f g P T S : Nat} {c : Nat → Int32} {w : Nat → Int64} {e : Nat → Nat} {b : Nat → Nat → Int32}
set_option maxHeartbeats 200000 in
theorem k_goRound (hL : PlanP μ g) (hp : ProgC μ g S e b P T) {a : Nat} {stk : stL} (hc : Conf μ g a stk) (hk : okS S e stk) (ha : a ≤ 31) : m_e (fn_Pl_goRound (some (13, g, 0)) μ) (fun _ μ' => sm (fun x y _ k => y = g ∧ ((x = 13 ∧ (k = 10 ∨ k = 13)) ∨ x = 15)) μ μ' ∧ Conf μ' g (Nz e a stk).1 (Nz e a stk).2) := by
  obtain ⟨p1, p2, p3, p4⟩ := hp
  have key : ∀ (stk : stL) (F : Nat) (μ1 : mM), stk.length < F → sm (fun x y _ k => y = g ∧ ((x = 13 ∧ (k = 10 ∨ k = 13)) ∨ x = 15)) μ μ1 → Conf μ1 g a stk → okS S e stk → m_e (m_lp (fn_Pl_goRound_l7 (some (13, g, 0))) F (nI stk.length + -1) μ1) (fun _ μ' => sm (fun x y _ k => y = g ∧ ((x = 13 ∧ (k = 10 ∨ k = 13)) ∨ x = 15)) μ μ' ∧ Conf μ' g (Nz e a stk).1 (Nz e a stk).2) := by
    intro stk
    induction stk with
    | nil =>
      intro F μ1 hF hs hc _
      obtain ⟨F', rfl⟩ : ∃ F', F = F' + 1 := ⟨F - 1, by omega⟩
      have h1 : fn_Pl_goRound_l7 (some (13, g, 0)) (nI ([] : stL).length + -1) μ1 = some (.inr (), μ1) := by
        unfold fn_Pl_goRound_l7
        rw [ap_ite, if_pos (show nI ([] : stL).length + -1 < 0 by decide)]
        rfl
      rw [lp_s, bd_of h1]
      exact ⟨(), _, rfl, hs, hc⟩
    | cons q k ih =>
      obtain ⟨s, r⟩ := q
      intro F μ1 hF hs hc hok
      obtain ⟨F', rfl⟩ : ∃ F', F = F' + 1 := ⟨F - 1, by omega⟩
      obtain ⟨c1, c2, c3, c4, c5⟩ := hc
      have hl : k.length < 3 := by have := hok.1; simp at this; omega
      obtain ⟨o1, o2, o3, o4⟩ := hok.2 (s, r) List.mem_cons_self
      simp only at o1 o2 o3 o4
      have hokk : okS S e k := ⟨by omega, fun q hq => hok.2 q (List.mem_cons_of_mem _ hq)⟩
      have hL1 := sm_P hs hL
      have et : nI ((s, r) :: k).length + -1 = nI k.length := pk_m1 k.length
      have hs4 : m_I μ1 (14, g, 4) s = nI (e s) := by rw [sm_I hs (by omega)]; exact (p4 s o1).1
      have hpos : ¬ nI k.length < 0 := nI_pos (by omega)
      rw [lp_s, et]
      by_cases z : e s = a
      · have b1 : nI r - 1 = nI (r - 1) := by rw [show (1 : Int32) = nI 1 from rfl, pk_sub (by omega)]
        have s2 : sm (fun x y _ k => y = g ∧ ((x = 13 ∧ (k = 10 ∨ k = 13)) ∨ x = 15)) μ (m_sI μ1 (15, g, 1) k.length (nI (r - 1))) := sm_sI hs _ (by omega)
        have hL2 := sm_P s2 hL
        by_cases y : 1 < r
        · have hn : ¬ nI (r - 1) ≤ 0 := nI_ge (a := 0) (by omega) (by omega)
          have h1 : fn_Pl_goRound_l7 (some (13, g, 0)) (nI k.length) μ1 = some (.inr (), m_sI (m_sI μ1 (15, g, 1) k.length (nI (r - 1))) (13, g, 0) 10 (nI (s + 1))) := by
            unfold fn_Pl_goRound_l7
            rw [ap_ite, if_neg hpos, c_plan_r6 hL1, c_plan_r11 hL1, c_plps_a hL1 (by omega) hl, c3, c_parr_a hL1 (by omega) (by omega), hs4, c_plan_gI hL1, c1, ap_ite, if_pos (by rw [z]), c_plan_r12 hL1, c_plps_a hL1 (by omega) hl, c4, b1, c_plps_t hL1 (by omega) hl, c_plan_r12 hL2, c_plps_a hL2 (by omega) hl, I_row, ud_at, ap_ite, if_neg hn, c_plan_r11 hL2, c_plps_a hL2 (by omega) hl, I_ob pl_ne, c3, nI_1, c_plan_pI hL2]
            rfl
          rw [bd_of h1]
          have e1 : Nz e a ((s, r) :: k) = (s + 1, (s, r - 1) :: k) := by
            show (if e s = a then (if 1 < r then (s + 1, (s, r - 1) :: k) else Nz e a k) else (a, (s, r) :: k)) = _
            rw [if_pos z, if_pos y]
          rw [e1]
          refine ⟨(), _, rfl, sm_sI s2 _ (by omega), by rw [I_row, ud_at], ?_, ?_, ?_, ?_⟩
          · rw [I_row, ud_ne (by decide), I_ne _ rfl, c2]
            rfl
          · rw [I_ne _ rfl, I_ob pl_ne, c3]
          · rw [I_ne _ rfl, I_row, ud_at]
          · have s3 : sm (fun x y z j => (x = 15 ∧ y = g ∧ j = k.length) ∨ x = 13) μ1 (m_sI (m_sI μ1 (15, g, 1) k.length (nI (r - 1))) (13, g, 0) 10 (nI (s + 1))) := sm_sI (sm_sI sm_rf _ (by omega)) _ (by omega)
            exact stkR_sm (n := k.length) s3 (fun z j hj => by omega) (Nat.le_refl _) c5
        · have hn : nI (r - 1) ≤ 0 := nI_le (b := 0) (by omega) (by decide)
          have h1 : fn_Pl_goRound_l7 (some (13, g, 0)) (nI k.length) μ1 = some (.inl (nI k.length + -1), m_sI (m_sI μ1 (15, g, 1) k.length (nI (r - 1))) (13, g, 0) 13 (nI k.length)) := by
            unfold fn_Pl_goRound_l7
            rw [ap_ite, if_neg hpos, c_plan_r6 hL1, c_plan_r11 hL1, c_plps_a hL1 (by omega) hl, c3, c_parr_a hL1 (by omega) (by omega), hs4, c_plan_gI hL1, c1, ap_ite, if_pos (by rw [z]), c_plan_r12 hL1, c_plps_a hL1 (by omega) hl, c4, b1, c_plps_t hL1 (by omega) hl, c_plan_r12 hL2, c_plps_a hL2 (by omega) hl, I_row, ud_at, ap_ite, if_pos hn, c_plan_pI hL2]
            rfl
          rw [bd_of h1]
          have e1 : Nz e a ((s, r) :: k) = Nz e a k := by
            show (if e s = a then (if 1 < r then (s + 1, (s, r - 1) :: k) else Nz e a k) else (a, (s, r) :: k)) = _
            rw [if_pos z, if_neg y]
          rw [e1]
          have s3 : sm (fun x y z j => (x = 15 ∧ y = g ∧ j = k.length) ∨ x = 13) μ1 (m_sI (m_sI μ1 (15, g, 1) k.length (nI (r - 1))) (13, g, 0) 13 (nI k.length)) := sm_sI (sm_sI sm_rf _ (by omega)) _ (by omega)
          refine ih F' _ (by simp at hF; omega) (sm_sI s2 _ (by omega)) ⟨?_, by rw [I_row, ud_at], stkR_sm (n := k.length) s3 (fun z j hj => by omega) (Nat.le_refl _) c5⟩ hokk
          rw [I_row, ud_ne (by decide), I_ne _ rfl, c1]
      · have h1 : fn_Pl_goRound_l7 (some (13, g, 0)) (nI k.length) μ1 = some (.inr (), μ1) := by
          have he30 := p3 s o1
          unfold fn_Pl_goRound_l7
          rw [ap_ite, if_neg hpos, c_plan_r6 hL1, c_plan_r11 hL1, c_plps_a hL1 (by omega) hl, c3, c_parr_a hL1 (by omega) (by omega), hs4, c_plan_gI hL1, c1, ap_ite, if_neg (fun q => z ((nI_eq (by omega) (by omega)).mp q))]
          rfl
        rw [bd_of h1]
        have e1 : Nz e a ((s, r) :: k) = (a, (s, r) :: k) := if_neg z
        rw [e1]
        exact ⟨(), _, rfl, hs, c1, c2, c3, c4, c5⟩
  unfold fn_Pl_goRound
  rw [c_plan_th hL, c_plan_gI hL, hc.2.1, Int32.sub_eq_add_neg]
  exact key stk m_F μ (by have := hk.1; have := F_gt; omega) sm_rf hc hk
set_option maxHeartbeats 200000 in
theorem k_soW (hL : PlanP μ g) (hP : FamP μ f) (hI : FamI μ f c w P T) (hD : Dim c P T) (hO : Okc c P T) {a e' : Nat} {b' : Nat → Int32} (ha : a < 30) (e10 : m_I μ (13, g, 0) 10 = nI a) (hs : StepI (m_I μ (14, g, 0) a) (m_I μ (14, g, 1) a) (m_I μ (14, g, 2) a) (m_I μ (14, g, 3) a) (m_I μ (14, g, 4) a) b' a e' P T) (h7 : b' 0 = 7) : fn_Pl_holds (some (13, g, 0)) (some (7, f, 0)) μ = some (if soW b' c = true then 1 else 0, μ) ∧ 9 ≤ m_I μ (14, g, 0) a := by
  obtain ⟨hP0, hT0, hP6, hT8⟩ := id hD
  obtain ⟨-, -, -, hs⟩ := hs
  unfold fn_Pl_holds soW
  rcases hs with ⟨-, e0, -⟩ | ⟨-, e0, -⟩ | ⟨-, e0, -⟩ | ⟨-, e0, -⟩ | ⟨-, e0, -⟩ | ⟨-, e0, -⟩ | ⟨-, e0, -⟩ | ⟨-, e0, -⟩ | ⟨-, e0, -⟩ | ⟨k0, e0, e6, i, hi, et, e1⟩ | ⟨k0, e0, e6, j, hj, ep, e1⟩ | ⟨e0, e6, k0, i, v, hi, hv, et, e1, em, e2⟩
  · exact absurd (h7.symm.trans e0) (by decide)
  · exact absurd (h7.symm.trans e0) (by decide)
  · exact absurd (h7.symm.trans e0) (by decide)
  · exact absurd (h7.symm.trans e0) (by decide)
  · exact absurd (h7.symm.trans e0) (by decide)
  · exact absurd (h7.symm.trans e0) (by decide)
  · exact absurd (h7.symm.trans e0) (by decide)
  · exact absurd (h7.symm.trans e0) (by decide)
  · exact absurd (h7.symm.trans e0) (by decide)
  · have hi8 : i < 8 := by omega
    refine ⟨?_, by rw [k0]; decide⟩
    rw [c_plan_th hL, c_plan_r2 hL, c_plan_gI hL, e10, c_parr_a hL (by omega) ha, k0, ap_ite, if_neg (by decide), c_fam_r8 hP, c_plan_r4 hL, c_plan_gI hL, e10, c_parr_a hL (by omega) ha, et, c_itm_r hP hi8, c_plan_r2 hL, c_plan_gI hL, e10, c_parr_a hL (by omega) ha, k0, ap_ite, if_neg (by decide), ap_ite, if_neg (by decide), ap_ite, if_neg (by decide), bd_of (k_thrT hP hI hD hi), if_pos e6, e1, nI_clamp (by omega)]
    by_cases z : i_thr c i = 0
    · rw [z, bd_cz (.inl rfl), if_neg (by decide)]
      rfl
    · have z1 : i_thr c i = 1 := by
        unfold i_thr at z ⊢
        split
        · next y => exact absurd (if_pos y) z
        · rfl
      rw [z1, bd_cz (.inr rfl), if_pos (decide_eq_true (by decide))]
      rfl
  · refine ⟨?_, by rw [k0]; decide⟩
    rw [c_plan_th hL, c_plan_r2 hL, c_plan_gI hL, e10, c_parr_a hL (by omega) ha, k0, ap_ite, if_pos rfl, c_plan_r3 hL, c_plan_gI hL, e10, c_parr_a hL (by omega) ha, ep, bd_of (k_showsAhead hP hI hD hj 0), if_neg (show ¬ b' 6 = 0 by rw [e6]; decide), if_pos e6, e1, nI_clamp (by omega)]
    have h0 := sha0 hO hj
    by_cases z : i_sho c j = 0
    · rw [h0.mpr z, bd_cz (.inl rfl), if_neg (show ¬ decide (i_sho c j ≠ 0) = true from fun q => absurd z (of_decide_eq_true q))]
      rfl
    · have z1 : i_sha c 0 j = 1 := by
        have y : i_sha c 0 j ≠ 0 := fun q => z (h0.mp q)
        unfold i_sha at y ⊢
        repeat' split at y
        all_goals first | exact absurd rfl y | skip
        all_goals simp_all
      rw [z1, bd_cz (.inr rfl), if_pos (decide_eq_true z)]
      rfl
  · have hi8 : i < 8 := by omega
    have hru := fi_rus hI hi
    rcases k0 with ⟨k0, e7⟩ | ⟨k0, e7⟩ | ⟨k0, e7⟩
    · refine ⟨?_, by rw [k0]; decide⟩
      rw [c_plan_th hL, c_plan_r2 hL, c_plan_gI hL, e10, c_parr_a hL (by omega) ha, k0, ap_ite, if_neg (by decide), c_fam_r8 hP, c_plan_r4 hL, c_plan_gI hL, e10, c_parr_a hL (by omega) ha, et, c_itm_r hP hi8, c_plan_r2 hL, c_plan_gI hL, e10, c_parr_a hL (by omega) ha, k0, ap_ite, if_pos rfl, c_thi_gI hP hi8, hru, c_plan_r5 hL, c_plan_gI hL, e10, c_parr_a hL (by omega) ha, em, ap_ite, if_neg (show ¬ b' 6 = 0 by rw [e6]; decide), if_neg (show ¬ b' 6 = 2 by rw [e6]; decide), if_pos e7, e1, e2, nI_clamp (by omega)]
      by_cases z : c (41 + i) < nI v
      · rw [if_neg (Int32.not_le.mpr z), if_pos (decide_eq_true z)]
        rfl
      · rw [if_pos (Int32.not_lt.mp z), if_neg (fun q => z (of_decide_eq_true q))]
        rfl
    · refine ⟨?_, by rw [k0]; decide⟩
      rw [c_plan_th hL, c_plan_r2 hL, c_plan_gI hL, e10, c_parr_a hL (by omega) ha, k0, ap_ite, if_neg (by decide), c_fam_r8 hP, c_plan_r4 hL, c_plan_gI hL, e10, c_parr_a hL (by omega) ha, et, c_itm_r hP hi8, c_plan_r2 hL, c_plan_gI hL, e10, c_parr_a hL (by omega) ha, k0, ap_ite, if_neg (by decide), ap_ite, if_pos rfl, c_thi_gI hP hi8, hru, c_plan_r5 hL, c_plan_gI hL, e10, c_parr_a hL (by omega) ha, em, ap_ite, if_neg (show ¬ b' 6 = 0 by rw [e6]; decide), if_neg (show ¬ b' 6 = 2 by rw [e6]; decide), if_neg (show ¬ b' 7 = 60 by rw [e7]; decide), if_pos e7, e1, e2, nI_clamp (by omega)]
      by_cases z : nI v < c (41 + i)
      · rw [if_neg (Int32.not_le.mpr z), if_pos (decide_eq_true z)]
        rfl
      · rw [if_pos (Int32.not_lt.mp z), if_neg (fun q => z (of_decide_eq_true q))]
        rfl
    · refine ⟨?_, by rw [k0]; decide⟩
      rw [c_plan_th hL, c_plan_r2 hL, c_plan_gI hL, e10, c_parr_a hL (by omega) ha, k0, ap_ite, if_neg (by decide), c_fam_r8 hP, c_plan_r4 hL, c_plan_gI hL, e10, c_parr_a hL (by omega) ha, et, c_itm_r hP hi8, c_plan_r2 hL, c_plan_gI hL, e10, c_parr_a hL (by omega) ha, k0, ap_ite, if_neg (by decide), ap_ite, if_neg (by decide), ap_ite, if_pos rfl, c_thi_gI hP hi8, hru, c_plan_r5 hL, c_plan_gI hL, e10, c_parr_a hL (by omega) ha, em, ap_ite, if_neg (show ¬ b' 6 = 0 by rw [e6]; decide), if_neg (show ¬ b' 6 = 2 by rw [e6]; decide), if_neg (show ¬ b' 7 = 60 by rw [e7]; decide), if_neg (show ¬ b' 7 = 62 by rw [e7]; decide), e1, e2, nI_clamp (by omega)]
      by_cases z : c (41 + i) = nI v
      · rw [if_pos z, if_pos (decide_eq_true z)]
        rfl
      · rw [if_neg z, if_neg (fun q => z (of_decide_eq_true q))]
        rfl
set_option maxHeartbeats 200000 in
theorem k_enterLoop (hL : PlanP μ g) (hp : ProgC μ g S e b P T) {a : Nat} {stk : stL} (hc : Conf μ g a stk) (hk : okS S e stk) (ha : a < S) (h8 : b a 0 = 8) (W : wL) : m_e (fn_Pl_enterLoop (some (13, g, 0)) μ) (fun _ μ' => sm (fun x y _ k => y = g ∧ ((x = 13 ∧ (k = 10 ∨ k = 13)) ∨ x = 15)) μ μ' ∧ Conf μ' g (exs P T S e b a stk W).1 (exs P T S e b a stk W).2.1) := by
  obtain ⟨p1, p2, p3, p4⟩ := hp
  obtain ⟨c1, c2, c3⟩ := hc
  have ha30 : a < 30 := by omega
  have hsa := p4 a ha
  have he30 := p3 a ha
  have hk3 := hk.1
  have hex : exs P T S e b a stk W = if e a ≤ a + 1 then (a + 1, stk, W) else if 3 ≤ stk.length then (a + 1, stk, W) else (a + 1, (a, (b a 1).toNatClampNeg) :: stk, W) := by
    unfold exs
    rw [if_neg (by rw [h8]; decide), if_pos h8]
  have em : ∃ v, v ≤ 99 ∧ m_I μ (14, g, 3) a = nI v ∧ b a 1 = nI v := by
    obtain ⟨-, -, -, hs⟩ := hsa
    rcases hs with ⟨-, e0, -⟩ | ⟨-, e0, -⟩ | ⟨-, e0, -⟩ | ⟨-, e0, -⟩ | ⟨-, e0, -⟩ | ⟨-, e0, -⟩ | ⟨-, e0, -⟩ | ⟨-, e0, -⟩ | ⟨-, e0, v, v1, v2, em, e1⟩ | ⟨-, e0, -⟩ | ⟨-, e0, -⟩ | ⟨e0, -⟩
    · exact absurd (h8.symm.trans e0) (by decide)
    · exact absurd (h8.symm.trans e0) (by decide)
    · exact absurd (h8.symm.trans e0) (by decide)
    · exact absurd (h8.symm.trans e0) (by decide)
    · exact absurd (h8.symm.trans e0) (by decide)
    · exact absurd (h8.symm.trans e0) (by decide)
    · exact absurd (h8.symm.trans e0) (by decide)
    · exact absurd (h8.symm.trans e0) (by decide)
    · exact ⟨v, v2, em, e1⟩
    · exact absurd (h8.symm.trans e0) (by decide)
    · exact absurd (h8.symm.trans e0) (by decide)
    · exact absurd (h8.symm.trans e0) (by decide)
  obtain ⟨v, hv, em, e1⟩ := em
  have hle : (nI (e a) ≤ nI (a + 1)) = (e a ≤ a + 1) := nI_leq (by omega) (by omega)
  unfold fn_Pl_enterLoop
  rw [c_plan_th hL, c_plan_r6 hL, c_plan_gI hL, c1, c_parr_a hL (by omega) ha30, hsa.1, c_plan_gI hL, c1, nI_1, bd_ite, hex]
  have hplain : m_e (m_bd (m_rt ()) (fun (_ : Unit) => m_bd (m_gI 6 10 (some (13, g, 0))) fun v16 => m_bd (m_pI 6 10 (some (13, g, 0)) (v16 + 1)) fun _ => m_rt ()) μ) (fun _ μ' => sm (fun x y _ k => y = g ∧ ((x = 13 ∧ (k = 10 ∨ k = 13)) ∨ x = 15)) μ μ' ∧ Conf μ' g (a + 1) stk) := by
    rw [bd_rt, c_plan_gI hL, c1, nI_1, c_plan_pI hL]
    have s1 : sm (fun x y _ k => x = 13 ∧ y = g ∧ k = 10) μ (m_sI μ (13, g, 0) 10 (nI (a + 1))) := sm_sI sm_rf _ ⟨rfl, rfl, rfl⟩
    exact ⟨(), _, rfl, sm_mono s1 (by omega), by rw [I_row, ud_at], by rw [sm_I s1 (by omega), c2], stkR_sm (n := 3) s1 (fun z j hj => by omega) hk3 c3⟩
  by_cases z : e a ≤ a + 1
  · rw [if_pos (by rw [hle]; exact z), if_pos z]
    exact hplain
  · rw [if_neg (by rw [hle]; exact z), if_neg z, bd_bd, c_plan_gI hL, c2, bd_ite]
    by_cases y : 3 ≤ stk.length
    · rw [if_pos (show (3 : Int32) ≤ nI stk.length from nI_le (a := 3) y (by omega)), if_pos y]
      exact hplain
    · have hl : stk.length < 3 := by omega
      have s1 : sm (fun x y _ k => y = g ∧ ((x = 13 ∧ (k = 10 ∨ k = 13)) ∨ x = 15 ∧ k = stk.length)) μ (m_sI μ (15, g, 0) stk.length (nI a)) := sm_sI sm_rf _ (by omega)
      have hL1 := sm_P s1 hL
      have s2 := sm_sI (x := 15) (y := g) (z := 1) (k := stk.length) s1 (nI v) (by omega)
      have hL2 := sm_P s2 hL
      have s3 := sm_sI (x := 13) (y := g) (z := 0) (k := 13) s2 (nI (stk.length + 1)) (by omega)
      have hL3 := sm_P s3 hL
      have s4 := sm_sI (x := 13) (y := g) (z := 0) (k := 10) s3 (nI (a + 1)) (by omega)
      rw [if_neg (show ¬ (3 : Int32) ≤ nI stk.length from nI_ge (b := 3) hl (by omega)), if_neg y, bd_bd, c_plan_r11 hL, bd_bd, c_plan_gI hL, c2, bd_bd, c_plan_gI hL, c1, bd_bd, c_plps_t hL (by omega) hl, bd_bd, c_plan_r12 hL1, bd_bd, c_plan_gI hL1, I_ne _ rfl, c2, bd_bd, c_plan_r5 hL1, bd_bd, c_plan_gI hL1, I_ne _ rfl, c1, bd_bd, c_parr_a hL1 (by omega) ha30, I_ne _ rfl, em, bd_bd, c_plps_t hL1 (by omega) hl, bd_bd, c_plan_gI hL2, I_ne _ rfl, I_ne _ rfl, c2, nI_1, bd_bd, c_plan_pI hL2, bd_rt, c_plan_gI hL3, I_row, ud_ne (by decide), I_ne _ rfl, I_ne _ rfl, c1, nI_1, c_plan_pI hL3]
      refine ⟨(), _, rfl, sm_mono s4 (by omega), by rw [I_row, ud_at], ?_, ?_, ?_, ?_⟩
      · rw [I_row, ud_ne (by decide), I_row, ud_at]
        rfl
      · rw [I_ne _ rfl, I_ne _ rfl, I_ob pl_ne, I_row, ud_at]
      · rw [I_ne _ rfl, I_ne _ rfl, I_row, ud_at, e1, nI_clamp (by omega)]
      · exact stkR_sm (n := stk.length) s4 (fun z j hj => by omega) (Nat.le_refl _) c3
end KR
