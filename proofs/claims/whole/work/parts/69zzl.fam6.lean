/-! Part 69zzl: all clauses, both sides -/
section KL
variable {μ μ' : mM} {B : Nat → Int32} {u : Nat → Nat} {L p f P T M : Nat} {c : Nat → Int32} {w : Nat → Int64}
set_option maxHeartbeats 200000 in
theorem k_dfl (hP : FamP μ f) {k : Nat} {d : Int32} {K : Unit → mP Unit} : m_bd (m_gI 3 k (some (7, f, 0))) (fun v => m_bd (if v = -1 then m_rt d else m_bd (m_gI 3 k (some (7, f, 0))) fun v2 => m_rt v2) fun t => m_bd (m_pI 3 k (some (7, f, 0)) t) K) μ = K () (m_sI μ (7, f, 0) k (if m_I μ (7, f, 0) k = -1 then d else m_I μ (7, f, 0) k)) := by
  rw [c_fam_gI hP, bd_ite]
  by_cases z : m_I μ (7, f, 0) k = -1
  · rw [if_pos z, if_pos z, bd_rt, c_fam_pI hP]
  · rw [if_neg z, if_neg z, bd_bd, c_fam_gI hP, bd_rt, c_fam_pI hP]
set_option maxHeartbeats 200000 in
theorem k_setDefaults (hP : FamP μ f) : m_e (fn_Re_setDefaults (some (7, f, 0)) μ) (fun _ μ' => sm (fun x y _ k => x = 7 ∧ y = f ∧ 2 ≤ k ∧ k < 6) μ μ' ∧ ∀ k, 2 ≤ k → k < 6 → m_I μ' (7, f, 0) k = if m_I μ (7, f, 0) k = -1 then dfl k else m_I μ (7, f, 0) k) := by
  have s1 : sm (fun x y _ k => x = 7 ∧ y = f ∧ 2 ≤ k ∧ k < 6) μ (m_sI μ (7, f, 0) 2 (if m_I μ (7, f, 0) 2 = -1 then 40 else m_I μ (7, f, 0) 2)) := sm_sI sm_rf _ (by omega)
  unfold fn_Re_setDefaults
  rw [k_dfl hP]
  generalize hμ1 : m_sI μ (7, f, 0) 2 (if m_I μ (7, f, 0) 2 = -1 then 40 else m_I μ (7, f, 0) 2) = μ1 at *
  have s2 := sm_sI (x := 7) (y := f) (z := 0) (k := 3) s1 (if m_I μ1 (7, f, 0) 3 = -1 then 70 else m_I μ1 (7, f, 0) 3) (by omega)
  rw [k_dfl (sm_F s1 hP)]
  generalize hμ2 : m_sI μ1 (7, f, 0) 3 (if m_I μ1 (7, f, 0) 3 = -1 then 70 else m_I μ1 (7, f, 0) 3) = μ2 at *
  have s3 := sm_sI (x := 7) (y := f) (z := 0) (k := 4) s2 (if m_I μ2 (7, f, 0) 4 = -1 then 4 else m_I μ2 (7, f, 0) 4) (by omega)
  rw [k_dfl (sm_F s2 hP)]
  generalize hμ3 : m_sI μ2 (7, f, 0) 4 (if m_I μ2 (7, f, 0) 4 = -1 then 4 else m_I μ2 (7, f, 0) 4) = μ3 at *
  have e3 : m_I μ1 (7, f, 0) 3 = m_I μ (7, f, 0) 3 := by rw [← hμ1, I_row, ud_ne (by decide)]
  have e4 : m_I μ2 (7, f, 0) 4 = m_I μ (7, f, 0) 4 := by rw [← hμ2, I_row, ud_ne (by decide), ← hμ1, I_row, ud_ne (by decide)]
  have e5 : m_I μ3 (7, f, 0) 5 = m_I μ (7, f, 0) 5 := by rw [← hμ3, I_row, ud_ne (by decide), ← hμ2, I_row, ud_ne (by decide), ← hμ1, I_row, ud_ne (by decide)]
  have hP3 := sm_F s3 hP
  have s4 := sm_sI (x := 7) (y := f) (z := 0) (k := 5) s3 (if m_I μ (7, f, 0) 5 = -1 then 3 else m_I μ (7, f, 0) 5) (by omega)
  have fin : ∀ k, 2 ≤ k → k < 6 → m_I (m_sI μ3 (7, f, 0) 5 (if m_I μ (7, f, 0) 5 = -1 then 3 else m_I μ (7, f, 0) 5)) (7, f, 0) k = if m_I μ (7, f, 0) k = -1 then dfl k else m_I μ (7, f, 0) k := by
    intro k k1 k2
    obtain rfl | rfl | rfl | rfl : k = 2 ∨ k = 3 ∨ k = 4 ∨ k = 5 := by omega
    · rw [I_row, ud_ne (by decide), ← hμ3, I_row, ud_ne (by decide), ← hμ2, I_row, ud_ne (by decide), ← hμ1, I_row, ud_at]
      rfl
    · rw [I_row, ud_ne (by decide), ← hμ3, I_row, ud_ne (by decide), ← hμ2, I_row, ud_at, e3]
      rfl
    · rw [I_row, ud_ne (by decide), ← hμ3, I_row, ud_at, e4]
      rfl
    · rw [I_row, ud_at]
      rfl
  rw [c_fam_gI hP3, e5, ap_ite]
  by_cases z : m_I μ (7, f, 0) 5 = -1
  · rw [if_pos z] at s4 fin ⊢
    rw [c_fam_pI hP3]
    exact ⟨_, _, rfl, s4, fin⟩
  · rw [if_neg z] at s4 fin ⊢
    rw [c_fam_gI hP3, e5, c_fam_pI hP3]
    exact ⟨_, _, rfl, s4, fin⟩
set_option maxHeartbeats 200000 in
theorem k_clear {g : Nat} (hP : FamP μ f) (hG : PlanP μ g) (h9 : m_R μ (7, f, 0) 9 = some (13, g, 0)) : m_e (fn_Re_clear (some (7, f, 0)) μ) (fun _ μ' => sm (fun x y _ k => (x = 7 ∧ y = f ∧ k < 7) ∨ (x = 13 ∧ y = g ∧ k < 2)) μ μ' ∧ m_I μ' (13, g, 0) 0 = 0 ∧ m_I μ' (13, g, 0) 1 = 0 ∧ ∀ k, k < 7 → m_I μ' (7, f, 0) k = if 2 ≤ k ∧ k < 6 then -1 else 0) := by
  have s0 : sm (fun x y _ k => (x = 7 ∧ y = f ∧ k < 7) ∨ (x = 13 ∧ y = g ∧ k < 2)) μ (m_sI μ (7, f, 0) 0 0) := sm_sI sm_rf _ (by omega)
  have s1 := sm_sI (x := 7) (y := f) (z := 0) (k := 1) s0 0 (by omega)
  have s2 := sm_sI (x := 7) (y := f) (z := 0) (k := 2) s1 (-1) (by omega)
  have s3 := sm_sI (x := 7) (y := f) (z := 0) (k := 3) s2 (-1) (by omega)
  have s4 := sm_sI (x := 7) (y := f) (z := 0) (k := 4) s3 (-1) (by omega)
  have s5 := sm_sI (x := 7) (y := f) (z := 0) (k := 5) s4 (-1) (by omega)
  have s6 := sm_sI (x := 7) (y := f) (z := 0) (k := 6) s5 0 (by omega)
  unfold fn_Re_clear
  rw [c_fam_pI hP, c_fam_pI (sm_F s0 hP), c_fam_pI (sm_F s1 hP), c_fam_pI (sm_F s2 hP), c_fam_pI (sm_F s3 hP), c_fam_pI (sm_F s4 hP), c_fam_pI (sm_F s5 hP), c_fam_gR (sm_F s6 hP)]
  have hk : ∀ k, k < 7 → m_I (m_sI (m_sI (m_sI (m_sI (m_sI (m_sI (m_sI μ (7, f, 0) 0 0) (7, f, 0) 1 0) (7, f, 0) 2 (-1)) (7, f, 0) 3 (-1)) (7, f, 0) 4 (-1)) (7, f, 0) 5 (-1)) (7, f, 0) 6 0) (7, f, 0) k = if 2 ≤ k ∧ k < 6 then -1 else 0 := by
    intro k hk
    obtain rfl | rfl | rfl | rfl | rfl | rfl | rfl : k = 0 ∨ k = 1 ∨ k = 2 ∨ k = 3 ∨ k = 4 ∨ k = 5 ∨ k = 6 := by omega
    all_goals simp [I_row, ud]
  have h9' : m_R (m_sI (m_sI (m_sI (m_sI (m_sI (m_sI (m_sI μ (7, f, 0) 0 0) (7, f, 0) 1 0) (7, f, 0) 2 (-1)) (7, f, 0) 3 (-1)) (7, f, 0) 4 (-1)) (7, f, 0) 5 (-1)) (7, f, 0) 6 0) (7, f, 0) 9 = some (13, g, 0) := h9
  rw [h9']
  generalize m_sI (m_sI (m_sI (m_sI (m_sI (m_sI (m_sI μ (7, f, 0) 0 0) (7, f, 0) 1 0) (7, f, 0) 2 (-1)) (7, f, 0) 3 (-1)) (7, f, 0) 4 (-1)) (7, f, 0) 5 (-1)) (7, f, 0) 6 0 = μ1 at *
  have hG1 := sm_P s6 hG
  have s7 := sm_sI (x := 13) (y := g) (z := 0) (k := 0) s6 0 (by omega)
  have s8 := sm_sI (x := 13) (y := g) (z := 0) (k := 1) s7 0 (by omega)
  have hcl : fn_Pl_clear (some (13, g, 0)) μ1 = some ((), m_sI (m_sI μ1 (13, g, 0) 0 0) (13, g, 0) 1 0) := by
    unfold fn_Pl_clear
    rw [c_plan_th hG1, c_plan_pZ hG1 (.inl rfl), c_plan_pI (show PlanP (m_sI μ1 (13, g, 0) 0 0) g from hG1)]
    rfl
  rw [bd_of hcl]
  exact ⟨_, _, rfl, s8, by rw [I_row, ud_ne (by decide), I_row, ud_at], by rw [I_row, ud_at], fun k hk' => by rw [I_ne _ rfl, I_ne _ rfl, hk k hk']⟩
set_option maxHeartbeats 200000 in
theorem c_ne1 (h : ZF P T M c) : ∀ k, 2 ≤ k → k < 6 → ¬ c k = -1 := by
  obtain ⟨-, ⟨⟨⟨n1, m1, o1⟩, ⟨n2, m2, m2', o2⟩, ⟨n3, m3, o3⟩, ⟨n4, m4, o4⟩, -⟩, -⟩, -⟩ := h
  intro k k1 k2 e
  have hn : ∀ n, n ≤ 120 → ¬ nI n = -1 := fun n hn q => by
    have h1 := nI_pos (n := n) (by omega)
    rw [q] at h1
    exact h1 (by decide)
  obtain rfl | rfl | rfl | rfl : k = 2 ∨ k = 3 ∨ k = 4 ∨ k = 5 := by omega
  · exact hn n1 (by omega) (o1 ▸ e)
  · exact hn n2 (by omega) (o2 ▸ e)
  · exact hn n3 (by omega) (o3 ▸ e)
  · exact hn n4 (by omega) (o4 ▸ e)
set_option maxHeartbeats 200000 in
/-- all clauses, the class -/
theorem k_clauses : ∀ n i F p P T M c w μ, L - p < n → n < F → L ≤ 900 → EvC μ B u L f c w P T M → TkC μ u L p → p ≤ L → i ≤ p → ZF P T M c → m_e (m_lp (fn_Re_takeFamily_l6 (some (5, 0, 0)) (some (7, f, 0))) F (nI i) μ) (fun r μ' => sm (KF f) μ μ' ∧ (∀ p' s, gIt u L n (p, (P, T, M, c, w)) = .inr (p', s) → r = 1 ∧ m_I μ' (5, 0, 0) 10 = m_I μ (5, 0, 0) 10 ∧ m_I μ' (5, 0, 0) 11 = m_I μ (5, 0, 0) 11 ∧ FamI μ' f s.2.2.2.1 s.2.2.2.2 s.1 s.2.1) ∧ ∀ fl, gIt u L n (p, (P, T, M, c, w)) = .inl fl → r = 0 ∧ FtC μ' fl) := by
  intro n
  induction n with
  | zero =>
    intro i F p P T M c w μ hn
    exact absurd hn (Nat.not_lt_zero _)
  | succ n ih =>
    intro i F p P T M c w μ hn hF hL h hk hp hi hZ
    obtain ⟨F', rfl⟩ : ∃ F', F = F' + 1 := ⟨F - 1, by omega⟩
    obtain ⟨hC, hP, hT, hB, hFm⟩ := id h
    have hK := tK_le (u := u) (L := L) (p := p)
    rw [lp_s]
    unfold fn_Re_takeFamily_l6 gIt
    rw [bd_ite, if_neg (show ¬ (900 : Int32) < nI i from Int32.not_lt.mpr (nI_le (b := 900) (by omega) (by omega))), bd_bd, c_text_gI hC, hk.2.1, bd_ite]
    by_cases z : tK u L p = 0
    · rw [if_pos (show nI (tK u L p) = 0 by rw [z]; rfl), if_pos z, bd_bd]
      refine e_bd (k_setDefaults hP) ?_
      rintro - μ1 ⟨s1, g1⟩
      rw [bd_rt]
      refine ⟨_, _, rfl, sm_mono s1 (by unfold KF; omega), fun p' s q => ?_, fun fl q => (by cases q)⟩
      cases q
      refine ⟨rfl, by rw [sm_I s1 (by omega)], by rw [sm_I s1 (by omega)], ?_⟩
      obtain ⟨⟨a1, a2, a3, a4, a5, a6⟩, hF2, hF3⟩ := hFm
      obtain ⟨⟨d1, d2, d3, d4⟩, -, -, h6, -, -, -, hd⟩ := id hZ
      have hne := c_ne1 hZ
      refine ⟨fun k hk => ?_, fun p hp => ?_, fun t ht => ?_⟩
      · show m_I μ1 (7, f, 0) k = c k
        by_cases y : 2 ≤ k ∧ k < 6
        · rw [g1 k y.1 y.2, a6 k y.1 y.2]
          by_cases x : M.testBit k = true
          · rw [if_pos x, if_neg (hne k y.1 y.2)]
          · rw [if_neg x, if_pos rfl, hd k y.1 y.2 x]
        · rw [sm_I s1 (by omega)]
          obtain rfl | rfl | rfl : k = 0 ∨ k = 1 ∨ k = 6 := by omega
          · rw [a1, d1]
          · rw [a2, d2]
          · rw [a3, h6]
      · obtain ⟨b1, b2, b3, b4, b5⟩ := hF2 p hp
        exact ⟨by rw [sm_I s1 (by omega), b1], by rw [sm_I s1 (by omega), b2], by rw [sm_I s1 (by omega), b3], by rw [sm_J s1 (by omega), b4], fun t ht => by rw [sm_I s1 (by omega), b5 t ht]⟩
      · obtain ⟨b1, b2, b3, b4, b5⟩ := hF3 t ht
        exact ⟨by rw [sm_I s1 (by omega), b1], by rw [sm_I s1 (by omega), b2], by rw [sm_I s1 (by omega), b3], by rw [sm_I s1 (by omega), b4], by rw [sm_J s1 (by omega), b5]⟩
    · rw [if_neg (show ¬ nI (tK u L p) = 0 from fun q => z ((nI_eq (b := 0) (by omega) (by omega)).mp q)), if_neg z, bd_bd, bd_of (k_is hC hT hB hk (j := 0) (by omega)), bd_bd]
      dsimp only
      obtain ⟨-, -, -, -, z1, z2, -, -⟩ := id hZ
      refine e_bd (k_clause h hk hp (c_ne1 hZ) (fun q t ht => z2 P (Nat.le_refl P) q t ht) z1) ?_
      rintro r μ1 ⟨s1, g1, g2⟩
      cases hr : bG (gCl u L p P T M c w) (wE u L) with
      | inl fl =>
        obtain ⟨rfl, hE⟩ := g2 fl hr
        rw [bd_ite, if_pos rfl, bd_rt, bG_l]
        exact ⟨_, _, rfl, s1, fun p' s q => (by cases q), fun fl' q => by cases q; exact ⟨rfl, hE⟩⟩
      | inr q =>
        obtain ⟨p1, P1, T1, M1, c1, w1⟩ := q
        obtain ⟨rfl, k1, l1, e10, e11, f1⟩ := g1 p1 _ hr
        obtain ⟨y1, y2, y3⟩ := gE_Z hZ hp hr
        rw [bd_ite, if_neg (by decide), bd_rt, nI_1, bG_r]
        refine e_mono (ih (i + 1) F' p1 P1 T1 M1 c1 w1 μ1 (by omega) (by omega) hL ⟨sm_C s1 hC, sm_F s1 hP, TxB_sm hT s1 (by unfold KF; omega) (by unfold KF; omega), hB, f1⟩ k1 y2 (by omega) y3) ?_
        rintro r μ2 ⟨s2, b1, b2⟩
        refine ⟨sm_tr s1 s2, fun p' s q => ?_, b2⟩
        obtain ⟨b3, b4, b5, b6⟩ := b1 p' s q
        exact ⟨b3, b4.trans e10, b5.trans e11, b6⟩
set_option maxHeartbeats 200000 in
/-- all clauses, the reference -/
theorem r_clauses : ∀ n F p P T M c w ν, L - p < n → n < F → EvR ν B u L c w P T M → TkR ν u L p → p ≤ L → ZF P T M c → m_e (m_lp (fn_M_family_l33 (some (40, 0, 0))) F () ν) (fun _ ν' => sm KG ν ν' ∧ (∀ p' s, gIt u L n (p, (P, T, M, c, w)) = .inr (p', s) → m_I ν' (40, 0, 0) 12 = 0 ∧ SR s ν') ∧ ∀ fl, gIt u L n (p, (P, T, M, c, w)) = .inl fl → Er ν' fl) := by
  intro n
  induction n with
  | zero =>
    intro F p P T M c w ν hn
    exact absurd hn (Nat.not_lt_zero _)
  | succ n ih =>
    intro F p P T M c w ν hn hF h hk hp hZ
    obtain ⟨F', rfl⟩ : ∃ F', F = F' + 1 := ⟨F - 1, by omega⟩
    obtain ⟨hR, hT, hB, hFm, hD, h25, hM, h0⟩ := id h
    have hK := tK_le (u := u) (L := L) (p := p)
    rw [lp_s]
    unfold fn_M_family_l33 gIt
    rw [bd_bd, r_gI hR, h0, bd_ite, if_pos rfl, bd_bd, r_gI hR, hk.2.1, bd_ite]
    by_cases z : tK u L p = 0
    · rw [if_pos (show nI (tK u L p) = 0 by rw [z]; rfl), if_pos z, bd_rt]
      refine ⟨_, _, rfl, sm_rf, fun p' s q => ?_, fun fl q => (by cases q)⟩
      cases q
      exact ⟨h0, hFm, h25⟩
    · rw [if_neg (show ¬ nI (tK u L p) = 0 from fun q => z ((nI_eq (b := 0) (by omega) (by omega)).mp q)), if_neg z]
      refine e_bd (r_clause h hk hp) ?_
      rintro r ν1 ⟨rfl, s1, g1, g2⟩
      dsimp only
      have hR1 := sm_R s1 hR
      cases hr : bG (gCl u L p P T M c w) (wE u L) with
      | inl fl =>
        have hE := g2 fl hr
        obtain ⟨F2, rfl⟩ : ∃ F2, F' = F2 + 1 := ⟨F' - 1, by omega⟩
        rw [lp_s, bd_bd, r_gI hR1, bd_ite, if_neg (Er_0 hE).1, bd_rt, bG_l]
        exact ⟨_, _, rfl, s1, fun p' s q => (by cases q), fun fl' q => by cases q; exact hE⟩
      | inr q =>
        obtain ⟨p1, P1, T1, M1, c1, w1⟩ := q
        obtain ⟨z1, k1, l1, f1, e1⟩ := g1 p1 _ hr
        obtain ⟨y1, y2, y3⟩ := gE_Z hZ hp hr
        rw [bG_r]
        refine e_mono (ih F' p1 P1 T1 M1 c1 w1 ν1 (by omega) (by omega) ⟨hR1, RxB_sm hT s1 (by unfold KG; omega) (by unfold KG; omega), hB, f1, y3.1, e1, y3.2.2.1, z1⟩ k1 y2 y3) ?_
        rintro r ν2 ⟨s2, b1, b2⟩
        exact ⟨sm_tr s1 s2, b1, b2⟩
set_option maxHeartbeats 200000 in
/-- an empty block -/
theorem r_empties {ν : mM} (hR : RefP ν) {b : Nat} (hb : b < 5) : m_e (fn_M_empties (some (40, 0, 0)) (nI b) ν) (fun _ ν' => sm (fun x _ _ k => x = 45 ∧ 377 * b ≤ k ∧ k < 377 * b + 377) ν ν' ∧ ∀ k, k < 377 → m_I ν' (45, 0, 0) (377 * b + k) = if 2 ≤ k ∧ k < 6 then dfl k else 0) := by
  unfold fn_M_empties
  rw [r_th hR]
  refine e_bd (R := fun _ ν' => sm (fun x _ _ k => x = 45 ∧ 377 * b ≤ k ∧ k < 377 * b + 377) ν ν' ∧ ∀ k, k < 377 → m_I ν' (45, 0, 0) (377 * b + k) = 0) ?_ ?_
  · refine e_inv (fun i s ν' => s = nI i ∧ sm (fun x _ _ k => x = 45 ∧ 377 * b ≤ k ∧ k < 377 * b + 377) ν ν' ∧ ∀ k, k < i → m_I ν' (45, 0, 0) (377 * b + k) = 0) 377 ?_ ?_ ⟨rfl, sm_rf, fun k hk => absurd hk (Nat.not_lt_zero k)⟩ (by omega)
    · rintro i s ν' hi ⟨rfl, b1, b2⟩
      have hR := sm_R b1 hR
      have hge : ¬ (377 : Int32) ≤ nI i := nI_ge hi (by decide)
      unfold fn_M_empties_l8
      rw [ap_ite, if_neg hge, r_g45 hR, show (377 : Int32) = nI 377 from rfl, pk_mul, nI_add, r_t45 hR (by omega)]
      refine ⟨_, _, rfl, _, rfl, nI_1 i, sm_sI b1 _ (by omega), fun k hk => ?_⟩
      rw [I_row]
      by_cases z : k = i
      · subst z
        rw [ud_at]
      · rw [ud_ne (by omega)]
        exact b2 k (by omega)
    · rintro s ν' ⟨rfl, b1, b2⟩
      unfold fn_M_empties_l8
      rw [ap_ite, if_pos (show (377 : Int32) ≤ nI 377 by decide)]
      exact ⟨_, _, rfl, (), rfl, b1, b2⟩
  · rintro - ν1 ⟨b1, b2⟩
    have hR1 := sm_R b1 hR
    have s2 := sm_sI (x := 45) (y := 0) (z := 0) (k := 377 * b + 2) b1 40 (by omega)
    have s3 := sm_sI (x := 45) (y := 0) (z := 0) (k := 377 * b + 3) s2 70 (by omega)
    have s4 := sm_sI (x := 45) (y := 0) (z := 0) (k := 377 * b + 4) s3 4 (by omega)
    have s5 := sm_sI (x := 45) (y := 0) (z := 0) (k := 377 * b + 5) s4 3 (by omega)
    have n : ∀ j, (377 : Int32) * nI b + nI j = nI (377 * b + j) := fun j => by rw [show (377 : Int32) = nI 377 from rfl, pk_mul, nI_add]
    have n2 : (377 : Int32) * nI b + 2 = nI (377 * b + 2) := n 2
    have n3 : (377 : Int32) * nI b + 3 = nI (377 * b + 3) := n 3
    have n4 : (377 : Int32) * nI b + 4 = nI (377 * b + 4) := n 4
    have n5 : (377 : Int32) * nI b + 5 = nI (377 * b + 5) := n 5
    rw [r_g45 hR1, n2, r_t45 hR1 (by omega), r_g45 (sm_R s2 hR), n3, r_t45 (sm_R s2 hR) (by omega), r_g45 (sm_R s3 hR), n4, r_t45 (sm_R s3 hR) (by omega), r_g45 (sm_R s4 hR), n5, r_t45 (sm_R s4 hR) (by omega)]
    refine ⟨_, _, rfl, s5, fun k hk => ?_⟩
    rw [I_row, I_row, I_row, I_row]
    by_cases k5 : k = 5
    · subst k5
      rw [ud_at]
      rfl
    rw [ud_ne (by omega)]
    by_cases k4 : k = 4
    · subst k4
      rw [ud_at]
      rfl
    rw [ud_ne (by omega)]
    by_cases k3 : k = 3
    · subst k3
      rw [ud_at]
      rfl
    rw [ud_ne (by omega)]
    by_cases k2 : k = 2
    · subst k2
      rw [ud_at]
      rfl
    rw [ud_ne (by omega), b2 k hk, if_neg (by omega)]
end KL
