/-! Part 69zm: the reference lives its years -/
section RL
variable {ν : mM} {P T S : Nat} {c c0 : Nat → Int32} {e : Nat → Nat} {b : Nat → Nat → Int32}
set_option maxHeartbeats 200000 in
theorem runL_cong {r a a' : Nat} {stk stk' : stL} {W : wL} (h : Nz e a stk = Nz e a' stk') : runL P T S e b r a stk W = runL P T S e b r a' stk' W := by
  cases r with
  | zero =>
    unfold runL
    rw [h]
  | succ r =>
    unfold runL
    rw [h]
set_option maxHeartbeats 200000 in
theorem topL_le {hi hi' : Nat} {stk : stL} (h : topL e hi stk) (l : hi' ≤ hi) : topL e hi' stk := by
  cases stk with
  | nil => trivial
  | cons q k => exact Nat.le_trans l h
set_option maxHeartbeats 200000 in
theorem runL_s {r a hi : Nat} {stk : stL} {W : wL} (h : topL e hi stk) (ha : a < hi) (hS : a < S) : runL P T S e b (r + 1) a stk W = runL P T S e b r (exs P T S e b a stk W).1 (exs P T S e b a stk W).2.1 (exs P T S e b a stk W).2.2 := by
  have h1 := Nz_top h ha
  show (if S ≤ (Nz e a stk).1 then (W, r + 1, false) else runL P T S e b r (exs P T S e b (Nz e a stk).1 (Nz e a stk).2 W).1 (exs P T S e b (Nz e a stk).1 (Nz e a stk).2 W).2.1 (exs P T S e b (Nz e a stk).1 (Nz e a stk).2 W).2.2) = _
  rw [h1, if_neg (show ¬ S ≤ a by omega)]
set_option maxHeartbeats 200000 in
theorem runL_0 {a hi : Nat} {stk : stL} {W : wL} (h : topL e hi stk) (ha : a < hi) (hS : a < S) : runL P T S e b 0 a stk W = (W, 0, true) := by
  show (W, 0, decide ((Nz e a stk).1 < S)) = _
  rw [Nz_top h ha, decide_eq_true hS]
set_option maxHeartbeats 200000 in
theorem runL_S {r : Nat} {W : wL} : runL P T S e b r S [] W = (W, r, false) := by
  cases r with
  | zero =>
    show (W, 0, decide (S < S)) = _
    rw [decide_eq_false (Nat.lt_irrefl S)]
  | succ r => exact if_pos (Nat.le_refl S)
set_option maxHeartbeats 200000 in
theorem r_isSo (hR : RefP ν) (hc : m_I ν (45, 0, 0) = c) (hD : Dim c P T) {a e' : Nat} {k p t m q : Int32} (ha : a < 30) {b' : Nat → Int32} (hb : ∀ j, c (107 + 9 * a + j) = b' j) (hs : StepI k p t m q b' a e' P T) (h7 : b' 0 = 7) : fn_M_isSo (some (40, 0, 0)) (nI (107 + 9 * a)) ν = some (if soW b' c = true then 1 else 0, ν) := by
  obtain ⟨hP0, hT0, hP6, hT8⟩ := id hD
  have hrd : ∀ j, j < 9 → ∀ {α : Type} (K : Int32 → mP α), m_bd (m_aI 0 (some (45, 0, 0)) (nI (107 + 9 * a) + nI j)) K ν = K (b' j) ν := fun j hj α K => by
    rw [nI_add, r_a45 hR (by omega), hc, hb]
  have hr1 : ∀ {α : Type} (K : Int32 → mP α), m_bd (m_aI 0 (some (45, 0, 0)) (nI (107 + 9 * a) + 1)) K ν = K (b' 1) ν := fun K => hrd 1 (by omega) K
  have hr2 : ∀ {α : Type} (K : Int32 → mP α), m_bd (m_aI 0 (some (45, 0, 0)) (nI (107 + 9 * a) + 2)) K ν = K (b' 2) ν := fun K => hrd 2 (by omega) K
  have hr6 : ∀ {α : Type} (K : Int32 → mP α), m_bd (m_aI 0 (some (45, 0, 0)) (nI (107 + 9 * a) + 6)) K ν = K (b' 6) ν := fun K => hrd 6 (by omega) K
  have hr7 : ∀ {α : Type} (K : Int32 → mP α), m_bd (m_aI 0 (some (45, 0, 0)) (nI (107 + 9 * a) + 7)) K ν = K (b' 7) ν := fun K => hrd 7 (by omega) K
  obtain ⟨-, -, -, hs⟩ := hs
  unfold fn_M_isSo soW
  rw [r_th hR, r_g45 hR, hr6, r_g45 hR, hr1, ap_ite]
  rcases hs with ⟨-, e0, -⟩ | ⟨-, e0, -⟩ | ⟨-, e0, -⟩ | ⟨-, e0, -⟩ | ⟨-, e0, -⟩ | ⟨-, e0, -⟩ | ⟨-, e0, -⟩ | ⟨-, e0, -⟩ | ⟨-, e0, -⟩ | ⟨k0, e0, e6, i, hi, et, e1⟩ | ⟨k0, e0, e6, j, hj, ep, e1⟩ | ⟨e0, e6, k0, i, v, hi, hv, et, e1, em, e2⟩
  · exact absurd (h7.symm.trans e0) (by decide)
  · exact absurd (h7.symm.trans e0) (by decide)
  · exact absurd (h7.symm.trans e0) (by decide)
  · exact absurd (h7.symm.trans e0) (by decide)
  · exact absurd (h7.symm.trans e0) (by decide)
  · exact absurd (h7.symm.trans e0) (by decide)
  · exact absurd (h7.symm.trans e0) (by decide)
  · exact absurd (h7.symm.trans e0) (by decide)
  · exact absurd (h7.symm.trans e0) (by decide)
  · have hth := r_isThrough (μ := ν) (t := i) hR (by omega)
    rw [show cR ν = c from hc] at hth
    rw [if_pos e6, if_pos e6, e1, nI_clamp (by omega), bd_of hth]
    by_cases z : i_thr c i = 0
    · rw [z, bd_cz (.inl rfl), if_neg (by decide)]
      rfl
    · have z1 : i_thr c i = 1 := by
        unfold i_thr at z ⊢
        split
        · next y => exact absurd (if_pos y) z
        · rfl
      rw [z1, bd_cz (.inr rfl), if_pos (decide_eq_true (by decide))]
      rfl
  · have hth := r_showsNow (μ := ν) (p := j) hR (by omega)
    rw [show cR ν = c from hc] at hth
    rw [if_neg (show ¬ b' 6 = 0 by rw [e6]; decide), if_neg (show ¬ b' 6 = 0 by rw [e6]; decide), ap_ite, if_pos e6, if_pos e6, e1, nI_clamp (by omega), bd_of hth]
    by_cases z : i_sho c j = 0
    · rw [z, bd_cz (.inl rfl), if_neg (by decide)]
      rfl
    · have z1 : i_sho c j = 1 := by
        unfold i_sho at z ⊢
        repeat' split at z
        all_goals first | exact absurd rfl z | skip
        all_goals simp_all
      rw [z1, bd_cz (.inr rfl), if_pos (decide_eq_true (by decide))]
      rfl
  · rw [if_neg (show ¬ b' 6 = 0 by rw [e6]; decide), if_neg (show ¬ b' 6 = 0 by rw [e6]; decide), ap_ite, if_neg (show ¬ b' 6 = 2 by rw [e6]; decide), if_neg (show ¬ b' 6 = 2 by rw [e6]; decide), e1, nI_clamp (by omega), r_g45 hR, show (41 : Int32) = nI 41 from rfl, nI_add, r_a45 hR (by omega), hc, r_g45 hR, hr7, ap_ite]
    rcases k0 with ⟨-, e7⟩ | ⟨-, e7⟩ | ⟨-, e7⟩
    · rw [if_pos e7, if_pos e7, r_g45 hR, hr2, e2, ap_ite]
      by_cases z : c (41 + i) < nI v
      · rw [if_neg (Int32.not_le.mpr z), if_pos (decide_eq_true z)]
        rfl
      · rw [if_pos (Int32.not_lt.mp z), if_neg (fun q => z (of_decide_eq_true q))]
        rfl
    · rw [if_neg (show ¬ b' 7 = 60 by rw [e7]; decide), if_neg (show ¬ b' 7 = 60 by rw [e7]; decide), r_g45 hR, hr7, ap_ite, if_pos e7, if_pos e7, r_g45 hR, hr2, e2, ap_ite]
      by_cases z : nI v < c (41 + i)
      · rw [if_neg (Int32.not_le.mpr z), if_pos (decide_eq_true z)]
        rfl
      · rw [if_pos (Int32.not_lt.mp z), if_neg (fun q => z (of_decide_eq_true q))]
        rfl
    · rw [if_neg (show ¬ b' 7 = 60 by rw [e7]; decide), if_neg (show ¬ b' 7 = 60 by rw [e7]; decide), r_g45 hR, hr7, ap_ite, if_neg (show ¬ b' 7 = 62 by rw [e7]; decide), if_neg (show ¬ b' 7 = 62 by rw [e7]; decide), r_g45 hR, hr2, e2, ap_ite]
      by_cases z : c (41 + i) = nI v
      · rw [if_pos z, if_pos (decide_eq_true z)]
        rfl
      · rw [if_neg z, if_neg (fun q => z (of_decide_eq_true q))]
        rfl
/-- where the reference stands -/
def RLr (ν : mM) (c0 : Nat → Int32) (P T : Nat) (W : wL) (r : Nat) (ov lf : Int32) : Prop := m_I ν (45, 0, 0) = W.1 ∧ m_I ν (40, 0, 0) 45 = W.2.1 ∧ m_I ν (40, 0, 0) 47 = W.2.2 ∧ m_I ν (40, 0, 0) 46 = nI (300 - r) ∧ r ≤ 300 ∧ StR ν c0 W.1 P T ∧ m_I ν (40, 0, 0) 44 = ov ∧ m_I ν (40, 0, 0) 50 = lf ∧ okW P T W ∧ Mo P T c0 W.1 ∧ ∀ j, 105 ≤ j → W.1 j = c0 j
set_option maxHeartbeats 200000 in
theorem RLr_mk {ν' : mM} {W : wL} {r r' : Nat} {ov lf ov' lf' : Int32} (h : RLr ν c0 P T W r ov lf) (e45 : m_I ν' (45, 0, 0) = m_I ν (45, 0, 0)) (ef : ∀ j, j = 45 ∨ j = 47 ∨ j = 48 ∨ j = 49 ∨ j = 27 → m_I ν' (40, 0, 0) j = m_I ν (40, 0, 0) j) (hr : r' ≤ 300) (e46 : m_I ν' (40, 0, 0) 46 = nI (300 - r')) (e44 : m_I ν' (40, 0, 0) 44 = ov') (e50 : m_I ν' (40, 0, 0) 50 = lf') : RLr ν' c0 P T W r' ov' lf' := by
  obtain ⟨h1, h2, h3, h4, h5, h6, h7, h8, h9, h10, h11⟩ := h
  exact ⟨e45.trans h1, (ef 45 (by omega)).trans h2, (ef 47 (by omega)).trans h3, e46, hr, ⟨(ef 48 (by omega)).trans h6.1, (ef 49 (by omega)).trans h6.2.1, (ef 27 (by omega)).trans h6.2.2⟩, e44, e50, h9, h10, h11⟩
def PostB (ν ν' : mM) (c0 : Nat → Int32) (P T S : Nat) (e : Nat → Nat) (b : Nat → Nat → Int32) (d hi : Nat) (X : stL → wL × Nat × Bool) : Prop := sm (fun x _ _ k => (x = 40 ∧ (k = 27 ∨ (44 ≤ k ∧ k ≤ 50))) ∨ x = 45) ν ν' ∧ ∃ W' r', (RLr ν' c0 P T W' r' 0 0 ∧ ∀ stk : stL, stk.length + d ≤ 3 → topL e hi stk → X stk = runL P T S e b r' hi stk W') ∨ ∃ left : Bool, RLr ν' c0 P T W' r' 1 (if left = true then 1 else 0) ∧ ∀ stk : stL, stk.length + d ≤ 3 → topL e hi stk → X stk = (W', r', left)
/-- what one step does, d deep -/
def OneOk (c0 : Nat → Int32) (P T S : Nat) (e : Nat → Nat) (b : Nat → Nat → Int32) (m d : Nat) : Prop := ∀ (ν : mM) (lo n r : Nat) (W : wL), lo < S → e lo ≤ S → n ≤ 31 → ((c0 (107 + 9 * lo) = 7 ∨ c0 (107 + 9 * lo) = 8) → 0 < d ∧ wf e (fun s => c0 (107 + 9 * s) = 7 ∨ c0 (107 + 9 * s) = 8) n (d - 1) (lo + 1) (e lo)) → RefP ν → RLr ν c0 P T W r 0 0 → m_e (fn_M_doOne m (some (40, 0, 0)) (nI lo) ν) (fun _ ν' => PostB ν ν' c0 P T S e b d (e lo) (fun stk => runL P T S e b r lo stk W))
set_option maxHeartbeats 200000 in
theorem r_all {m d : Nat} (hS : S ≤ 30) (h8 : ∀ s, s < S → c0 (107 + 9 * s + 8) = nI (e s)) (hone : OneOk c0 P T S e b m d) : ∀ (n F : Nat) (ν : mM) (lo hi r : Nat) (W : wL), n < F → n ≤ 31 → hi ≤ S → wf e (fun s => c0 (107 + 9 * s) = 7 ∨ c0 (107 + 9 * s) = 8) n d lo hi → RefP ν → RLr ν c0 P T W r 0 0 → m_e (m_lp (fn_M_doAll_l2 (fn_M_doOne m) (some (40, 0, 0)) (nI hi)) F (nI lo) ν) (fun _ ν' => PostB ν ν' c0 P T S e b d hi (fun stk => runL P T S e b r lo stk W)) := by
  have hend : ∀ (F : Nat) (ν : mM) (lo hi : Nat), 0 < F → hi ≤ lo → lo ≤ 31 → m_lp (fn_M_doAll_l2 (fn_M_doOne m) (some (40, 0, 0)) (nI hi)) F (nI lo) ν = some ((), ν) := by
    intro F ν lo hi hF h1 h2
    obtain ⟨F', rfl⟩ : ∃ F', F = F' + 1 := ⟨F - 1, by omega⟩
    have h3 : fn_M_doAll_l2 (fn_M_doOne m) (some (40, 0, 0)) (nI hi) (nI lo) ν = some (.inr (), ν) := by
      unfold fn_M_doAll_l2
      rw [ap_ite, if_pos (nI_le h1 (by omega))]
      rfl
    rw [lp_s, bd_of h3]
    rfl
  intro n
  induction n with
  | zero =>
    intro F ν lo hi r W hF _ hhi hw hR h
    obtain rfl : lo = hi := hw
    rw [hend F ν lo lo (by omega) (Nat.le_refl _) (by omega)]
    exact ⟨(), ν, rfl, sm_rf, W, r, .inl ⟨h, fun _ _ _ => rfl⟩⟩
  | succ n ih =>
    intro F ν lo hi r W hF hn hhi hw hR h
    rcases hw with hw | ⟨g1, g2, g3, g4, g5⟩
    · subst hw
      rw [hend F ν lo lo (by omega) (Nat.le_refl _) (by omega)]
      exact ⟨(), ν, rfl, sm_rf, W, r, .inl ⟨h, fun _ _ _ => rfl⟩⟩
    · obtain ⟨F', rfl⟩ : ∃ F', F = F' + 1 := ⟨F - 1, by omega⟩
      rw [lp_s]
      unfold fn_M_doAll_l2
      rw [bd_ite, if_neg (nI_ge g1 (by omega)), bd_bd, r_gI hR, h.2.2.2.2.2.2.1, bd_ite, if_pos rfl, bd_bd]
      refine e_bd (hone ν lo n r W (by omega) (by omega) (by omega) g4 hR h) ?_
      rintro - ν1 ⟨s1, W1, r1, hh⟩
      have hR1 := sm_R s1 hR
      have hcell : m_I ν1 (45, 0, 0) (107 + 9 * lo + 8) = nI (e lo) := by
        rcases hh with ⟨q, -⟩ | ⟨_, q, -⟩
        · rw [q.1, q.2.2.2.2.2.2.2.2.2.2 _ (by omega), h8 lo (by omega)]
        · rw [q.1, q.2.2.2.2.2.2.2.2.2.2 _ (by omega), h8 lo (by omega)]
      rw [bd_bd, r_g45 hR1, bd_bd, show (9 : Int32) = nI 9 from rfl, pk_mul, show (107 : Int32) = nI 107 from rfl, nI_add, show (8 : Int32) = nI 8 from rfl, nI_add, r_a45 hR1 (by omega), hcell, bd_rt]
      rcases hh with ⟨q1, q2⟩ | ⟨left, q1, q2⟩
      · refine e_mono (ih F' ν1 (e lo) hi r1 W1 (by omega) (by omega) hhi g5 hR1 q1) ?_
        rintro _ ν2 ⟨s2, W2, r2, hh2⟩
        refine ⟨sm_tr s1 s2, W2, r2, ?_⟩
        rcases hh2 with ⟨p1, p2⟩ | ⟨left, p1, p2⟩
        · exact .inl ⟨p1, fun stk k1 k2 => (q2 stk k1 (topL_le k2 g3)).trans (p2 stk k1 k2)⟩
        · exact .inr ⟨left, p1, fun stk k1 k2 => (q2 stk k1 (topL_le k2 g3)).trans (p2 stk k1 k2)⟩
      · have hstop : m_lp (fn_M_doAll_l2 (fn_M_doOne m) (some (40, 0, 0)) (nI hi)) F' (nI (e lo)) ν1 = some ((), ν1) := by
          by_cases z : hi ≤ e lo
          · exact hend F' ν1 (e lo) hi (by omega) z (by omega)
          · obtain ⟨F'', rfl⟩ : ∃ F'', F' = F'' + 1 := ⟨F' - 1, by omega⟩
            have h3 : fn_M_doAll_l2 (fn_M_doOne m) (some (40, 0, 0)) (nI hi) (nI (e lo)) ν1 = some (.inr (), ν1) := by
              unfold fn_M_doAll_l2
              rw [ap_ite, if_neg (nI_ge (by omega) (by omega)), r_gI hR1, q1.2.2.2.2.2.2.1, ap_ite, if_neg (by decide)]
              rfl
            rw [lp_s, bd_of h3]
            rfl
        show m_e (m_lp (fn_M_doAll_l2 (fn_M_doOne m) (some (40, 0, 0)) (nI hi)) F' (nI (e lo)) ν1) _
        rw [hstop]
        exact ⟨(), ν1, rfl, s1, W1, r1, .inr ⟨left, q1, fun stk k1 k2 => q2 stk k1 (topL_le k2 g3)⟩⟩
end RL
