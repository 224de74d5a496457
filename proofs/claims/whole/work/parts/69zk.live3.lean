/-! Part 69zk: the class lives its years, whole -/
section KN
variable {μ : mM} {f g P T S : Nat} {w : Nat → Int64} {e : Nat → Nat} {b : Nat → Nat → Int32}
/-- what is kept of the world -/
def okW (P T : Nat) (W : wL) : Prop := Okc W.1 P T ∧ Dim W.1 P T ∧ bn W.2.1 65535
set_option maxHeartbeats 200000 in
theorem exs_ok {k p t m q : Int32} {a e' : Nat} {stk : stL} {W : wL} (hW : okW P T W) (hk : okS S e stk) (ha : a < S) (hS : S ≤ 30) (he : e a ≤ 30) (hs : StepI k p t m q (b a) a e' P T) : okW P T (exs P T S e b a stk W).2.2 ∧ okS S e (exs P T S e b a stk W).2.1 ∧ (exs P T S e b a stk W).1 ≤ 31 ∧ Mo P T W.1 (exs P T S e b a stk W).2.2.1 ∧ ∀ j, 105 ≤ j → (exs P T S e b a stk W).2.2.1 j = W.1 j := by
  have hid : Mo P T W.1 W.1 ∧ ∀ j, 105 ≤ j → W.1 j = W.1 j := ⟨⟨fun _ _ q => q, fun _ _ q => q⟩, fun _ _ => rfl⟩
  unfold exs
  by_cases h9 : b a 0 = 9
  · rw [if_pos h9]
    exact ⟨hW, ⟨Nat.zero_le 3, fun q hq => absurd hq List.not_mem_nil⟩, by show S ≤ 31; omega, hid⟩
  · rw [if_neg h9]
    by_cases h8 : b a 0 = 8
    · rw [if_pos h8]
      by_cases z : e a ≤ a + 1
      · rw [if_pos z]
        exact ⟨hW, hk, by show a + 1 ≤ 31; omega, hid⟩
      · rw [if_neg z]
        by_cases y : 3 ≤ stk.length
        · rw [if_pos y]
          exact ⟨hW, hk, by show a + 1 ≤ 31; omega, hid⟩
        · rw [if_neg y]
          have hv : ∃ v, 1 ≤ v ∧ v ≤ 99 ∧ b a 1 = nI v := by
            obtain ⟨-, -, -, hs⟩ := hs
            rcases hs with ⟨-, e0, -⟩ | ⟨-, e0, -⟩ | ⟨-, e0, -⟩ | ⟨-, e0, -⟩ | ⟨-, e0, -⟩ | ⟨-, e0, -⟩ | ⟨-, e0, -⟩ | ⟨-, e0, -⟩ | ⟨-, e0, v, v1, v2, em, e1⟩ | ⟨-, e0, -⟩ | ⟨-, e0, -⟩ | ⟨e0, -⟩
            · exact absurd (h8.symm.trans e0) (by decide)
            · exact absurd (h8.symm.trans e0) (by decide)
            · exact absurd (h8.symm.trans e0) (by decide)
            · exact absurd (h8.symm.trans e0) (by decide)
            · exact absurd (h8.symm.trans e0) (by decide)
            · exact absurd (h8.symm.trans e0) (by decide)
            · exact absurd (h8.symm.trans e0) (by decide)
            · exact absurd (h8.symm.trans e0) (by decide)
            · exact ⟨v, v1, v2, e1⟩
            · exact absurd (h8.symm.trans e0) (by decide)
            · exact absurd (h8.symm.trans e0) (by decide)
            · exact absurd (h8.symm.trans e0) (by decide)
          obtain ⟨v, v1, v2, e1⟩ := hv
          refine ⟨hW, ⟨by show stk.length + 1 ≤ 3; omega, fun q hq => ?_⟩, by show a + 1 ≤ 31; omega, hid⟩
          rcases List.mem_cons.mp hq with rfl | hq
          · show a < S ∧ a + 1 < e a ∧ 1 ≤ (b a 1).toNatClampNeg ∧ (b a 1).toNatClampNeg ≤ 99
            rw [e1, nI_clamp (by omega)]
            omega
          · exact hk.2 q hq
    · rw [if_neg h8]
      by_cases h7 : b a 0 = 7
      · rw [if_pos h7]
        split
        · exact ⟨hW, hk, by show a + 1 ≤ 31; omega, hid⟩
        · exact ⟨hW, hk, by show e a ≤ 31; omega, hid⟩
      · rw [if_neg h7]
        obtain ⟨o1, o2, o3, o4, o5⟩ := act2_ok (rnd := W.2.1) hW.1 hW.2.1 hW.2.2 hs h7 h8 h9
        exact ⟨⟨o1, o2, o3⟩, hk, by show a + 1 ≤ 31; omega, o4, o5⟩
set_option maxHeartbeats 200000 in
/-- a step and the ends of loops behind it -/
theorem k_one (hL : PlanP μ g) (hP : FamP μ f) (hf : f ≠ 15 ∨ True) (hp : ProgC μ g S e b P T) {a : Nat} {stk : stL} {W : wL} (hI : FamI μ f W.1 w P T) (hW : okW P T W) (hc : Conf μ g a stk) (hk : okS S e stk) (ha : a < S) (e9 : m_I μ (13, g, 0) 9 = W.2.1) (e8 : m_I μ (13, g, 0) 8 = W.2.2) {i : Nat} (hi : i < 300) (e7 : m_I μ (13, g, 0) 7 = nI i) : m_e (fn_Pl_run_l27 (some (13, g, 0)) (some (7, f, 0)) (nI i) μ) (fun r μ' => r = .inl (nI (i + 1)) ∧ FamI μ' f (exs P T S e b a stk W).2.2.1 w P T ∧ m_I μ' (13, g, 0) 9 = (exs P T S e b a stk W).2.2.2.1 ∧ m_I μ' (13, g, 0) 8 = (exs P T S e b a stk W).2.2.2.2 ∧ m_I μ' (13, g, 0) 7 = nI (i + 1) ∧ Conf μ' g (Nz e (exs P T S e b a stk W).1 (exs P T S e b a stk W).2.1).1 (Nz e (exs P T S e b a stk W).1 (exs P T S e b a stk W).2.1).2 ∧ sm (fun x y _ k => (((x = 7 ∧ k < 7) ∨ x = 9 ∨ x = 10 ∨ x = 12) ∧ y = f) ∨ (y = g ∧ ((x = 13 ∧ 7 ≤ k) ∨ x = 15))) μ μ') := by
  obtain ⟨p1, p2, p3, p4⟩ := id hp
  obtain ⟨c1, c2, c3⟩ := id hc
  have ha30 : a < 30 := by omega
  have hsa := p4 a ha
  have he30 := p3 a ha
  obtain ⟨hO, hD, hr⟩ := id hW
  obtain ⟨x1, x2, x3, -, -⟩ := exs_ok hW hk ha p2 he30 hsa
  have hgo : ∀ (μ2 : mM), sm (fun x y _ k => (((x = 7 ∧ k < 7) ∨ x = 9 ∨ x = 10 ∨ x = 12) ∧ y = f) ∨ (y = g ∧ ((x = 13 ∧ 7 ≤ k) ∨ x = 15))) μ μ2 → FamI μ2 f (exs P T S e b a stk W).2.2.1 w P T → m_I μ2 (13, g, 0) 9 = (exs P T S e b a stk W).2.2.2.1 → m_I μ2 (13, g, 0) 8 = (exs P T S e b a stk W).2.2.2.2 → m_I μ2 (13, g, 0) 7 = nI (i + 1) → Conf μ2 g (exs P T S e b a stk W).1 (exs P T S e b a stk W).2.1 → m_e (m_bd (m_rt ()) (fun (_ : Unit) => m_bd (fn_Pl_goRound (some (13, g, 0))) (fun _ => m_rt (Sum.inl (β := Unit) (nI (i + 1))))) μ2) (fun r μ' => r = .inl (nI (i + 1)) ∧ FamI μ' f (exs P T S e b a stk W).2.2.1 w P T ∧ m_I μ' (13, g, 0) 9 = (exs P T S e b a stk W).2.2.2.1 ∧ m_I μ' (13, g, 0) 8 = (exs P T S e b a stk W).2.2.2.2 ∧ m_I μ' (13, g, 0) 7 = nI (i + 1) ∧ Conf μ' g (Nz e (exs P T S e b a stk W).1 (exs P T S e b a stk W).2.1).1 (Nz e (exs P T S e b a stk W).1 (exs P T S e b a stk W).2.1).2 ∧ sm (fun x y _ k => (((x = 7 ∧ k < 7) ∨ x = 9 ∨ x = 10 ∨ x = 12) ∧ y = f) ∨ (y = g ∧ ((x = 13 ∧ 7 ≤ k) ∨ x = 15))) μ μ') := by
    intro μ2 s2 g1 g2 g3 g4 g5
    rw [bd_rt]
    refine e_bd (k_goRound (sm_P s2 hL) (ProgC_sm hp s2 (by omega) (by omega)) g5 x2 x3) ?_
    rintro - μ3 ⟨h1, h2⟩
    exact ⟨_, _, rfl, rfl, FamI_sm g1 h1 (by omega), by rw [sm_I h1 (by omega)]; exact g2, by rw [sm_I h1 (by omega)]; exact g3, by rw [sm_I h1 (by omega)]; exact g4, h2, sm_tr s2 (sm_mono h1 (by omega))⟩
  have hge : ¬ (300 : Int32) ≤ nI i := nI_ge hi (by decide)
  have hSa : ¬ nI S ≤ nI a := nI_ge ha (by omega)
  unfold fn_Pl_run_l27
  rw [ap_ite, if_neg hge, c_plan_gI hL, c1, c_plan_gI hL, p1, ap_ite, if_neg hSa, c_plan_gI hL, e7, nI_1, c_plan_pI hL]
  generalize hμ1 : m_sI μ (13, g, 0) 7 (nI (i + 1)) = μ1
  have s1 : sm (fun x y z k => x = 13 ∧ y = g ∧ z = 0 ∧ k = 7) μ μ1 := by rw [← hμ1]; exact sm_sI sm_rf _ ⟨rfl, rfl, rfl, rfl⟩
  have e71 : m_I μ1 (13, g, 0) 7 = nI (i + 1) := by rw [← hμ1, I_row, ud_at]
  have hL1 := sm_P s1 hL
  have hP1 := sm_F s1 hP
  have hI1 := FamI_sm hI s1 (by omega)
  have hp1 := ProgC_sm hp s1 (by omega) (by omega)
  have hc1 : Conf μ1 g a stk := ⟨by rw [sm_I s1 (by omega)]; exact c1, by rw [sm_I s1 (by omega)]; exact c2, stkR_sm (n := 3) s1 (fun z j hj => by omega) hk.1 c3⟩
  have e91 : m_I μ1 (13, g, 0) 9 = W.2.1 := by rw [sm_I s1 (by omega), e9]
  have e81 : m_I μ1 (13, g, 0) 8 = W.2.2 := by rw [sm_I s1 (by omega), e8]
  have hsa1 := hp1.2.2.2 a ha
  rw [c_plan_r2 hL1, c_plan_gI hL1, hc1.1, c_parr_a hL1 (by omega) ha30, bd_ite]
  by_cases h9 : b a 0 = 9
  · have hk9 : m_I μ1 (14, g, 0) a = 7 := by
      obtain ⟨-, -, -, hs⟩ := hsa1
      rcases hs with ⟨-, e0, -⟩ | ⟨-, e0, -⟩ | ⟨-, e0, -⟩ | ⟨-, e0, -⟩ | ⟨-, e0, -⟩ | ⟨-, e0, -⟩ | ⟨-, e0, -⟩ | ⟨k0, -⟩ | ⟨-, e0, -⟩ | ⟨-, e0, -⟩ | ⟨-, e0, -⟩ | ⟨e0, -⟩
      · exact absurd (h9.symm.trans e0) (by decide)
      · exact absurd (h9.symm.trans e0) (by decide)
      · exact absurd (h9.symm.trans e0) (by decide)
      · exact absurd (h9.symm.trans e0) (by decide)
      · exact absurd (h9.symm.trans e0) (by decide)
      · exact absurd (h9.symm.trans e0) (by decide)
      · exact absurd (h9.symm.trans e0) (by decide)
      · exact k0
      · exact absurd (h9.symm.trans e0) (by decide)
      · exact absurd (h9.symm.trans e0) (by decide)
      · exact absurd (h9.symm.trans e0) (by decide)
      · exact absurd (h9.symm.trans e0) (by decide)
    have hex : exs P T S e b a stk W = (S, [], W) := if_pos h9
    rw [hex] at hgo ⊢
    have s2 : sm (fun x y z k => x = 13 ∧ y = g ∧ z = 0 ∧ (k = 10 ∨ k = 13)) μ1 (m_sI (m_sI μ1 (13, g, 0) 13 0) (13, g, 0) 10 (nI S)) := sm_sI (sm_sI sm_rf _ (by omega)) _ (by omega)
    rw [hk9, if_pos rfl, bd_bd, c_plan_pI hL1, bd_bd, c_plan_gI (show PlanP (m_sI μ1 (13, g, 0) 13 0) g from hL1), I_row, ud_ne (by decide), hp1.1, bd_bd, c_plan_pI (show PlanP (m_sI μ1 (13, g, 0) 13 0) g from hL1)]
    exact hgo _ (sm_tr (sm_mono s1 (by omega)) (sm_mono s2 (by omega))) (FamI_sm hI1 s2 (by omega)) (by rw [sm_I s2 (by omega)]; exact e91) (by rw [sm_I s2 (by omega)]; exact e81) (by rw [sm_I s2 (by omega)]; exact e71) ⟨by rw [I_row, ud_at], by rw [I_row, ud_ne (by decide), I_row, ud_at]; rfl, trivial⟩
  · have hk9 : ¬ m_I μ1 (14, g, 0) a = 7 := by
      intro w
      obtain ⟨-, -, -, hs⟩ := hsa1
      rcases hs with ⟨k0, -⟩ | ⟨k0, -⟩ | ⟨k0, -⟩ | ⟨k0, -⟩ | ⟨k0, -⟩ | ⟨k0, -⟩ | ⟨k0, -⟩ | ⟨-, e0, -⟩ | ⟨k0, -⟩ | ⟨k0, -⟩ | ⟨k0, -⟩ | ⟨-, -, ⟨k0, -⟩ | ⟨k0, -⟩ | ⟨k0, -⟩, -⟩
      · exact absurd (w.symm.trans k0) (by decide)
      · exact absurd (w.symm.trans k0) (by decide)
      · exact absurd (w.symm.trans k0) (by decide)
      · exact absurd (w.symm.trans k0) (by decide)
      · exact absurd (w.symm.trans k0) (by decide)
      · exact absurd (w.symm.trans k0) (by decide)
      · exact absurd (w.symm.trans k0) (by decide)
      · exact h9 e0
      · exact absurd (w.symm.trans k0) (by decide)
      · exact absurd (w.symm.trans k0) (by decide)
      · exact absurd (w.symm.trans k0) (by decide)
      · exact absurd (w.symm.trans k0) (by decide)
      · exact absurd (w.symm.trans k0) (by decide)
      · exact absurd (w.symm.trans k0) (by decide)
    rw [if_neg hk9, bd_bd, c_plan_r2 hL1, bd_bd, c_plan_gI hL1, hc1.1, bd_bd, c_parr_a hL1 (by omega) ha30, bd_ite]
    by_cases h8 : b a 0 = 8
    · have hk8 : m_I μ1 (14, g, 0) a = 8 := by
        obtain ⟨-, -, -, hs⟩ := hsa1
        rcases hs with ⟨-, e0, -⟩ | ⟨-, e0, -⟩ | ⟨-, e0, -⟩ | ⟨-, e0, -⟩ | ⟨-, e0, -⟩ | ⟨-, e0, -⟩ | ⟨-, e0, -⟩ | ⟨-, e0, -⟩ | ⟨k0, -⟩ | ⟨-, e0, -⟩ | ⟨-, e0, -⟩ | ⟨e0, -⟩
        · exact absurd (h8.symm.trans e0) (by decide)
        · exact absurd (h8.symm.trans e0) (by decide)
        · exact absurd (h8.symm.trans e0) (by decide)
        · exact absurd (h8.symm.trans e0) (by decide)
        · exact absurd (h8.symm.trans e0) (by decide)
        · exact absurd (h8.symm.trans e0) (by decide)
        · exact absurd (h8.symm.trans e0) (by decide)
        · exact absurd (h8.symm.trans e0) (by decide)
        · exact k0
        · exact absurd (h8.symm.trans e0) (by decide)
        · exact absurd (h8.symm.trans e0) (by decide)
        · exact absurd (h8.symm.trans e0) (by decide)
      have hw2 : (exs P T S e b a stk W).2.2 = W := by
        unfold exs
        rw [if_neg h9, if_pos h8]
        split
        · rfl
        · split <;> rfl
      rw [hk8, if_pos rfl, bd_bd]
      refine e_bd (k_enterLoop hL1 hp1 hc1 hk ha h8 W) ?_
      rintro - μ2 ⟨g1, g2⟩
      refine hgo μ2 (sm_tr (sm_mono s1 (by omega)) (sm_mono g1 (by omega))) (by rw [hw2]; exact FamI_sm hI1 g1 (by omega)) (by rw [hw2, sm_I g1 (by omega)]; exact e91) (by rw [hw2, sm_I g1 (by omega)]; exact e81) (by rw [sm_I g1 (by omega)]; exact e71) g2
    · have hk8 : ¬ m_I μ1 (14, g, 0) a = 8 := by
        intro w
        obtain ⟨-, -, -, hs⟩ := hsa1
        rcases hs with ⟨k0, -⟩ | ⟨k0, -⟩ | ⟨k0, -⟩ | ⟨k0, -⟩ | ⟨k0, -⟩ | ⟨k0, -⟩ | ⟨k0, -⟩ | ⟨k0, -⟩ | ⟨-, e0, -⟩ | ⟨k0, -⟩ | ⟨k0, -⟩ | ⟨-, -, ⟨k0, -⟩ | ⟨k0, -⟩ | ⟨k0, -⟩, -⟩
        · exact absurd (w.symm.trans k0) (by decide)
        · exact absurd (w.symm.trans k0) (by decide)
        · exact absurd (w.symm.trans k0) (by decide)
        · exact absurd (w.symm.trans k0) (by decide)
        · exact absurd (w.symm.trans k0) (by decide)
        · exact absurd (w.symm.trans k0) (by decide)
        · exact absurd (w.symm.trans k0) (by decide)
        · exact absurd (w.symm.trans k0) (by decide)
        · exact h8 e0
        · exact absurd (w.symm.trans k0) (by decide)
        · exact absurd (w.symm.trans k0) (by decide)
        · exact absurd (w.symm.trans k0) (by decide)
        · exact absurd (w.symm.trans k0) (by decide)
        · exact absurd (w.symm.trans k0) (by decide)
      rw [if_neg hk8, bd_bd, c_plan_r2 hL1, bd_bd, c_plan_gI hL1, hc1.1, bd_bd, c_parr_a hL1 (by omega) ha30, bd_ite]
      by_cases h7 : b a 0 = 7
      · obtain ⟨q1, q2⟩ := k_soW hL1 hP1 hI1 hD hO ha30 hc1.1 hsa1 h7
        have hle : ¬ m_I μ1 (14, g, 0) a ≤ 8 := fun q => absurd (Int32.le_trans q2 q) (by decide)
        have hex : exs P T S e b a stk W = if soW (b a) W.1 = true then (a + 1, stk, W) else (e a, stk, W) := by
          unfold exs
          rw [if_neg h9, if_neg h8, if_pos h7]
        rw [if_neg hle, bd_bd, bd_of q1]
        rw [hex] at hgo ⊢
        have hput : ∀ (v : Nat), sm (fun x y _ k => (((x = 7 ∧ k < 7) ∨ x = 9 ∨ x = 10 ∨ x = 12) ∧ y = f) ∨ (y = g ∧ ((x = 13 ∧ 7 ≤ k) ∨ x = 15))) μ (m_sI μ1 (13, g, 0) 10 (nI v)) ∧ FamI (m_sI μ1 (13, g, 0) 10 (nI v)) f W.1 w P T ∧ m_I (m_sI μ1 (13, g, 0) 10 (nI v)) (13, g, 0) 9 = W.2.1 ∧ m_I (m_sI μ1 (13, g, 0) 10 (nI v)) (13, g, 0) 8 = W.2.2 ∧ m_I (m_sI μ1 (13, g, 0) 10 (nI v)) (13, g, 0) 7 = nI (i + 1) ∧ Conf (m_sI μ1 (13, g, 0) 10 (nI v)) g v stk := fun v => by
          have s2 : sm (fun x y z k => x = 13 ∧ y = g ∧ z = 0 ∧ k = 10) μ1 (m_sI μ1 (13, g, 0) 10 (nI v)) := sm_sI sm_rf _ (by omega)
          exact ⟨sm_tr (sm_mono s1 (by omega)) (sm_mono s2 (by omega)), FamI_sm hI1 s2 (by omega), by rw [sm_I s2 (by omega)]; exact e91, by rw [sm_I s2 (by omega)]; exact e81, by rw [sm_I s2 (by omega)]; exact e71, by rw [I_row, ud_at], by rw [sm_I s2 (by omega)]; exact hc1.2.1, stkR_sm (n := 3) s2 (fun z j hj => by omega) hk.1 hc1.2.2⟩
        by_cases z : soW (b a) W.1 = true
        · rw [if_pos z] at hgo ⊢
          rw [if_pos z, bd_bd, bd_ite, if_neg (by decide), bd_bd, c_plan_gI hL1, hc1.1, nI_1, bd_rt, bd_bd, c_plan_pI hL1]
          obtain ⟨r1, r2, r3, r4, r5, r6⟩ := hput (a + 1)
          exact hgo _ r1 r2 r3 r4 r5 r6
        · rw [if_neg z] at hgo ⊢
          rw [if_neg z, bd_bd, bd_ite, if_pos rfl, bd_bd, c_plan_r6 hL1, bd_bd, c_plan_gI hL1, hc1.1, bd_bd, c_parr_a hL1 (by omega) ha30, hsa1.1, bd_rt, bd_bd, c_plan_pI hL1]
          obtain ⟨r1, r2, r3, r4, r5, r6⟩ := hput (e a)
          exact hgo _ r1 r2 r3 r4 r5 r6
      · have hle : m_I μ1 (14, g, 0) a ≤ 8 := by
          obtain ⟨-, -, -, hs⟩ := hsa1
          rcases hs with ⟨k0, -⟩ | ⟨k0, -⟩ | ⟨k0, -⟩ | ⟨k0, -⟩ | ⟨k0, -⟩ | ⟨k0, -⟩ | ⟨k0, -⟩ | ⟨k0, -⟩ | ⟨k0, -⟩ | ⟨-, e0, -⟩ | ⟨-, e0, -⟩ | ⟨e0, -⟩
          · rw [k0]; decide
          · rw [k0]; decide
          · rw [k0]; decide
          · rw [k0]; decide
          · rw [k0]; decide
          · rw [k0]; decide
          · rw [k0]; decide
          · rw [k0]; decide
          · rw [k0]; decide
          · exact absurd e0 h7
          · exact absurd e0 h7
          · exact absurd e0 h7
        have hex : exs P T S e b a stk W = (a + 1, stk, actW P T (b a) W) := by
          unfold exs
          rw [if_neg h9, if_neg h8, if_neg h7]
        rw [hex] at hgo ⊢
        rw [if_pos hle, bd_bd, c_plan_gI hL1, e81, bd_bd]
        refine e_bd (k_act hL1 hP1 hI1 hD hO hr e91 ha30 hc1.1 hsa1 h7 h8 h9) ?_
        rintro _ μ2 ⟨rfl, g1, g2, g3⟩
        have hL2 := sm_P g3 hL1
        have hmi : (m_bd (α := Int32) (if (if (act2 P T (b a) W.1 W.2.1).2.2 = true then (1 : Int32) else 0) = 0 then m_rt 1 else m_rt 0)) = (m_bd (m_rt (if (act2 P T (b a) W.1 W.2.1).2.2 = true then (0 : Int32) else 1)) : (Int32 → mP Unit) → mP Unit) := by
          by_cases z : (act2 P T (b a) W.1 W.2.1).2.2 = true
          · rw [if_pos z, if_neg (by decide), if_pos z]
          · rw [if_neg z, if_pos rfl, if_neg z]
        rw [hmi, bd_bd, bd_rt, bd_bd, c_plan_pI hL2, bd_bd]
        generalize hμ3 : m_sI μ2 (13, g, 0) 8 (W.2.2 + if (act2 P T (b a) W.1 W.2.1).2.2 = true then 0 else 1) = μ3
        have s3 : sm (fun x y z k => x = 13 ∧ y = g ∧ z = 0 ∧ k = 8) μ2 μ3 := by rw [← hμ3]; exact sm_sI sm_rf _ (by omega)
        have hL3 := sm_P s3 hL2
        have e103 : m_I μ3 (13, g, 0) 10 = nI a := by rw [sm_I s3 (by omega), sm_I g3 (by omega)]; exact hc1.1
        rw [c_plan_gI hL3, e103, nI_1, bd_bd, c_plan_pI hL3]
        have s4 : sm (fun x y z k => x = 13 ∧ y = g ∧ z = 0 ∧ k = 10) μ3 (m_sI μ3 (13, g, 0) 10 (nI (a + 1))) := sm_sI sm_rf _ (by omega)
        refine hgo _ (sm_tr (sm_mono s1 (by omega)) (sm_tr (sm_mono g3 (by omega)) (sm_tr (sm_mono s3 (by omega)) (sm_mono s4 (by omega))))) (FamI_sm (FamI_sm g1 s3 (by omega)) s4 (by omega)) ?_ ?_ ?_ ⟨by rw [I_row, ud_at], ?_, ?_⟩
        · rw [sm_I s4 (by omega), sm_I s3 (by omega)]
          exact g2
        · rw [sm_I s4 (by omega), ← hμ3, I_row, ud_at]
          show W.2.2 + (if (act2 P T (b a) W.1 W.2.1).2.2 = true then 0 else 1) = if (act2 P T (b a) W.1 W.2.1).2.2 = true then W.2.2 else W.2.2 + 1
          split
          · exact Int32.add_zero _
          · rfl
        · rw [sm_I s4 (by omega), sm_I s3 (by omega), sm_I g3 (by omega)]
          exact e71
        · rw [sm_I s4 (by omega), sm_I s3 (by omega), sm_I g3 (by omega)]
          exact hc1.2.1
        · exact stkR_sm (n := 3) s4 (fun z j hj => by omega) hk.1 (stkR_sm (n := 3) s3 (fun z j hj => by omega) hk.1 (stkR_sm (n := 3) g3 (fun z j hj => by omega) hk.1 hc1.2.2))
set_option maxHeartbeats 200000 in
theorem k_run (hL : PlanP μ g) (hP : FamP μ f) (hp : ProgC μ g S e b P T) {c : Nat → Int32} (hI : FamI μ f c w P T) (hO : Okc c P T) (hD : Dim c P T) {seed : Nat} (hs : seed ≤ 65535) : m_e (fn_Pl_run (some (13, g, 0)) (some (7, f, 0)) (nI seed) μ) (fun _ μ' => ∃ W r left a, runL P T S e b 300 0 [] (c, nI seed, 0) = (W, r, left) ∧ r ≤ 300 ∧ okW P T W ∧ FamI μ' f W.1 w P T ∧ m_I μ' (13, g, 0) 8 = W.2.2 ∧ m_I μ' (13, g, 0) 7 = nI (300 - r) ∧ a ≤ 31 ∧ m_I μ' (13, g, 0) 10 = nI a ∧ left = decide (a < S) ∧ Mo P T c W.1 ∧ (∀ j, 105 ≤ j → W.1 j = c j) ∧ sm (fun x y _ k => (((x = 7 ∧ k < 7) ∨ x = 9 ∨ x = 10 ∨ x = 12) ∧ y = f) ∨ (y = g ∧ ((x = 13 ∧ 7 ≤ k) ∨ x = 15))) μ μ') := by
  obtain ⟨p1, p2, p3, p4⟩ := id hp
  unfold fn_Pl_run
  rw [c_plan_th hL]
  have s1 : sm (fun x y z k => x = 13 ∧ y = g ∧ z = 0 ∧ 7 ≤ k) μ (m_sI μ (13, g, 0) 9 (nI seed)) := sm_sI sm_rf _ (by omega)
  have s2 := sm_sI (x := 13) (y := g) (z := 0) (k := 7) s1 0 (by omega)
  have s3 := sm_sI (x := 13) (y := g) (z := 0) (k := 8) s2 0 (by omega)
  have s4 := sm_sI (x := 13) (y := g) (z := 0) (k := 10) s3 0 (by omega)
  have s5 := sm_sI (x := 13) (y := g) (z := 0) (k := 13) s4 0 (by omega)
  rw [c_plan_pI hL, c_plan_pI (sm_P s1 hL), c_plan_pI (sm_P s2 hL), c_plan_pI (sm_P s3 hL), c_plan_pI (sm_P s4 hL)]
  have q9 : m_I (m_sI (m_sI (m_sI (m_sI (m_sI μ (13, g, 0) 9 (nI seed)) (13, g, 0) 7 0) (13, g, 0) 8 0) (13, g, 0) 10 0) (13, g, 0) 13 0) (13, g, 0) 9 = nI seed := by simp [I_row, ud]
  have q7 : m_I (m_sI (m_sI (m_sI (m_sI (m_sI μ (13, g, 0) 9 (nI seed)) (13, g, 0) 7 0) (13, g, 0) 8 0) (13, g, 0) 10 0) (13, g, 0) 13 0) (13, g, 0) 7 = 0 := by simp [I_row, ud]
  have q8 : m_I (m_sI (m_sI (m_sI (m_sI (m_sI μ (13, g, 0) 9 (nI seed)) (13, g, 0) 7 0) (13, g, 0) 8 0) (13, g, 0) 10 0) (13, g, 0) 13 0) (13, g, 0) 8 = 0 := by simp [I_row, ud]
  have q10 : m_I (m_sI (m_sI (m_sI (m_sI (m_sI μ (13, g, 0) 9 (nI seed)) (13, g, 0) 7 0) (13, g, 0) 8 0) (13, g, 0) 10 0) (13, g, 0) 13 0) (13, g, 0) 10 = 0 := by simp [I_row, ud]
  have q13 : m_I (m_sI (m_sI (m_sI (m_sI (m_sI μ (13, g, 0) 9 (nI seed)) (13, g, 0) 7 0) (13, g, 0) 8 0) (13, g, 0) 10 0) (13, g, 0) 13 0) (13, g, 0) 13 = 0 := by simp [I_row, ud]
  generalize m_sI (m_sI (m_sI (m_sI (m_sI μ (13, g, 0) 9 (nI seed)) (13, g, 0) 7 0) (13, g, 0) 8 0) (13, g, 0) 10 0) (13, g, 0) 13 0 = μ1 at *
  refine e_bd (R := fun _ μ' => ∃ W r left a, runL P T S e b 300 0 [] (c, nI seed, 0) = (W, r, left) ∧ r ≤ 300 ∧ okW P T W ∧ FamI μ' f W.1 w P T ∧ m_I μ' (13, g, 0) 8 = W.2.2 ∧ m_I μ' (13, g, 0) 7 = nI (300 - r) ∧ a ≤ 31 ∧ m_I μ' (13, g, 0) 10 = nI a ∧ left = decide (a < S) ∧ Mo P T c W.1 ∧ (∀ j, 105 ≤ j → W.1 j = c j) ∧ sm (fun x y _ k => (((x = 7 ∧ k < 7) ∨ x = 9 ∨ x = 10 ∨ x = 12) ∧ y = f) ∨ (y = g ∧ ((x = 13 ∧ 7 ≤ k) ∨ x = 15))) μ μ') ?_ (fun _ μ' h => ⟨(), _, rfl, h⟩)
  refine e_brk (fun i s μ' => s = nI i ∧ ∃ W a stk, runL P T S e b 300 0 [] (c, nI seed, 0) = runL P T S e b (300 - i) a stk W ∧ Nz e a stk = (a, stk) ∧ okS S e stk ∧ okW P T W ∧ a ≤ 31 ∧ Conf μ' g a stk ∧ FamI μ' f W.1 w P T ∧ m_I μ' (13, g, 0) 9 = W.2.1 ∧ m_I μ' (13, g, 0) 8 = W.2.2 ∧ m_I μ' (13, g, 0) 7 = nI i ∧ Mo P T c W.1 ∧ (∀ j, 105 ≤ j → W.1 j = c j) ∧ sm (fun x y _ k => (((x = 7 ∧ k < 7) ∨ x = 9 ∨ x = 10 ∨ x = 12) ∧ y = f) ∨ (y = g ∧ ((x = 13 ∧ 7 ≤ k) ∨ x = 15))) μ μ') 300 ?_ ⟨rfl, (c, nI seed, 0), 0, [], rfl, rfl, ⟨Nat.zero_le 3, fun q hq => absurd hq List.not_mem_nil⟩, ⟨hO, hD, seed, hs, rfl⟩, by omega, ⟨q10, q13, trivial⟩, FamI_sm hI s5 (by omega), q9, q8, q7, ⟨fun _ _ q => q, fun _ _ q => q⟩, fun _ _ => rfl, sm_mono s5 (by omega)⟩ (by omega)
  rintro i s μ' hi ⟨rfl, W, a, stk, h1, h2, h3, h4, h5, h6, h7, h8, h9, h10, h11, h12, h13⟩
  have hL' := sm_P h13 hL
  have hP' := sm_F h13 hP
  have hp' := ProgC_sm hp h13 (by omega) (by omega)
  by_cases z : i = 300
  · subst z
    unfold fn_Pl_run_l27
    rw [ap_ite, if_pos (show (300 : Int32) ≤ nI 300 by decide)]
    refine ⟨_, _, rfl, .inr ⟨(), rfl, W, 0, decide (a < S), a, ?_, by omega, h4, h7, h9, h10, h5, h6.1, rfl, h11, h12, h13⟩⟩
    rw [h1, Nat.sub_self]
    unfold runL
    rw [h2]
  · have hi' : i < 300 := by omega
    obtain ⟨r, hr⟩ : ∃ r, 300 - i = r + 1 := ⟨300 - i - 1, by omega⟩
    have hun : runL P T S e b (r + 1) a stk W = if S ≤ a then (W, r + 1, false) else runL P T S e b r (exs P T S e b a stk W).1 (exs P T S e b a stk W).2.1 (exs P T S e b a stk W).2.2 := by
      show (if S ≤ (Nz e a stk).1 then (W, r + 1, false) else runL P T S e b r (exs P T S e b (Nz e a stk).1 (Nz e a stk).2 W).1 (exs P T S e b (Nz e a stk).1 (Nz e a stk).2 W).2.1 (exs P T S e b (Nz e a stk).1 (Nz e a stk).2 W).2.2) = _
      rw [h2]
    by_cases y : S ≤ a
    · have hge : ¬ (300 : Int32) ≤ nI i := nI_ge hi' (by decide)
      unfold fn_Pl_run_l27
      rw [ap_ite, if_neg hge, c_plan_gI hL', h6.1, c_plan_gI hL', hp'.1, ap_ite, if_pos (nI_le y (by omega))]
      refine ⟨_, _, rfl, .inr ⟨(), rfl, W, r + 1, false, a, ?_, by omega, h4, h7, h9, ?_, h5, h6.1, (decide_eq_false (by omega)).symm, h11, h12, h13⟩⟩
      · rw [h1, hr, hun, if_pos y]
      · rw [h10]
        congr 1
        omega
    · have ha : a < S := by omega
      obtain ⟨x1, x2, x3, x4, x5⟩ := exs_ok (P := P) (T := T) (b := b) h4 h3 ha p2 (p3 a ha) (p4 a ha)
      refine e_mono (k_one hL' hP' (.inr trivial) hp' h7 h4 h6 h3 ha h8 h9 hi' h10) ?_
      rintro _ μ2 ⟨rfl, g1, g2, g3, g4, g5, g6⟩
      refine .inl ⟨_, hi', rfl, rfl, (exs P T S e b a stk W).2.2, _, _, ?_, Nz_Nz x2, Nz_ok x2, x1, ?_, g5, g1, g2, g3, g4, Mo_tr h11 x4, fun j hj => by rw [x5 j hj, h12 j hj], sm_tr h13 g6⟩
      · rw [h1, hr, hun, if_neg y, runL_Nz x2]
        congr 1
        omega
      · have : ∀ (stk : stL), okS S e stk → ∀ a, a ≤ 31 → (Nz e a stk).1 ≤ 31 := by
          intro stk
          induction stk with
          | nil => exact fun _ a ha => ha
          | cons q k ih =>
            intro hk a ha
            obtain ⟨s, r⟩ := q
            have h1 := (hk.2 (s, r) List.mem_cons_self).1
            simp only at h1
            have hkk : okS S e k := ⟨by have := hk.1; simp at this; omega, fun q hq => hk.2 q (List.mem_cons_of_mem _ hq)⟩
            unfold Nz
            split
            · split
              · show s + 1 ≤ 31
                omega
              · exact ih hkk a ha
            · exact ha
        exact this _ x2 _ x3
end KN
