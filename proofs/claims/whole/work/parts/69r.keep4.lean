/-! Part 69r: keeping on the reference's side -/
def avR (X : Nat) : Nat → Bool := fun t => !X.testBit t
/-- the best so far: 1,000,000 is none -/
def enc (b : Nat) : Int32 := if b < 1000000 then nI b else -1
def KeepQ (S : Nat → Bool) (lv : Nat → Nat → Nat) (P T j X s b : Nat) (μ μ' : mM) : Prop :=
  sm (fun x _ _ k => (x = 40 ∧ k = 34) ∨ (x = 51 ∧ P - j ≤ k) ∨ x = 52) μ μ' ∧ m_I μ' (40, 0, 0) 34 = enc (min b (s + lst S lv P T j (avR X)))
  ∧ (s + lst S lv P T j (avR X) < b → ∀ k, k < P → m_I μ' (52, 0, 0) k = if k < P - j then m_I μ (51, 0, 0) k else ch S lv P T j (avR X) k)
  ∧ (¬ s + lst S lv P T j (avR X) < b → m_I μ' (52, 0, 0) = m_I μ (52, 0, 0))
section RK
variable {μ : mM} {P T : Nat} {c : Nat → Int32}
set_option maxHeartbeats 200000 in
theorem r_has {α : Type} {m k : Nat} (hm : m < 256) (hk : k < 8) (K : Int32 → mP α) : m_bd (fn_M_has (nI m) (nI k)) K μ = K (if m.testBit k = true then 1 else 0) μ := by
  have hh := has_n hm hk
  unfold fn_M_has
  cases q : m.testBit k
  · rw [q] at hh
    have hh' : ((nI m >>> (nI k &&& 31)) &&& 1) = 0 := hh
    simp only [↓bd_bd, ↓bd_rt, ↓reduceIte, ↓ap_ite, ↓bd_ite, bd_bd, bd_rt, ap_rt, ite_some, nz_1, nz_2, nz_3, nz_4, nz_5, nz_6, nz_7, nz_8, nz_9, nz_10, nz_11, nz_12, nz_m1, z_eq, if_true, if_false, e_some, ite_self, hh', (show ((0 : Int32) = 1) = False by decide), (show ((false : Bool) = true) = False by simp)]
  · rw [q] at hh
    have hh' : ((nI m >>> (nI k &&& 31)) &&& 1) = 1 := hh
    simp only [↓bd_bd, ↓bd_rt, ↓reduceIte, ↓ap_ite, ↓bd_ite, bd_bd, bd_rt, ap_rt, ite_some, nz_1, nz_2, nz_3, nz_4, nz_5, nz_6, nz_7, nz_8, nz_9, nz_10, nz_11, nz_12, nz_m1, z_eq, if_true, if_false, e_some, ite_self, hh']
set_option maxHeartbeats 200000 in
theorem r_copyKept (hR : RefP μ) : m_lp (fn_M_keepings_l36 (some (40, 0, 0))) m_F 0 μ = some ((), m_rI μ (52, 0, 0) (fun k => if k < 6 then m_I μ (51, 0, 0) k else m_I μ (52, 0, 0) k)) := by
  have h := lp_nat (body := fn_M_keepings_l36 (some (40, 0, 0))) (fun i => nI i) (fun i => m_rI μ (52, 0, 0) (fun k => if k < i then m_I μ (51, 0, 0) k else m_I μ (52, 0, 0) k)) 6 (x := ()) (μe := m_rI μ (52, 0, 0) (fun k => if k < 6 then m_I μ (51, 0, 0) k else m_I μ (52, 0, 0) k)) (fun i hi => ?_) ?_ (F := m_F) (by have := F_gt; omega)
  · have e0 : m_rI μ (52, 0, 0) (fun k => if k < 0 then m_I μ (51, 0, 0) k else m_I μ (52, 0, 0) k) = μ := by
      have : (fun k => if k < 0 then m_I μ (51, 0, 0) k else m_I μ (52, 0, 0) k) = m_I μ (52, 0, 0) := by
        funext k
        rw [if_neg (by omega)]
      rw [this, rI_self]
    simp only [e0] at h
    exact h
  · have hge : ¬ (6 : Int32) ≤ nI i := nI_ge hi (by decide)
    have e : ud (fun k => if k < i then m_I μ (51, 0, 0) k else m_I μ (52, 0, 0) k) i (m_I μ (51, 0, 0) i) = fun k => if k < i + 1 then m_I μ (51, 0, 0) k else m_I μ (52, 0, 0) k := by
      funext k
      unfold ud
      by_cases z : k = i
      · subst z
        rw [if_pos rfl, if_pos (by omega)]
      · rw [if_neg z]
        show (if k < i then m_I μ (51, 0, 0) k else m_I μ (52, 0, 0) k) = _
        by_cases y : k < i
        · rw [if_pos y, if_pos (by omega)]
        · rw [if_neg y, if_neg (by omega)]
    unfold fn_M_keepings_l36
    simp (disch := first | exact hC | exact hP | exact hR | ((repeat first | apply ClsP_sI | apply ClsP_sJ | apply ClsP_rI | apply ClsP_rJ | apply ClsP_rY); exact hC) | ((repeat first | apply FamP_sI | apply FamP_sJ | apply FamP_rI | apply FamP_rJ | apply FamP_rY); exact hP) | ((repeat first | apply RefP_sI | apply RefP_sJ | apply RefP_rI | apply RefP_rJ | apply RefP_rY); exact hR) | ((repeat first | apply PlanP_sI | apply PlanP_sJ | apply PlanP_rI | apply PlanP_rJ | apply PlanP_rY); exact hL) | omega) only [↓r_thb, ↓r_th, ↓r_gI, ↓r_gJ, ↓r_pI, ↓r_pJ, ↓r_g41, ↓r_g42, ↓r_g43, ↓r_g44, ↓r_g45, ↓r_g46, ↓r_g47, ↓r_g48, ↓r_g49, ↓r_g50, ↓r_g51, ↓r_g52, ↓r_g53, ↓r_g54, ↓r_g55, ↓r_g56, ↓r_g57, ↓r_g58, ↓r_a41, ↓r_a42, ↓r_a43, ↓r_a44, ↓r_a45, ↓r_a46, ↓r_a47, ↓r_a48, ↓r_a49, ↓r_a50, ↓r_a51, ↓r_a52, ↓r_a53, ↓r_a54, ↓r_a55, ↓r_a56, ↓r_a57, ↓r_a58, ↓r_t41, ↓r_t42, ↓r_t43, ↓r_t44, ↓r_t45, ↓r_t46, ↓r_t47, ↓r_t48, ↓r_t49, ↓r_t50, ↓r_t51, ↓r_t52, ↓r_t53, ↓r_t54, ↓r_t55, ↓r_t56, ↓r_t57, ↓r_t58, ↓r_l43_0, ↓r_l45_0, ↓r_l45_1, ↓r_l45_2, ↓r_l45_3, ↓r_l45_4, ↓r_l45_5, ↓r_l45_6, ↓r_l45_105, ↓r_l45_106, ↓r_l45_1508, ↓r_l45_1509, ↓r_tl45_0, ↓r_tl45_1, ↓r_tl45_2, ↓r_tl45_3, ↓r_tl45_4, ↓r_tl45_5, ↓r_tl45_6, ↓r_tl45_105, ↓r_tl45_106, ↓r_tl45_1508, ↓r_tl45_1509, ↓r_l48_0, ↓r_l56_0, ↓r_l57_0, ↓r_tl58_0, ↓r_tl58_1, ↓r_tl58_2, ↓r_tl58_3, ↓r_tl58_4, ↓bd_bd, ↓bd_rt, r_thb, r_th, r_gI, r_gJ, r_pI, r_pJ, r_g41, r_g42, r_g43, r_g44, r_g45, r_g46, r_g47, r_g48, r_g49, r_g50, r_g51, r_g52, r_g53, r_g54, r_g55, r_g56, r_g57, r_g58, r_a41, r_a42, r_a43, r_a44, r_a45, r_a46, r_a47, r_a48, r_a49, r_a50, r_a51, r_a52, r_a53, r_a54, r_a55, r_a56, r_a57, r_a58, r_t41, r_t42, r_t43, r_t44, r_t45, r_t46, r_t47, r_t48, r_t49, r_t50, r_t51, r_t52, r_t53, r_t54, r_t55, r_t56, r_t57, r_t58, r_l43_0, r_l45_0, r_l45_1, r_l45_2, r_l45_3, r_l45_4, r_l45_5, r_l45_6, r_l45_105, r_l45_106, r_l45_1508, r_l45_1509, r_tl45_0, r_tl45_1, r_tl45_2, r_tl45_3, r_tl45_4, r_tl45_5, r_tl45_6, r_tl45_105, r_tl45_106, r_tl45_1508, r_tl45_1509, r_l48_0, r_l56_0, r_l57_0, r_tl58_0, r_tl58_1, r_tl58_2, r_tl58_3, r_tl58_4, la_1, lm_1, la_2, lm_2, la_3, lm_3, la_6, lm_6, la_7, lm_7, la_8, lm_8, la_13, lm_13, la_19, lm_19, la_25, lm_25, la_33, lm_33, la_41, lm_41, la_49, lm_49, la_57, lm_57, la_60, lm_60, la_105, lm_105, la_107, lm_107, la_1508, lm_1508, la_96, lm_96, la_377, lm_377, la_1509, lm_1509, ↓reduceIte, ↓ap_ite, ↓bd_ite, bd_bd, bd_rt, ap_rt, ite_some, nI_add, nI_1, nz_1, nz_2, nz_3, nz_4, nz_5, nz_6, nz_7, nz_8, nz_9, nz_10, nz_11, nz_12, nz_m1, z_eq, if_true, if_false, e_some, ite_self, hge, sI_rI, I_rat, rI_rI, I_rne (x := 52) (x' := 51) μ (show Nat.beq 51 52 = false from rfl), e]
  · unfold fn_M_keepings_l36
    simp only [↓bd_bd, ↓bd_rt, ↓reduceIte, ↓ap_ite, ↓bd_ite, bd_bd, bd_rt, ap_rt, ite_some, nz_1, nz_2, nz_3, nz_4, nz_5, nz_6, nz_7, nz_8, nz_9, nz_10, nz_11, nz_12, nz_m1, z_eq, if_true, if_false, e_some, ite_self, (show (6 : Int32) ≤ nI 6 by decide)]
set_option maxHeartbeats 200000 in
theorem r_keepings {q : Nat} (hD : Dim c P T) (hO : Okc c P T) (hq : q < 2 ^ P) : ∀ n j, j < n → j ≤ P → ∀ (μ : mM) (X s b : Nat), RefP μ → m_I μ (45, 0, 0) = c → X < 256 → s ≤ 9 * (P - j) → b ≤ 1000000 → m_I μ (40, 0, 0) 34 = enc b → m_e (fn_M_keepings n (some (40, 0, 0)) (nI q) (nI (P - j)) (nI X) (nI s) μ) (fun _ μ' => KeepQ q.testBit (lvv c) P T j X s b μ μ')
  | 0, j, h, _ => by omega
  | n + 1, j, hj, hjP => by
    intro μ X s b hR hcμ hX hs hb h34
    obtain ⟨hP0, hT0, hP6, hT8⟩ := id hD
    have h64 : 2 ^ P ≤ 2 ^ 8 := Nat.pow_le_pow_right (by omega) (by omega)
    have e0 : m_I μ (45, 0, 0) 0 = nI P := by rw [hcμ]; exact hP0
    unfold fn_M_keepings fn_M_keepings_r
    rw [r_th hR, r_g45 hR, r_l45_0 hR, e0, ap_ite]
    cases j with
    | zero =>
      rw [if_pos (by rw [Nat.sub_zero]), r_gI hR, h34]
      have hL : lst q.testBit (lvv c) P T 0 (avR X) = 0 := rfl
      have hdo : s < b → m_e (m_bd (m_pI 11 34 (some (40, 0, 0)) (nI s)) (fun _ => m_bd (m_lp (fn_M_keepings_l36 (some (40, 0, 0))) m_F 0) fun (_ : Unit) => m_rt ()) μ) (fun _ μ' => KeepQ q.testBit (lvv c) P T 0 X s b μ μ') := fun z => by
        rw [r_pI hR, bd_of (r_copyKept (μ := m_sI μ (40, 0, 0) 34 (nI s)) hR)]
        refine ⟨(), _, rfl, sm_rI (sm_sI sm_rf _ (.inl ⟨rfl, rfl⟩)) _ (fun k h => absurd (.inr (.inr rfl)) h), ?_, fun _ k hk => ?_, fun h => absurd z h⟩
        · rw [I_rne _ rfl, I_row, ud_at, hL]
          unfold enc
          rw [if_pos (by omega), show min b (s + 0) = s by omega]
        · rw [I_rat, if_pos (by omega), if_pos (by omega), I_ne _ rfl]
      have hno : ¬ s < b → KeepQ q.testBit (lvv c) P T 0 X s b μ μ := fun z => ⟨sm_rf, by rw [h34, hL, show min b (s + 0) = b by omega], fun h => absurd h z, fun _ => rfl⟩
      by_cases z : b < 1000000
      · have he : enc b = nI b := if_pos z
        rw [he]
        have hneg : ¬ nI b < 0 := nI_pos (by omega)
        rw [ap_ite, if_neg hneg, r_gI hR, h34, he, ap_ite]
        by_cases y : s < b
        · rw [if_pos (nI_lt y (by omega))]
          exact hdo y
        · rw [if_neg (by rw [nI_ltq (by omega) (by omega)]; exact y)]
          exact ⟨(), μ, rfl, hno y⟩
      · have he : enc b = -1 := if_neg z
        rw [he, ap_ite, if_pos (by decide)]
        exact hdo (by omega)
    | succ j =>
      have hpP : P - (j + 1) < P := by omega
      have hp1 : P - (j + 1) + 1 = P - j := by omega
      rw [if_neg (fun y => by have := (nI_eq (show P - (j + 1) < 2 ^ 31 by omega) (show P < 2 ^ 31 by omega)).mp y; omega)]
      have ih := r_keepings hD hO hq n j (by omega) (by omega)
      generalize hp : P - (j + 1) = p at *
      have hp6 : p < 6 := by omega
      rw [r_g51 hR, r_t51 hR hp6, r_has (by omega) (by omega)]
      have h1p : nI p + 1 = nI (P - j) := by rw [nI_1, hp1]
      have hLd : lst q.testBit (lvv c) P T (j + 1) (avR X) = if q.testBit p = true then mn (lg q.testBit (lvv c) P T j p (avR X)) (avR X) T else lst q.testBit (lvv c) P T j (avR X) := by
        rw [← hp]
        rfl
      have hCd : ∀ r, ch q.testBit (lvv c) P T (j + 1) (avR X) r = if q.testBit p = true then (if r = p then nI (ft (lg q.testBit (lvv c) P T j p (avR X)) (avR X) T) else ch q.testBit (lvv c) P T j (rm (avR X) (ft (lg q.testBit (lvv c) P T j p (avR X)) (avR X) T)) r) else if r = p then -1 else ch q.testBit (lvv c) P T j (avR X) r := fun r => by
        rw [← hp]
        rfl
      have hpj : P - j = p + 1 := hp1.symm
      by_cases z : q.testBit p = true
      · rw [if_pos z] at hLd ⊢
        simp only [if_pos z] at hCd
        rw [if_neg (by decide)]
        have hl : m_e (m_lp (fn_M_keepings_l94 (fn_M_keepings n) (some (40, 0, 0)) (nI q) (nI p) (nI X) (nI s)) m_F 0 (m_sI μ (51, 0, 0) p (-1))) (fun _ μ' => KeepQ q.testBit (lvv c) P T (j + 1) X s b μ μ') := by
          generalize hg : lg q.testBit (lvv c) P T j p (avR X) = g at *
          refine e_inv (fun i t μ' => t = nI i ∧ sm (fun x _ _ k => (x = 40 ∧ k = 34) ∨ (x = 51 ∧ p ≤ k) ∨ x = 52) μ μ' ∧ m_I μ' (40, 0, 0) 34 = enc (min b (s + mn g (avR X) i)) ∧ (s + mn g (avR X) i < b → ∀ k, k < P → m_I μ' (52, 0, 0) k = if k < p then m_I μ (51, 0, 0) k else if k = p then nI (ft g (avR X) i) else ch q.testBit (lvv c) P T j (rm (avR X) (ft g (avR X) i)) k) ∧ (¬ s + mn g (avR X) i < b → m_I μ' (52, 0, 0) = m_I μ (52, 0, 0))) T ?_ ?_ ⟨rfl, sm_sI sm_rf _ (by omega), ?_, fun h => ?_, fun _ => by rw [I_ne _ rfl]⟩ (by omega)
          · rintro i t μ' hi ⟨rfl, b1, b2, b3, b4⟩
            have hR := sm_R b1 hR
            have hc45 : m_I μ' (45, 0, 0) = c := (sm_Ir b1 (by omega)).trans hcμ
            have e1 : m_I μ' (45, 0, 0) 1 = nI T := by rw [hc45]; exact hT0
            have hge := nI_ge hi (show T < 2 ^ 31 by omega)
            have hmle := mn_le (g := g) (av := avR X) i
            unfold fn_M_keepings_l94
            rw [r_g45 hR, r_l45_1 hR, e1, ap_ite, if_neg hge, r_has hX (by omega)]
            by_cases y : X.testBit i = true
            · have hav : ¬ avR X i = true := by unfold avR; rw [y]; decide
              have hm : mn g (avR X) (i + 1) = mn g (avR X) i := if_neg hav
              have hf : ft g (avR X) (i + 1) = ft g (avR X) i := if_neg (fun w => hav w.1)
              rw [if_pos y, if_neg (by decide)]
              refine ⟨_, _, rfl, _, rfl, nI_1 i, b1, ?_⟩
              rw [hm, hf]
              exact ⟨b2, b3, b4⟩
            · have hav : avR X i = true := by unfold avR; rw [Bool.eq_false_iff.mpr y]; rfl
              have hbX : X.testBit i = false := Bool.eq_false_iff.mpr y
              have hm : mn g (avR X) (i + 1) = min (mn g (avR X) i) (g i) := if_pos hav
              have hi8 : i < 8 := by omega
              rw [if_neg y, if_pos rfl]
              simp (disch := first | exact hp6 | exact hi8 | first | exact hC | exact hP | exact hR | ((repeat first | apply ClsP_sI | apply ClsP_sJ | apply ClsP_rI | apply ClsP_rJ | apply ClsP_rY); exact hC) | ((repeat first | apply FamP_sI | apply FamP_sJ | apply FamP_rI | apply FamP_rJ | apply FamP_rY); exact hP) | ((repeat first | apply RefP_sI | apply RefP_sJ | apply RefP_rI | apply RefP_rJ | apply RefP_rY); exact hR) | ((repeat first | apply PlanP_sI | apply PlanP_sJ | apply PlanP_rI | apply PlanP_rJ | apply PlanP_rY); exact hL) | omega) only [↓r_thb, ↓r_th, ↓r_gI, ↓r_gJ, ↓r_pI, ↓r_pJ, ↓r_g41, ↓r_g42, ↓r_g43, ↓r_g44, ↓r_g45, ↓r_g46, ↓r_g47, ↓r_g48, ↓r_g49, ↓r_g50, ↓r_g51, ↓r_g52, ↓r_g53, ↓r_g54, ↓r_g55, ↓r_g56, ↓r_g57, ↓r_g58, ↓r_a41, ↓r_a42, ↓r_a43, ↓r_a44, ↓r_a45, ↓r_a46, ↓r_a47, ↓r_a48, ↓r_a49, ↓r_a50, ↓r_a51, ↓r_a52, ↓r_a53, ↓r_a54, ↓r_a55, ↓r_a56, ↓r_a57, ↓r_a58, ↓r_t41, ↓r_t42, ↓r_t43, ↓r_t44, ↓r_t45, ↓r_t46, ↓r_t47, ↓r_t48, ↓r_t49, ↓r_t50, ↓r_t51, ↓r_t52, ↓r_t53, ↓r_t54, ↓r_t55, ↓r_t56, ↓r_t57, ↓r_t58, ↓r_l43_0, ↓r_l45_0, ↓r_l45_1, ↓r_l45_2, ↓r_l45_3, ↓r_l45_4, ↓r_l45_5, ↓r_l45_6, ↓r_l45_105, ↓r_l45_106, ↓r_l45_1508, ↓r_l45_1509, ↓r_tl45_0, ↓r_tl45_1, ↓r_tl45_2, ↓r_tl45_3, ↓r_tl45_4, ↓r_tl45_5, ↓r_tl45_6, ↓r_tl45_105, ↓r_tl45_106, ↓r_tl45_1508, ↓r_tl45_1509, ↓r_l48_0, ↓r_l56_0, ↓r_l57_0, ↓r_tl58_0, ↓r_tl58_1, ↓r_tl58_2, ↓r_tl58_3, ↓r_tl58_4, ↓bd_bd, ↓bd_rt, r_thb, r_th, r_gI, r_gJ, r_pI, r_pJ, r_g41, r_g42, r_g43, r_g44, r_g45, r_g46, r_g47, r_g48, r_g49, r_g50, r_g51, r_g52, r_g53, r_g54, r_g55, r_g56, r_g57, r_g58, r_a41, r_a42, r_a43, r_a44, r_a45, r_a46, r_a47, r_a48, r_a49, r_a50, r_a51, r_a52, r_a53, r_a54, r_a55, r_a56, r_a57, r_a58, r_t41, r_t42, r_t43, r_t44, r_t45, r_t46, r_t47, r_t48, r_t49, r_t50, r_t51, r_t52, r_t53, r_t54, r_t55, r_t56, r_t57, r_t58, r_l43_0, r_l45_0, r_l45_1, r_l45_2, r_l45_3, r_l45_4, r_l45_5, r_l45_6, r_l45_105, r_l45_106, r_l45_1508, r_l45_1509, r_tl45_0, r_tl45_1, r_tl45_2, r_tl45_3, r_tl45_4, r_tl45_5, r_tl45_6, r_tl45_105, r_tl45_106, r_tl45_1508, r_tl45_1509, r_l48_0, r_l56_0, r_l57_0, r_tl58_0, r_tl58_1, r_tl58_2, r_tl58_3, r_tl58_4, la_1, lm_1, la_2, lm_2, la_3, lm_3, la_6, lm_6, la_7, lm_7, la_8, lm_8, la_13, lm_13, la_19, lm_19, la_25, lm_25, la_33, lm_33, la_41, lm_41, la_49, lm_49, la_57, lm_57, la_60, lm_60, la_105, lm_105, la_107, lm_107, la_1508, lm_1508, la_96, lm_96, la_377, lm_377, la_1509, lm_1509, ↓reduceIte, ↓ap_ite, ↓bd_ite, bd_bd, bd_rt, ap_rt, ite_some, nI_add, nI_1, nz_1, nz_2, nz_3, nz_4, nz_5, nz_6, nz_7, nz_8, nz_9, nz_10, nz_11, nz_12, nz_m1, z_eq, if_true, if_false, e_some, ite_self, hc45]
              have hlo := r_loveOf (μ := m_sI μ' (51, 0, 0) p (nI i)) (p := p) (t := i) hR hp6 hi8
              have ec : cR (m_sI μ' (51, 0, 0) p (nI i)) (57 + 8 * p + i) = nI (lvv c p i) := by
                show m_I (m_sI μ' (51, 0, 0) p (nI i)) (45, 0, 0) (57 + 8 * p + i) = _
                rw [I_ne _ rfl, hc45, lvv_eq hO hpP hi8]
              rw [ec] at hlo
              rw [bd_of hlo, or_bit X hX i hi8 hbX, nI_add, show nI (p + 1) = nI (P - j) from congrArg nI hp1, bd_bd]
              have hX2 : X + 2 ^ i < 256 := bit_lt 8 (by decide) i hi8 X hX hbX
              have hlv := lvv_le c p i
              have h34' : m_I (m_sI μ' (51, 0, 0) p (nI i)) (40, 0, 0) 34 = enc (min b (s + mn g (avR X) i)) := by rw [I_ne _ rfl]; exact b2
              have hcc : m_I (m_sI μ' (51, 0, 0) p (nI i)) (45, 0, 0) = c := by rw [I_ne _ rfl]; exact hc45
              refine e_bd (ih (m_sI μ' (51, 0, 0) p (nI i)) (X + 2 ^ i) (s + lvv c p i) (min b (s + mn g (avR X) i)) hR hcc hX2 (by omega) (by omega) h34') ?_
              rintro - μ2 ⟨d1, d2, d3, d4⟩
              have hXr : ∀ k, k < 8 → avR (X + 2 ^ i) k = rm (avR X) i k := fun k hk => by
                unfold avR rm
                rw [bit_add X hX i hi8 hbX k hk]
                by_cases w : k = i
                · simp [w]
                · simp [w]
              have hLr : lst q.testBit (lvv c) P T j (avR (X + 2 ^ i)) = lst q.testBit (lvv c) P T j (rm (avR X) i) := lst_c _ _ _ fun k hk => hXr k (by omega)
              have hgi : g i = lvv c p i + lst q.testBit (lvv c) P T j (rm (avR X) i) := by rw [← hg]
              rw [hLr] at d2 d3 d4
              have hsum : s + lvv c p i + lst q.testBit (lvv c) P T j (rm (avR X) i) = s + g i := by rw [hgi, Nat.add_assoc]
              rw [hsum] at d2 d3 d4
              have hmin : min (min b (s + mn g (avR X) i)) (s + g i) = min b (s + min (mn g (avR X) i) (g i)) := by omega
              rw [hmin] at d2
              refine ⟨_, _, rfl, _, rfl, rfl, sm_tr (sm_sI b1 _ (by omega)) (sm_mono d1 (by omega)), by rw [d2, hm], fun w k hk => ?_, fun w => ?_⟩
              · by_cases v : s + g i < min b (s + mn g (avR X) i)
                · have hf : ft g (avR X) (i + 1) = i := if_pos ⟨hav, by omega⟩
                  rw [d3 v k hk, hf]
                  by_cases u : k < p
                  · rw [if_pos (by omega), if_pos u, I_row, ud_ne (by omega), sm_I b1 (by omega)]
                  · rw [if_neg u]
                    by_cases u2 : k = p
                    · rw [if_pos (by omega), if_pos u2, u2, I_row, ud_at]
                    · rw [if_neg (by omega), if_neg u2]
                      exact ch_c _ _ _ _ fun k hk => hXr k (by omega)
                · have hf : ft g (avR X) (i + 1) = ft g (avR X) i := if_neg (fun u => by rw [hm] at w; have := u.2; omega)
                  rw [d4 v, I_ne _ rfl, hf]
                  exact b3 (by rw [hm] at w; omega) k hk
              · rw [d4 (by rw [hm] at w; omega), I_ne _ rfl]
                exact b4 (by rw [hm] at w; omega)
          · rintro t μ' ⟨rfl, b1, b2, b3, b4⟩
            have hR := sm_R b1 hR
            have hc45 : m_I μ' (45, 0, 0) = c := (sm_Ir b1 (by omega)).trans hcμ
            have e1 : m_I μ' (45, 0, 0) 1 = nI T := by rw [hc45]; exact hT0
            unfold fn_M_keepings_l94
            rw [r_g45 hR, r_l45_1 hR, e1, ap_ite, if_pos (Int32.le_refl (nI T))]
            refine ⟨_, _, rfl, (), rfl, ?_⟩
            unfold KeepQ
            rw [hp, hLd]
            refine ⟨b1, b2, fun w k hk => ?_, b4⟩
            rw [b3 w k hk, hCd]
          · show m_I (m_sI μ (51, 0, 0) p (-1)) (40, 0, 0) 34 = enc (min b (s + 1000000))
            rw [I_ne _ rfl, h34, show min b (s + 1000000) = b by omega]
          · have h' : s + 1000000 < b := h
            omega
        refine e_bd hl ?_
        intro _ μ' h
        exact ⟨(), _, rfl, h⟩
      · rw [if_neg z] at hLd ⊢
        simp only [if_neg z] at hCd
        rw [if_pos rfl, h1p]
        refine e_bd (ih (m_sI μ (51, 0, 0) p (-1)) X s b hR (by rw [I_ne _ rfl]; exact hcμ) hX (by omega) hb (by rw [I_ne _ rfl]; exact h34)) ?_
        rintro - μ2 ⟨d1, d2, d3, d4⟩
        refine ⟨(), _, rfl, ?_⟩
        unfold KeepQ
        rw [hp, hLd]
        refine ⟨sm_tr (sm_sI sm_rf _ (by omega)) (sm_mono d1 (by omega)), d2, fun w k hk => ?_, fun w => by rw [d4 w, I_ne _ rfl]⟩
        rw [d3 w k hk, hCd]
        by_cases u : k < p
        · rw [if_pos (by omega), if_pos u, I_row, ud_ne (by omega)]
        · rw [if_neg u]
          by_cases u2 : k = p
          · rw [if_pos (by omega), if_pos u2, u2, I_row, ud_at]
          · rw [if_neg (by omega), if_neg u2]
end RK
