/-! Part 69zzu: all lines, the class's side -/
def KM (g x y _z k : Nat) : Prop := (x = 5 ∧ 3 ≤ k) ∨ (x = 14 ∧ y = g) ∨ (x = 13 ∧ y = g ∧ k < 2)
section YK
variable {μ0 μ μ' : mM} {B : Nat → Int32} {u : Nat → Nat} {L p f g s P T : Nat} {w : Nat → Int64} {y : YS}
set_option maxHeartbeats 200000 in
theorem QY_mono {α : Type} {K K' : Nat → Nat → Nat → Nat → Prop} {res : Fl ⊕ (Nat × α)} {S : α → mM → Prop} {r : Int32} (hK : ∀ x y z k, K x y z k → K' x y z k) (h : QY K μ0 u L res S r μ') : QY K' μ0 u L res S r μ' := by
  refine ⟨sm_mono h.1 hK, fun p' a q => ?_, h.2.2⟩
  obtain ⟨a1, a2, a3, a4, a5⟩ := h.2.1 p' a q
  exact ⟨a1, a2, a3, ⟨sm_mono a4.1 hK, a4.2⟩, a5⟩
set_option maxHeartbeats 200000 in
theorem y_row {α β : Type} {K K1 : Nat → Nat → Nat → Nat → Prop} {S1 : α → mM → Prop} {S : β → mM → Prop} {F : α → β} {x : mP Int32} {r1 : Fl ⊕ (Nat × α)} (h0 : St K μ0 μ) (hK : ∀ x y z k, K1 x y z k → K x y z k) (h : m_e (x μ) (QY K1 μ u L r1 S1)) (hS : ∀ μ' a, sm K1 μ μ' → S1 a μ' → S (F a) μ') : m_e (m_bd x (fun v => if v = 0 then m_rt 0 else m_rt 1) μ) (QY K μ0 u L (bG r1 fun q => .inr (q.1, F q.2)) S) := by
  refine e_bd h ?_
  rintro r μ' ⟨q1, q2, q3⟩
  cases r1 with
  | inl fl =>
    obtain ⟨rfl, hF⟩ := q3 fl rfl
    rw [ap_ite, if_pos rfl]
    exact ⟨_, _, rfl, sm_tr h0.1 (sm_mono q1 hK), fun p' a q => (by cases q), fun fl' q => by cases q; exact ⟨rfl, hF⟩⟩
  | inr q =>
    obtain ⟨p', a⟩ := q
    obtain ⟨rfl, b1, b2, b3, b4⟩ := q2 p' a rfl
    rw [ap_ite, if_neg (by decide)]
    exact QY_fin ⟨sm_tr h0.1 (sm_mono b3.1 hK), b3.2.1.trans h0.2.1, b3.2.2.trans h0.2.2⟩ b1 b2 (hS μ' a b3.1 b4)
set_option maxHeartbeats 200000 in
theorem k_closeBlock (h : EvY μ B u L f g w P T) (hY : CY μ g y) (hI : YI y P T) (hk : TkC μ u L p) (hp : p ≤ L) : m_e (fn_Re_closeBlock (some (5, 0, 0)) (some (13, g, 0)) μ) (QY (KL g) μ u L (yCl u L p y) (fun y' μ' => CY μ' g y')) := by
  obtain ⟨hC, hP, hG, hT, hB, hN⟩ := id h
  unfold fn_Re_closeBlock
  rw [bd_of (k_latestOpen hG hY hI), ap_ite]
  obtain ⟨s, rows, e, op⟩ := y
  obtain ⟨y1, y2, y3, y4, y5⟩ := hI
  obtain ⟨h1, h2, h3⟩ := hY
  change m_I μ (13, g, 0) 1 = nI s at h1
  change ∀ i, i < s → ClS μ g i (rows i) at h2
  change ∀ i, i < s → m_I μ (14, g, 4) i = if i ∈ op then -1 else nI (e i) at h3
  change s ≤ 30 at y1
  change Srt op s at y2
  cases op with
  | nil =>
    rw [if_pos (show opn [] = -1 from rfl)]
    exact e_mono (k_ref0 hC hk 2 (am u L p) rfl) (fun r μ' q => QY_E sm_rf KL_5 q)
  | cons o l =>
    have ho : o < 30 := by have := y2.1; omega
    have s1 : sm (fun x y z k => x = 14 ∧ y = g ∧ z = 4 ∧ k = o) μ (m_sI μ (14, g, 4) o (nI s)) := sm_sI sm_rf _ ⟨rfl, rfl, rfl, rfl⟩
    have e0 : opn (o :: l) = nI o := rfl
    dsimp only
    rw [e0, if_neg (nI_m1 (by omega)), c_plan_r6 hG, c_plan_gI hG, h1, c_parr_t hG (by omega) ho]
    refine e_bd (k_adv (sm_C s1 hC) (TxB_sm hT s1 (by omega) (by omega)) hB (TkC_sm hk s1 (by omega)) hp) ?_
    rintro - μ2 q
    obtain ⟨-, c1, c2, c3, c4⟩ := q.2.1 _ rfl
    have t2 : sm (KL g) μ μ2 := sm_tr (sm_mono s1 (by unfold KL; omega)) (sm_mono q.1 (by unfold KL; omega))
    have hno : o ∉ l := fun q => absurd (Srt_lt y2.2 q) (Nat.lt_irrefl _)
    refine QY_fin ⟨t2, by rw [c3, sm_I s1 (by omega)], by rw [c4, sm_I s1 (by omega)]⟩ c1 c2 ⟨?_, fun i hi => ?_, fun i hi => ?_⟩
    · rw [sm_I q.1 (by omega), sm_I s1 (by omega), h1]
    · exact ClS_sm (ClS_sm (h2 i hi) s1 (by omega)) q.1 (by omega)
    · show m_I μ2 (14, g, 4) i = if i ∈ l then -1 else nI (ud e o s i)
      by_cases z : i = o
      · subst z
        rw [sm_I q.1 (by omega), I_row, ud_at, if_neg hno, ud_at]
      · rw [sm_I q.1 (by omega), sm_I s1 (by omega), h3 i hi, ud_ne z]
        simp only [List.mem_cons, z, false_or]
set_option maxHeartbeats 200000 in
theorem CY_row {μ1 μ2 : mM} {k : Nat} {r : Row} (hY : CY μ g y) (hI : YI y P T) (s1 : sm (fun x y' z k => (x = 5 ∧ 3 ≤ k) ∨ (x = 14 ∧ y' = g ∧ k = y.1) ∨ (x = 13 ∧ y' = g ∧ k = 1)) μ μ1) (z1 : m_I μ1 (13, g, 0) 1 = nI (y.1 + 1)) (z3 : m_I μ1 (14, g, 4) y.1 = if 8 ≤ k then -1 else nI (y.1 + 1)) (s2 : sm (KY g y.1) μ1 μ2) (hr : ClS μ2 g y.1 r) : CY μ2 g (y.1 + 1, ud y.2.1 y.1 r, if 8 ≤ k then y.2.2.1 else ud y.2.2.1 y.1 (y.1 + 1), if 8 ≤ k then y.1 :: y.2.2.2 else y.2.2.2) := by
  obtain ⟨h1, h2, h3⟩ := hY
  have hn : y.1 ∉ y.2.2.2 := fun q => absurd (Srt_lt hI.2.1 q) (Nat.lt_irrefl _)
  refine ⟨?_, fun i hi => ?_, fun i hi => ?_⟩
  · show m_I μ2 (13, g, 0) 1 = nI (y.1 + 1)
    rw [sm_I s2 (by unfold KY; omega), z1]
  · have hi' : i < y.1 + 1 := hi
    show ClS μ2 g i (ud y.2.1 y.1 r i)
    by_cases z : i = y.1
    · rw [z, ud_at]
      exact hr
    · rw [ud_ne z]
      exact ClS_sm (ClS_sm (h2 i (by omega)) s1 (by omega)) s2 (by unfold KY; omega)
  · have hi' : i < y.1 + 1 := hi
    show m_I μ2 (14, g, 4) i = if i ∈ (if 8 ≤ k then y.1 :: y.2.2.2 else y.2.2.2) then -1 else nI ((if 8 ≤ k then y.2.2.1 else ud y.2.2.1 y.1 (y.1 + 1)) i)
    rw [sm_I s2 (by unfold KY; omega)]
    by_cases z : i = y.1
    · rw [z, z3]
      by_cases k8 : 8 ≤ k
      · rw [if_pos k8, if_pos (by rw [if_pos k8]; exact List.mem_cons_self)]
      · rw [if_neg k8, if_neg (by rw [if_neg k8]; exact hn), if_neg k8, ud_at]
    · rw [sm_I s1 (by omega), h3 i (by omega)]
      by_cases k8 : 8 ≤ k
      · rw [if_pos k8, if_pos k8]
        simp only [List.mem_cons, z, false_or]
      · rw [if_neg k8, if_neg k8, ud_ne z]
set_option maxHeartbeats 200000 in
theorem k_line (h : EvY μ B u L f g w P T) (hY : CY μ g y) (hI : YI y P T) (hk : TkC μ u L p) (hp : p ≤ L) : m_e ((if iw u L p 19 = 0 then m_bd (fn_Tx_is (some (5, 0, 0)) (some (0, 15, 0))) fun v4 => if v4 = 0 then m_bd (fn_Re_stepKind (some (5, 0, 0))) fun v5 => m_bd (fn_Re_openStep (some (5, 0, 0)) (some (13, g, 0)) v5) fun v6 => if v6 = 0 then m_rt 0 else m_bd (fn_Re_takeRest (some (5, 0, 0)) (some (7, f, 0)) (some (13, g, 0))) fun v7 => if v7 = 0 then m_rt 0 else m_rt 1 else m_bd (fn_Re_openStep (some (5, 0, 0)) (some (13, g, 0)) 9) fun v8 => if v8 = 0 then m_rt 0 else m_bd (fn_Re_takeTest (some (5, 0, 0)) (some (7, f, 0)) (some (13, g, 0))) fun v9 => if v9 = 0 then m_rt 0 else m_rt 1 else m_bd (fn_Re_closeBlock (some (5, 0, 0)) (some (13, g, 0))) fun v10 => m_rt v10) μ) (QY (KL g) μ u L (if isW u L p 19 = true then yCl u L p y else yHd u L w P T p y) (fun y' μ' => CY μ' g y')) := by
  obtain ⟨hC, hP, hG, hT, hB, hN⟩ := id h
  have hkl := kdN_le (u := u) (L := L) (p := p)
  have hKs : ∀ x y' z k, ((x = 5 ∧ 3 ≤ k) ∨ (x = 14 ∧ y' = g ∧ k = y.1) ∨ (x = 13 ∧ y' = g ∧ k = 1)) → KL g x y' z k := by unfold KL; omega
  have hKy : ∀ x y' z k, KY g y.1 x y' z k → (x = 5 ∧ 3 ≤ k) ∨ (x = 14 ∧ y' = g ∧ k = y.1) ∨ (x = 13 ∧ y' = g ∧ k = 1) := by unfold KY; omega
  rw [ap_ite, iw_ite]
  by_cases h19 : isW u L p 19 = true
  · rw [if_pos h19, if_pos h19]
    exact e_bd (k_closeBlock h hY hI hk hp) (fun a μ' q => ⟨_, _, rfl, q⟩)
  rw [if_neg h19, if_neg h19, bd_of (k_is hC hT hB hk (j := 15) (by omega)), ap_ite, iw_ite, yHd_E]
  by_cases h15 : isW u L p 15 = true
  · have e9 := kdN_15 h15
    rw [if_pos h15, e9]
    refine e_mono ?_ (fun r μ' q => QY_mono hKs q)
    refine y_ch St_rf (k_openStep (k := 9) (v := 9) h hY hI hk hp rfl (.inr (by omega)) (fun _ e => by
      rw [isW_K h15] at e
      exact absurd e (by decide))) ?_
    rintro μ1 p1 r1 h1 k1 l1 ⟨hs, z1, z2, z3⟩
    have E1 := EvY_sm h h1.1 (by omega) (by omega) (by omega)
    exact y_row (S := fun y' μ' => CY μ' g y') (F := fun (row : Row) => ((y.1 + 1, ud y.2.1 y.1 row, if 8 ≤ 9 then y.2.2.1 else ud y.2.2.1 y.1 (y.1 + 1), if 8 ≤ 9 then y.1 :: y.2.2.2 else y.2.2.2) : YS)) h1 hKy (k_takeTest E1 hs z1 z2 k1 l1) (fun μ' a s2 hr => CY_row hY hI h1.1 z1 z3 s2 hr)
  · have hn9 := kdN_n15 h15
    rw [if_neg h15, bd_of (k_stepKind hC hT hB hk h15)]
    refine e_mono ?_ (fun r μ' q => QY_mono hKs q)
    refine y_ch St_rf (k_openStep (k := kdN u L p) h hY hI hk hp rfl hkl (fun q e => by
      rw [kdN_K q] at e
      exact absurd e (by decide))) ?_
    rintro μ1 p1 r1 h1 k1 l1 ⟨hs, z1, z2, z3⟩
    have E1 := EvY_sm h h1.1 (by omega) (by omega) (by omega)
    have hn99 : kdN u L p ≠ 99 := fun q => by
      unfold pOpn at r1
      rw [if_pos q] at r1
      cases r1
    exact y_row (S := fun y' μ' => CY μ' g y') (F := fun (row : Row) => ((y.1 + 1, ud y.2.1 y.1 row, if 8 ≤ kdN u L p then y.2.2.1 else ud y.2.2.1 y.1 (y.1 + 1), if 8 ≤ kdN u L p then y.1 :: y.2.2.2 else y.2.2.2) : YS)) h1 hKy (k_takeRest E1 hs z1 z2 (by omega) k1 l1) (fun μ' a s2 hr => CY_row hY hI h1.1 z1 z3 s2 hr)
set_option maxHeartbeats 200000 in
/-- all lines -/
theorem k_lines : ∀ n i F p y μ, L - p < n → n < F → L ≤ 300 → EvY μ B u L f g w P T → CY μ g y → YI y P T → TkC μ u L p → p ≤ L → i ≤ p → m_e (m_lp (fn_Re_takePlan_l6 (some (5, 0, 0)) (some (7, f, 0)) (some (13, g, 0))) F (nI i) μ) (fun r μ' => sm (KM g) μ μ' ∧ (∀ q', yIt u L w P T n (p, y) = .inr q' → r = 1 ∧ m_I μ' (5, 0, 0) 10 = m_I μ (5, 0, 0) 10 ∧ m_I μ' (5, 0, 0) 11 = m_I μ (5, 0, 0) 11 ∧ CY μ' g q'.2 ∧ q'.2.2.2.2 = [] ∧ m_I μ' (13, g, 0) 0 = 1) ∧ ∀ fl, yIt u L w P T n (p, y) = .inl fl → r = 0 ∧ FtC μ' fl) := by
  intro n
  induction n with
  | zero =>
    intro i F p y μ hn
    exact absurd hn (Nat.not_lt_zero _)
  | succ n ih =>
    intro i F p y μ hn hF hL h hY hI hk hp hi
    obtain ⟨F', rfl⟩ : ∃ F', F = F' + 1 := ⟨F - 1, by omega⟩
    obtain ⟨hC, hP, hG, hT, hB, hN⟩ := id h
    have hK := tK_le (u := u) (L := L) (p := p)
    have hKM : ∀ x y z k, KL g x y z k → KM g x y z k := by unfold KL KM; omega
    rw [lp_s]
    unfold fn_Re_takePlan_l6 yIt
    rw [bd_ite, if_neg (show ¬ (300 : Int32) < nI i from Int32.not_lt.mpr (nI_le (b := 300) (by omega) (by omega))), bd_bd, c_text_gI hC, hk.2.1, bd_ite]
    by_cases z : tK u L p = 0
    · rw [if_pos (show nI (tK u L p) = 0 by rw [z]; rfl), bd_bd, bd_of (k_latestOpen hG hY hI), bd_bd, bd_ite, bd_rt, bd_rt]
      by_cases x : y.2.2.2 = []
      · have s1 : sm (fun x y z k => x = 13 ∧ y = g ∧ k = 0) μ (m_sI μ (13, g, 0) 0 1) := sm_sI sm_rf _ ⟨rfl, rfl, rfl⟩
        rw [if_pos (show opn y.2.2.2 = -1 by rw [x]; rfl), if_pos ⟨z, x⟩, bd_bd, c_plan_pZ hG (.inr rfl), bd_bd, c_plan_gI (show PlanP (m_sI μ (13, g, 0) 0 1) g from hG), I_row, ud_at, bd_ite, if_neg (by decide), bd_rt]
        refine ⟨_, _, rfl, sm_mono s1 (by unfold KM; omega), fun q' q => ?_, fun fl q => (by cases q)⟩
        cases q
        exact ⟨rfl, by rw [sm_I s1 (by omega)], by rw [sm_I s1 (by omega)], CY_sm hY s1 (by omega) (by omega), x, by rw [I_row, ud_at]⟩
      · have hop : ¬ opn y.2.2.2 = -1 := by
          have hS := hI.2.1
          have h30 := hI.1
          cases ho : y.2.2.2 with
          | nil => exact absurd ho x
          | cons o l =>
            rw [ho] at hS
            exact nI_m1 (by have := hS.1; omega)
        have s1 : sm (fun x y z k => x = 13 ∧ y = g ∧ k = 0) μ (m_sI μ (13, g, 0) 0 0) := sm_sI sm_rf _ ⟨rfl, rfl, rfl⟩
        have hC1 := sm_C s1 hC
        have k1 := TkC_sm hk s1 (by omega)
        rw [if_neg hop, if_neg (fun q => x q.2), yLn_0 z, bG_l, bd_bd, c_plan_pZ hG (.inl rfl), bd_bd, c_plan_gI (show PlanP (m_sI μ (13, g, 0) 0 0) g from hG), I_row, ud_at, bd_ite, if_pos rfl, bd_bd, bd_of (show fn_Tx_refuse (some (5, 0, 0)) 2 (m_sI μ (13, g, 0) 0 0) = _ from k_refuse hC1 k1 2), bd_ite, if_pos rfl, bd_rt]
        refine ⟨_, _, rfl, sm_sI (sm_sI (sm_mono s1 (by unfold KM; omega)) _ (by unfold KM; omega)) _ (by unfold KM; omega), fun q' q => (by cases q), fun fl q => ?_⟩
        cases q
        exact ⟨rfl, by rw [I_row, ud_ne (by decide), I_row, ud_at]; rfl, by rw [I_row, ud_at]; rfl⟩
    · rw [if_neg (show ¬ nI (tK u L p) = 0 from fun q => z ((nI_eq (b := 0) (by omega) (by omega)).mp q)), if_neg (fun q => z q.1), bd_bd, bd_of (k_is hC hT hB hk (j := 19) (by omega)), bd_bd]
      refine e_bd (k_line h hY hI hk hp) ?_
      rintro r μ1 ⟨s1, g1, g2⟩
      unfold yLn
      rw [bG_bG]
      cases hr : (if isW u L p 19 = true then yCl u L p y else yHd u L w P T p y) with
      | inl fl =>
        obtain ⟨rfl, hE⟩ := g2 fl hr
        rw [bd_ite, if_pos rfl, bd_rt, bG_l]
        exact ⟨_, _, rfl, sm_mono s1 hKM, fun q' q => (by cases q), fun fl' q => by cases q; exact ⟨rfl, hE⟩⟩
      | inr q =>
        obtain ⟨p1, y1⟩ := q
        obtain ⟨rfl, k1, l1, h1, hY1⟩ := g1 p1 y1 hr
        have E1 := EvY_sm h s1 (by unfold KL; omega) (by unfold KL; omega) (by unfold KL; omega)
        rw [bd_ite, if_neg (by decide), bd_bd]
        refine e_bd (k_takeEndSign E1.1 E1.2.2.2.1 hB k1 l1) ?_
        rintro r μ2 q2
        have t2 : sm (KL g) μ μ2 := sm_tr s1 (sm_mono q2.1 (by unfold KL; omega))
        rw [bG_r]
        unfold yE
        dsimp only
        cases hr2 : pEnd u L p1 with
        | inl fl =>
          obtain ⟨rfl, hE⟩ := q2.2.2 fl hr2
          rw [bd_ite, if_pos rfl, bd_rt, bG_l, bG_l]
          exact ⟨_, _, rfl, sm_mono t2 hKM, fun q' q => (by cases q), fun fl' q => by cases q; exact ⟨rfl, hE⟩⟩
        | inr p2 =>
          obtain ⟨rfl, k2, l2, e10, e11⟩ := q2.2.1 p2 hr2
          have hln : yLn u L w P T p y = .inr (p2, y1) := by
            unfold yLn yE
            rw [hr, bG_r]
            dsimp only
            rw [hr2]
            rfl
          obtain ⟨v1, v2, v3⟩ := yLn_Z hN.2.2.1 hN.2.2.2.1 hp hI hln
          rw [bd_ite, if_neg (by decide), bd_rt, nI_1, bG_r, bG_r]
          refine e_mono (ih (i + 1) F' p2 y1 μ2 (by omega) (by omega) hL (EvY_sm E1 q2.1 (by omega) (by omega) (by omega)) (CY_sm hY1 q2.1 (by omega) (by omega)) v3 k2 l2 (by omega)) ?_
          rintro r μ3 ⟨s3, b1, b2⟩
          refine ⟨sm_tr (sm_mono t2 hKM) s3, fun q' q => ?_, b2⟩
          obtain ⟨b3, b4, b5, b6⟩ := b1 q' q
          exact ⟨b3, b4.trans (e10.trans h1.2.1), b5.trans (e11.trans h1.2.2), b6⟩
end YK
