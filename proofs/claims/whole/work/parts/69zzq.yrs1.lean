/-! Part 69zzq: a plan that is being read, the class's side: what is open -/
def ClS (μ : mM) (g s : Nat) (r : Row) : Prop := m_I μ (14, g, 0) s = nI r.1 ∧ (uP r.1 → m_I μ (14, g, 1) s = nI r.2.1) ∧ (uT r.1 → m_I μ (14, g, 2) s = nI r.2.2.1) ∧ (uM r.1 → m_I μ (14, g, 3) s = nI r.2.2.2)
def CY (μ : mM) (g : Nat) (y : YS) : Prop := m_I μ (13, g, 0) 1 = nI y.1 ∧ (∀ i, i < y.1 → ClS μ g i (y.2.1 i)) ∧ ∀ i, i < y.1 → m_I μ (14, g, 4) i = if i ∈ y.2.2.2 then -1 else nI (y.2.2.1 i)
set_option maxHeartbeats 200000 in
theorem ClS_sm {K : Nat → Nat → Nat → Nat → Prop} {μ μ' : mM} {g s : Nat} {r : Row} (h : ClS μ g s r) (hs : sm K μ μ') (hk : ∀ z, z < 4 → ¬ K 14 g z s) : ClS μ' g s r := by
  unfold ClS at h ⊢
  rw [sm_I hs (hk 0 (by omega)), sm_I hs (hk 1 (by omega)), sm_I hs (hk 2 (by omega)), sm_I hs (hk 3 (by omega))]
  exact h
set_option maxHeartbeats 200000 in
theorem CY_sm {K : Nat → Nat → Nat → Nat → Prop} {μ μ' : mM} {g : Nat} {y : YS} (h : CY μ g y) (hs : sm K μ μ') (h1 : ¬ K 13 g 0 1) (h2 : ∀ z k, ¬ K 14 g z k) : CY μ' g y :=
  ⟨by rw [sm_I hs h1, h.1], fun i hi => ClS_sm (h.2.1 i hi) hs (fun z _ => h2 z i), fun i hi => by rw [sm_I hs (h2 4 i), h.2.2 i hi]⟩
def opn : List Nat → Int32
  | [] => -1
  | o :: _ => nI o
def nO : List Nat → Nat → Nat
  | [], _ => 0
  | o :: l, j => (if o < j then 1 else 0) + nO l j
set_option maxHeartbeats 200000 in
theorem nO_all : ∀ {l : List Nat} {b : Nat}, Srt l b → nO l b = l.length
  | [], _, _ => rfl
  | o :: l, b, h => by
    have h1 : nO l b = l.length := nO_all (Srt_mono (Nat.le_of_lt h.1) h.2)
    show (if o < b then 1 else 0) + nO l b = l.length + 1
    rw [if_pos h.1, h1]
    omega
set_option maxHeartbeats 200000 in
theorem nO_succ : ∀ {l : List Nat} {b j : Nat}, Srt l b → nO l (j + 1) = nO l j + if j ∈ l then 1 else 0
  | [], _, _, _ => rfl
  | o :: l, b, j, h => by
    have ih := nO_succ (j := j) h.2
    show (if o < j + 1 then 1 else 0) + nO l (j + 1) = (if o < j then 1 else 0) + nO l j + if j ∈ o :: l then 1 else 0
    by_cases z : j = o
    · subst z
      have hn : j ∉ l := fun q => absurd (Srt_lt h.2 q) (Nat.lt_irrefl _)
      rw [ih, if_neg hn, if_pos (Nat.lt_succ_self j), if_neg (Nat.lt_irrefl j), if_pos List.mem_cons_self]
      omega
    · rw [ih]
      simp only [List.mem_cons, z, false_or]
      by_cases v : o < j
      · rw [if_pos v, if_pos (by omega)]
        omega
      · rw [if_neg v, if_neg (by omega)]
        omega
set_option maxHeartbeats 200000 in
theorem add_m1 (x : Int32) : x + (-1) = x - 1 := (Int32.sub_eq_add_neg x 1).symm
section LO
variable {μ : mM} {g : Nat} {y : YS} {P T : Nat}
set_option maxHeartbeats 200000 in
theorem k_latestOpen (hG : PlanP μ g) (h : CY μ g y) (hy : YI y P T) : fn_Pl_latestOpen (some (13, g, 0)) μ = some (opn y.2.2.2, μ) := by
  obtain ⟨s, rows, e, op⟩ := y
  obtain ⟨h1, h2, h3⟩ := h
  obtain ⟨y1, y2, y3, y4, y5⟩ := hy
  change s ≤ 30 at y1
  change Srt op s at y2
  change ∀ i, i < s → i ∉ op → i < e i ∧ e i ≤ s at y5
  change ∀ i, i < s → m_I μ (14, g, 4) i = if i ∈ op then -1 else nI (e i) at h3
  have key : ∀ j F, j ≤ s → j < F → (∀ i, i ∈ op → i < j) → m_lp (fn_Pl_latestOpen_l7 (some (13, g, 0))) F (nI j - 1) μ = some (opn op, μ) := by
    intro j
    induction j with
    | zero =>
      intro F hj hF hn
      obtain ⟨F', rfl⟩ : ∃ F', F = F' + 1 := ⟨F - 1, by omega⟩
      have eo : op = [] := by
        cases op with
        | nil => rfl
        | cons o l => exact absurd (hn o List.mem_cons_self) (Nat.not_lt_zero o)
      rw [lp_s, eo]
      unfold fn_Pl_latestOpen_l7
      rw [bd_ite, if_pos (show nI 0 - 1 < 0 by decide), bd_rt]
      rfl
    | succ j ih =>
      intro F hj hF hn
      obtain ⟨F', rfl⟩ : ∃ F', F = F' + 1 := ⟨F - 1, by omega⟩
      have e1 : nI (j + 1) - 1 = nI j := by rw [show (1 : Int32) = nI 1 from rfl, pk_sub (by omega)]; rfl
      rw [lp_s, e1]
      unfold fn_Pl_latestOpen_l7
      rw [bd_ite, if_neg (nI_pos (by omega)), bd_bd, c_plan_r6 hG, bd_bd, c_parr_a hG (by omega) (by omega), h3 j (by omega), bd_ite]
      by_cases z : j ∈ op
      · rw [if_pos z, if_pos rfl, bd_rt]
        cases op with
        | nil => cases z
        | cons o l =>
          have a := hn o List.mem_cons_self
          rcases List.mem_cons.mp z with rfl | q
          · rfl
          · have := Srt_lt y2.2 q
            omega
      · have hb := y5 j (by omega) z
        rw [if_neg z, if_neg (nI_m1 (by omega)), bd_rt, add_m1]
        refine ih F' (by omega) (by omega) (fun i hi => ?_)
        have := hn i hi
        by_cases x : i = j
        · exact absurd (x ▸ hi) z
        · omega
  unfold fn_Pl_latestOpen
  rw [c_plan_th hG, c_plan_gI hG, h1]
  exact key s m_F (Nat.le_refl s) (by have := F_gt; omega) (fun i hi => Srt_lt y2 hi)
set_option maxHeartbeats 200000 in
theorem k_openBlocks (hG : PlanP μ g) (h : CY μ g y) (hy : YI y P T) : fn_Pl_openBlocks (some (13, g, 0)) μ = some (nI y.2.2.2.length, μ) := by
  obtain ⟨s, rows, e, op⟩ := y
  obtain ⟨h1, h2, h3⟩ := h
  obtain ⟨y1, y2, y3, y4, y5⟩ := hy
  change s ≤ 30 at y1
  change Srt op s at y2
  change ∀ i, i < s → i ∉ op → i < e i ∧ e i ≤ s at y5
  change ∀ i, i < s → m_I μ (14, g, 4) i = if i ∈ op then -1 else nI (e i) at h3
  change m_I μ (13, g, 0) 1 = nI s at h1
  have key : ∀ n j F, j + n = s → n < F → m_lp (fn_Pl_openBlocks_l4 (some (13, g, 0))) F (nI (nO op j), nI j) μ = some (nI (nO op s), μ) := by
    intro n
    induction n with
    | zero =>
      intro j F hj hF
      obtain ⟨F', rfl⟩ : ∃ F', F = F' + 1 := ⟨F - 1, by omega⟩
      obtain rfl : j = s := by omega
      rw [lp_s]
      unfold fn_Pl_openBlocks_l4
      rw [bd_bd, c_plan_gI hG, h1, bd_ite, if_pos (nI_le (Nat.le_refl _) (by omega)), bd_rt]
      rfl
    | succ n ih =>
      intro j F hj hF
      obtain ⟨F', rfl⟩ : ∃ F', F = F' + 1 := ⟨F - 1, by omega⟩
      rw [lp_s]
      unfold fn_Pl_openBlocks_l4
      rw [bd_bd, c_plan_gI hG, h1, bd_ite, if_neg (nI_ge (by omega) (by omega)), bd_bd, c_plan_r6 hG, bd_bd, c_parr_a hG (by omega) (by omega), h3 j (by omega), bd_bd, bd_ite]
      have := ih (j + 1) F' (by omega) (by omega)
      rw [nO_succ y2] at this
      by_cases z : j ∈ op
      · rw [if_pos z] at this
        rw [if_pos z, if_pos rfl, bd_rt, bd_rt, nI_1, nI_1]
        exact this
      · have hb := y5 j (by omega) z
        rw [if_neg z, Nat.add_zero] at this
        rw [if_neg z, if_neg (nI_m1 (by omega)), bd_rt, bd_rt, nI_1]
        exact this
  have h0 : ∀ l : List Nat, nO l 0 = 0 := fun l => by
    induction l with
    | nil => rfl
    | cons o l ih =>
      show (if o < 0 then 1 else 0) + nO l 0 = 0
      rw [ih, if_neg (Nat.not_lt_zero o)]
  have := key s 0 m_F (by omega) (by have := F_gt; omega)
  rw [h0, nO_all y2] at this
  unfold fn_Pl_openBlocks
  rw [c_plan_th hG]
  have e0 : m_lp (fn_Pl_openBlocks_l4 (some (13, g, 0))) m_F (0, 0) μ = some (nI op.length, μ) := this
  rw [bd_of e0]
  rfl
end LO
