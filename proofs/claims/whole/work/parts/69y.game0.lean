/-! Part 69y: games, as functions; the class's side -/
abbrev tri : Type := Int32 × Int32 × Int32
/-- a thing's year: coat, rust, oil -/
def ty (th d l : Int32) (s : tri) : tri := (q_coa s.1 (q_bit s.2.1 th s.2.2 l d), q_rus s.1 s.2.1 (q_bit s.2.1 th s.2.2 l d), iMax 0 (s.2.2 - 1))
/-- a move m at turn k: the two things behind it -/
def mvG (br : Int32) (k m : Nat) (G : Nat → tri) (s : Nat) : tri := if m = 0 ∧ s = 1 - k % 2 then ((G s).1, iMin 999 ((G s).2.1 + br), (G s).2.2) else if m = 1 ∧ s = k % 2 then ((G s).1, (G s).2.1, 3) else G s
def okG (TH : Nat → Int32) (k : Nat) (G : Nat → tri) (m : Nat) : Bool := if m = 0 then decide ((G (1 - k % 2)).2.1 < TH (1 - k % 2)) else if m = 1 then decide ((G (k % 2)).2.1 < TH (k % 2)) else true
def gm' (TH : Nat → Int32) (L : Nat → Nat → Int32) (d br : Int32) (k m : Nat) (G : Nat → tri) (s : Nat) : tri := ty (TH s) d (L s (k + 1)) (mvG br k m G s)
/-- the best of the first moves, and the move -/
def gbst (b : Nat) (ok : Nat → Bool) (g : Nat → Int32) : Nat → Int32 × Int32
  | 0 => (0, -1)
  | m + 1 => if ok m = true ∧ ((gbst b ok g m).2 = -1 ∨ (if b = 0 then (gbst b ok g m).1 < g m else g m < (gbst b ok g m).1)) then (g m, nI m) else gbst b ok g m
def gv (TH : Nat → Int32) (L : Nat → Nat → Int32) (d br : Int32) (n : Nat) : Nat → (Nat → tri) → Int32
  | 0, G => (G 1).2.1 - (G 0).2.1
  | j + 1, G => (gbst ((n - (j + 1)) % 2) (okG TH (n - (j + 1)) G) (fun m => gv TH L d br n j (gm' TH L d br (n - (j + 1)) m G)) 3).1
set_option maxHeartbeats 200000 in
theorem gbst_w {b : Nat} {ok : Nat → Bool} {g : Nat → Int32} : ∀ m, m ≤ 3 → (gbst b ok g m).2 = -1 ∨ ∃ i, i < m ∧ (gbst b ok g m).2 = nI i
  | 0, _ => .inl rfl
  | m + 1, h => by
    by_cases z : ok m = true ∧ ((gbst b ok g m).2 = -1 ∨ (if b = 0 then (gbst b ok g m).1 < g m else g m < (gbst b ok g m).1))
    · exact .inr ⟨m, by omega, by rw [show gbst b ok g (m + 1) = (g m, nI m) from if_pos z]⟩
    · rw [show gbst b ok g (m + 1) = gbst b ok g m from if_neg z]
      rcases gbst_w (b := b) (ok := ok) (g := g) m (by omega) with h | ⟨i, h1, h2⟩
      · exact .inl h
      · exact .inr ⟨i, by omega, h2⟩
set_option maxHeartbeats 200000 in
theorem gbst_3 {b : Nat} {ok : Nat → Bool} {g : Nat → Int32} (h : ok 2 = true) : ∃ i, i < 3 ∧ (gbst b ok g 3).2 = nI i := by
  rcases gbst_w (b := b) (ok := ok) (g := g) 3 (Nat.le_refl 3) with q | q
  · rcases gbst_w (b := b) (ok := ok) (g := g) 2 (by omega) with w | ⟨i, h1, h2⟩
    · exact ⟨2, by omega, by rw [show gbst b ok g 3 = (g 2, nI 2) from if_pos ⟨h, .inl w⟩]⟩
    · by_cases z : ok 2 = true ∧ ((gbst b ok g 2).2 = -1 ∨ (if b = 0 then (gbst b ok g 2).1 < g 2 else g 2 < (gbst b ok g 2).1))
      · exact ⟨2, by omega, by rw [show gbst b ok g 3 = (g 2, nI 2) from if_pos z]⟩
      · exact ⟨i, by omega, by rw [show gbst b ok g 3 = gbst b ok g 2 from if_neg z]; exact h2⟩
  · exact q
set_option maxHeartbeats 200000 in
theorem iR_2 : ∀ k : Nat, k < 8 → iR (nI k) 2 = nI (k % 2) := by decide +kernel
section GC
variable {μ : mM} {f P T : Nat} {c : Nat → Int32} {w : Nat → Int64}
/-- a board -/
def BD (μ : mM) (i : Nat) (th : Int32) (g : tri) : Prop := m_I μ (12, 6, i) 1 = th ∧ m_I μ (12, 6, i) 2 = g.1 ∧ m_I μ (12, 6, i) 3 = g.2.1 ∧ m_I μ (12, 6, i) 4 = g.2.2
set_option maxHeartbeats 200000 in
theorem BD_sm {K : Nat → Nat → Nat → Nat → Prop} {μ μ' : mM} {i : Nat} {th : Int32} {g : tri} (h : BD μ i th g) (hs : sm K μ μ') (hk : ∀ k, ¬ K 12 6 i k) : BD μ' i th g := by
  unfold BD at h ⊢
  rw [sm_Ir hs hk]
  exact h
set_option maxHeartbeats 200000 in
theorem brd_ne {i j : Nat} (h : i ≠ j) : ((12, 6, i) : mA) ≠ (12, 6, j) := fun q => h (congrArg (fun a : mA => a.2.2) q)
set_option maxHeartbeats 200000 in
theorem k_thr_BD (hC : ClsP μ) {i : Nat} (hi : i < 10) {th : Int32} {g : tri} (h : BD μ i th g) : fn_Th_isThrough (some (12, 6, i)) μ = some (if g.2.1 < th then 0 else 1, μ) := by
  rw [k_isThrough (o_brd hC hi), h.1, h.2.2.1]
set_option maxHeartbeats 200000 in
theorem k_otherOf (hC : ClsP μ) {k b : Nat} (hk : k < 4) (hb : b ≤ 4) : fn_Ga_otherOf (some (29, 0, 0)) (nI k) (nI b) μ = some (some (12, 6, 2 * b + (1 - k % 2)), μ) := by
  have e1 : ((2 : Int32) * nI b + 1) - iR (nI k) 2 = nI (2 * b + (1 - k % 2)) := by
    rw [iR_2 k (by omega), show (2 : Int32) = nI 2 from rfl, pk_mul, nI_1, pk_sub (by omega)]
    congr 1
    omega
  have h10 : 2 * b + (1 - k % 2) < 10 := by omega
  unfold fn_Ga_otherOf
  rw [c_gam_th hC, c_gam_r1 hC, e1, c_brds_r hC h10]
  rfl
set_option maxHeartbeats 200000 in
theorem k_ownOf (hC : ClsP μ) {k b : Nat} (hk : k < 4) (hb : b ≤ 4) : fn_Ga_ownOf (some (29, 0, 0)) (nI k) (nI b) μ = some (some (12, 6, 2 * b + k % 2), μ) := by
  have e1 : (2 : Int32) * nI b + iR (nI k) 2 = nI (2 * b + k % 2) := by
    rw [iR_2 k (by omega), show (2 : Int32) = nI 2 from rfl, pk_mul, nI_add]
  have h10 : 2 * b + k % 2 < 10 := by omega
  unfold fn_Ga_ownOf
  rw [c_gam_th hC, c_gam_r1 hC, e1, c_brds_r hC h10]
  rfl
set_option maxHeartbeats 200000 in
theorem k_canMove (hC : ClsP μ) {TH : Nat → Int32} {G : Nat → tri} {k m : Nat} (hk : k < 4) (hm : m < 3) (hB : ∀ s, s < 2 → BD μ (2 * k + s) (TH s) (G s)) : fn_Ga_canMove (some (29, 0, 0)) (nI k) (nI m) μ = some (if okG TH k G m = true then 1 else 0, μ) := by
  unfold fn_Ga_canMove
  obtain rfl | rfl | rfl : m = 0 ∨ m = 1 ∨ m = 2 := by omega
  · have h := k_thr_BD hC (by omega) (hB (1 - k % 2) (by omega))
    rw [c_gam_th hC, ap_ite, if_pos (by decide), bd_of (k_otherOf hC hk (by omega)), bd_of h, show okG TH k G 0 = decide ((G (1 - k % 2)).2.1 < TH (1 - k % 2)) from rfl]
    by_cases z : (G (1 - k % 2)).2.1 < TH (1 - k % 2)
    · rw [if_pos z, decide_eq_true z]
      rfl
    · rw [if_neg z, decide_eq_false z]
      rfl
  · have h := k_thr_BD hC (by omega) (hB (k % 2) (by omega))
    rw [c_gam_th hC, ap_ite, if_neg (by decide), ap_ite, if_pos (by decide), bd_of (k_ownOf hC hk (by omega)), bd_of h, show okG TH k G 1 = decide ((G (k % 2)).2.1 < TH (k % 2)) from rfl]
    by_cases z : (G (k % 2)).2.1 < TH (k % 2)
    · rw [if_pos z, decide_eq_true z]
      rfl
    · rw [if_neg z, decide_eq_false z]
      rfl
  · rw [c_gam_th hC]
    rfl
set_option maxHeartbeats 200000 in
theorem k_makeMove (hc : Cur μ f c w P T) {TH : Nat → Int32} {L : Nat → Nat → Int32} {G : Nat → tri} {k m : Nat} (hk : k < 4) (hm : m < 3) (hB : ∀ s, s < 2 → BD μ (2 * k + s) (TH s) (G s)) (hL : ∀ s, s < 2 → m_I μ (31, 0, 0) (2 * (k + 1) + s) = L s (k + 1)) : m_e (fn_Ga_makeMove (some (29, 0, 0)) (some (7, f, 0)) (nI k) (nI m) μ) (fun _ μ' => sm (fun x y z _ => x = 12 ∧ y = 6 ∧ 2 * k + 2 ≤ z) μ μ' ∧ ∀ s, s < 2 → BD μ' (2 * (k + 1) + s) (TH s) (gm' TH L (c 4) (c 5) k m G s)) := by
  obtain ⟨hC, hM, hP, hI, hD⟩ := id hc
  have hf5 : f < 5 := hP.1
  have ek : ∀ s, s < 2 → (2 : Int32) * (nI k + 1) + nI s = nI (2 * (k + 1) + s) := fun s hs => by
    rw [nI_1, show (2 : Int32) = nI 2 from rfl, pk_mul, nI_add]
  have ek0 : ∀ s, s < 2 → (2 : Int32) * nI k + nI s = nI (2 * k + s) := fun s hs => by
    rw [show (2 : Int32) = nI 2 from rfl, pk_mul, nI_add]
  have e2 : ∀ s, s < 2 → ¬ (2 : Int32) ≤ nI s := fun s hs => nI_ge hs (by decide)
  unfold fn_Ga_makeMove
  rw [c_gam_th hC]
  refine e_bd (R := fun _ μ' => sm (fun x y z _ => x = 12 ∧ y = 6 ∧ 2 * k + 2 ≤ z) μ μ' ∧ ∀ s, s < 2 → BD μ' (2 * (k + 1) + s) (TH s) (G s)) ?_ ?_
  · refine e_inv (fun i s μ' => s = nI i ∧ sm (fun x y z _ => x = 12 ∧ y = 6 ∧ 2 * k + 2 ≤ z) μ μ' ∧ ∀ s, s < i → BD μ' (2 * (k + 1) + s) (TH s) (G s)) 2 ?_ ?_ ⟨rfl, sm_rf, fun s hs => absurd hs (Nat.not_lt_zero s)⟩ (by omega)
    · rintro i s μ' hi ⟨rfl, b1, b2⟩
      have hC := sm_C b1 hC
      have hb := BD_sm (hB i hi) b1 (by omega)
      unfold fn_Ga_makeMove_l8
      rw [ap_ite, if_neg (e2 i hi), c_gam_r1 hC, ek i hi, c_brds_r hC (by omega), c_gam_r1 hC, ek0 i hi, c_brds_r hC (by omega)]
      refine e_bd (k_copyFrom (o_brd hC (show 2 * (k + 1) + i < 10 by omega)) (o_brd hC (show 2 * k + i < 10 by omega)) (brd_ne (by omega))) ?_
      rintro - μ2 ⟨d1, -, d2⟩
      refine ⟨_, _, rfl, _, rfl, nI_1 i, sm_tr b1 (sm_mono d2 (by omega)), fun s hs => ?_⟩
      by_cases z : s = i
      · subst z
        exact ⟨by rw [d1 1 (by omega) (by omega)]; exact hb.1, by rw [d1 2 (by omega) (by omega)]; exact hb.2.1, by rw [d1 3 (by omega) (by omega)]; exact hb.2.2.1, by rw [d1 4 (by omega) (by omega)]; exact hb.2.2.2⟩
      · exact BD_sm (b2 s (by omega)) d2 (by omega)
    · rintro s μ' ⟨rfl, b1, b2⟩
      unfold fn_Ga_makeMove_l8
      rw [ap_ite, if_pos (by decide)]
      exact ⟨_, _, rfl, (), rfl, b1, b2⟩
  rintro - μ1 ⟨b1, b2⟩
  have hc1 := Cur_sm hc b1 (by omega)
  obtain ⟨hC1, hM1, hP1, hI1, -⟩ := id hc1
  refine e_bd (R := fun _ μ' => sm (fun x y z _ => x = 12 ∧ y = 6 ∧ 2 * k + 2 ≤ z) μ μ' ∧ ∀ s, s < 2 → BD μ' (2 * (k + 1) + s) (TH s) (mvG (c 5) k m G s)) ?_ ?_
  · obtain rfl | rfl | rfl : m = 0 ∨ m = 1 ∨ m = 2 := by omega
    · have hb := b2 (1 - k % 2) (by omega)
      have h10 : 2 * (k + 1) + (1 - k % 2) < 10 := by omega
      have hO := o_brd hC1 h10
      have hoo := k_otherOf hC1 hk (show k + 1 ≤ 4 by omega)
      rw [← nI_1] at hoo
      rw [ap_ite, if_pos (by decide), bd_of hoo, c_fam_gI hP1, fi_5 hI1]
      unfold fn_Th_takeBreath
      rw [bd_thb hO, bd_bd, bd_gI hO, bd_bd, bd_pI hO, hb.2.2.1]
      refine ⟨(), _, rfl, sm_sI b1 _ (by omega), fun s hs => ?_⟩
      unfold mvG
      by_cases z : s = 1 - k % 2
      · rw [if_pos ⟨rfl, z⟩, z]
        refine ⟨?_, ?_, ?_, ?_⟩
        · rw [I_row, ud_ne (by decide)]; exact hb.1
        · rw [I_row, ud_ne (by decide)]; exact hb.2.1
        · rw [I_row, ud_at]
        · rw [I_row, ud_ne (by decide)]; exact hb.2.2.2
      · rw [if_neg (fun q => z q.2), if_neg (fun q => absurd q.1 (by decide))]
        unfold BD
        rw [I_ob (brd_ne (by omega))]
        exact b2 s hs
    · have hb := b2 (k % 2) (by omega)
      have h10 : 2 * (k + 1) + k % 2 < 10 := by omega
      have hO := o_brd hC1 h10
      have hoo := k_ownOf hC1 hk (show k + 1 ≤ 4 by omega)
      rw [← nI_1] at hoo
      rw [ap_ite, if_neg (by decide), ap_ite, if_pos (by decide), bd_of hoo]
      unfold fn_Th_putOil
      rw [bd_thb hO, bd_bd, bd_pI hO]
      refine ⟨(), _, rfl, sm_sI b1 _ (by omega), fun s hs => ?_⟩
      unfold mvG
      rw [if_neg (fun q => absurd q.1 (by decide))]
      by_cases z : s = k % 2
      · rw [if_pos ⟨rfl, z⟩, z]
        refine ⟨?_, ?_, ?_, ?_⟩
        · rw [I_row, ud_ne (by decide)]; exact hb.1
        · rw [I_row, ud_ne (by decide)]; exact hb.2.1
        · rw [I_row, ud_ne (by decide)]; exact hb.2.2.1
        · rw [I_row, ud_at]
      · rw [if_neg (fun q => z q.2)]
        unfold BD
        rw [I_ob (brd_ne (by omega))]
        exact b2 s hs
    · rw [ap_ite, if_neg (by decide), ap_ite, if_neg (by decide)]
      refine ⟨(), _, rfl, b1, fun s hs => ?_⟩
      unfold mvG
      rw [if_neg (fun q => absurd q.1 (by decide)), if_neg (fun q => absurd q.1 (by decide))]
      exact b2 s hs
  rintro - μ2 ⟨d1, d2⟩
  have hc2 := Cur_sm hc d1 (by omega)
  refine e_bd (R := fun _ μ' => sm (fun x y z _ => x = 12 ∧ y = 6 ∧ 2 * k + 2 ≤ z) μ μ' ∧ ∀ s, s < 2 → BD μ' (2 * (k + 1) + s) (TH s) (gm' TH L (c 4) (c 5) k m G s)) ?_ (fun _ μ' h => ⟨(), _, rfl, h⟩)
  refine e_inv (fun i s μ' => s = nI i ∧ sm (fun x y z _ => x = 12 ∧ y = 6 ∧ 2 * k + 2 ≤ z) μ μ' ∧ ∀ s, s < 2 → BD μ' (2 * (k + 1) + s) (TH s) (if s < i then gm' TH L (c 4) (c 5) k m G s else mvG (c 5) k m G s)) 2 ?_ ?_ ⟨rfl, d1, fun s hs => by rw [if_neg (Nat.not_lt_zero s)]; exact d2 s hs⟩ (by omega)
  · rintro i s μ' hi ⟨rfl, g1, g2⟩
    obtain ⟨hC3, hM3, hP3, hI3, -⟩ := Cur_sm hc g1 (by omega)
    have h10 : 2 * (k + 1) + i < 10 := by omega
    have hb := g2 i hi
    rw [if_neg (Nat.lt_irrefl i)] at hb
    have hty := k_thYear (μ := μ') (a := (12, 6, 2 * (k + 1) + i)) (o_brd hC3 h10) (L i (k + 1)) (c 4)
    have e31 : m_I μ' (31, 0, 0) (2 * (k + 1) + i) = L i (k + 1) := by rw [sm_I g1 (by omega)]; exact hL i hi
    unfold fn_Ga_makeMove_l85
    rw [ap_ite, if_neg (e2 i hi), c_gam_r1 hC3, ek i hi, c_brds_r hC3 h10, c_gam_r2 hC3, c_glv_a hC3 h10, e31, c_fam_gI hP3, fi_4 hI3, bd_of hty]
    refine ⟨_, _, rfl, _, rfl, nI_1 i, sm_sI (sm_sI (sm_sI g1 _ (by omega)) _ (by omega)) _ (by omega), fun s hs => ?_⟩
    by_cases z : s = i
    · subst z
      rw [if_pos (by omega)]
      obtain ⟨h1, h2, h3, h4⟩ := hb
      refine ⟨?_, ?_, ?_, ?_⟩
      · rw [I_row, ud_ne (by decide), I_row, ud_ne (by decide), I_row, ud_ne (by decide)]; exact h1
      · rw [I_row, ud_ne (by decide), I_row, ud_ne (by decide), I_row, ud_at, h1, h2, h3, h4]; rfl
      · rw [I_row, ud_ne (by decide), I_row, ud_at, h1, h2, h3, h4]; rfl
      · rw [I_row, ud_at, h4]; rfl
    · have := g2 s hs
      unfold BD
      rw [I_ob (brd_ne (by omega)), I_ob (brd_ne (by omega)), I_ob (brd_ne (by omega))]
      by_cases y : s < i
      · rw [if_pos y] at this
        rw [if_pos (by omega)]
        exact this
      · rw [if_neg y] at this
        rw [if_neg (by omega)]
        exact this
  · rintro s μ' ⟨rfl, g1, g2⟩
    unfold fn_Ga_makeMove_l85
    rw [ap_ite, if_pos (by decide)]
    refine ⟨_, _, rfl, (), rfl, g1, fun s hs => ?_⟩
    have := g2 s hs
    rw [if_pos hs] at this
    exact this
end GC
