/-! Part 69zq: mean -/
section MN
variable {μ ν : mM} {made n P T : Nat} {fa pa : Nat → Nat}
set_option maxHeartbeats 200000 in
theorem Inv_f2 {μ' : mM} (h : Inv μ made n fa pa P T) (hs : sm (fun x y _ k => Scr fa pa x y k ∨ (x = 1 ∧ k ≤ 2) ∨ (x = 40 ∧ (k = 0 ∨ k = 2 ∨ k = 3)) ∨ x = 45) μ μ') (hc : ∀ k, k < 1508 → m_I μ' (45, 0, 0) k = m_I μ (45, 0, 0) k) (e : Sta μ') (e' : Fra μ') : Inv μ' made n fa pa P T := by
  obtain ⟨f1, f2, f3, f4, f5, f6⟩ := ptr_facts h.1.1
  have hn := h.1.2
  have hm := h.1.1.2.2.1
  refine Inv_upd h hs e ?_ ?_ ?_ ?_ ?_ ?_ ?_ ?_
  · exact fun q => e'
  · exact fun q => Tra_sm q hs (by unfold Scr; omega) (by unfold Scr; omega) (by unfold Scr; omega)
  · exact fun q => Tap_sm q hs (by unfold Scr; omega) (by unfold Scr; omega) (by unfold Scr; omega) (by unfold Scr; omega)
  · exact fun q => Fau_sm q hs (by unfold Scr; omega) (by unfold Scr; omega) (by unfold Scr; omega) (by unfold Scr; omega)
  · exact fun q => Liv_sm q hs (by unfold Scr; omega) (by unfold Scr; omega) (by unfold Scr; omega) (by unfold Scr; omega)
  · intro q
    obtain ⟨hF, hD, hO⟩ := q
    have hc' : ∀ k, k < 105 → cR μ' k = cR μ k := fun k hk => hc k (by omega)
    exact ⟨FamI_c (FamI_sm hF hs (by unfold Scr; omega)) hD.2.2.1 hD.2.2.2 hc' (fun k hk => sm_J hs (by unfold Scr; omega)), Dim_c hc' hD, Okc_c hD.2.2.1 hD.2.2.2 hc' hO⟩
  · exact fun q => PlanI_c (fun k h1 h2 => hc k (by omega)) (PlanI_sm q hs (by unfold Scr; omega) (by unfold Scr; omega))
  · refine fun q => Mrk_sm2 q hs (by unfold Scr; omega) (by unfold Scr; omega) (by omega) (fun k h1 h2 => hc k h2) (by unfold Scr; omega) ?_ ?_ ?_
    · intro i hi
      have := f6 i (by omega)
      unfold Scr
      omega
    · intro i hi
      have := f6 i (by omega)
      unfold Scr
      omega
    · intro i hi
      have := f6 i (by omega)
      unfold Scr
      omega
/-- the rust behind the years of a number -/
def rv (P T S : Nat) (e : Nat → Nat) (b : Nat → Nat → Int32) (c : Nat → Int32) (s : Nat) : Nat := (i_sum (fun t => (runL P T S e b 300 0 [] (c, nI s, 0)).1.1 (41 + t)) T).toNatClampNeg
def rsum (P T S : Nat) (e : Nat → Nat) (b : Nat → Nat → Int32) (c : Nat → Int32) (a : Nat) : Nat → Nat
  | 0 => 0
  | i + 1 => rsum P T S e b c a i + rv P T S e b c (a + i)
set_option maxHeartbeats 200000 in
theorem rv_ok {S : Nat} {e : Nat → Nat} {b : Nat → Nat → Int32} {c : Nat → Int32} {s r : Nat} {W : wL} {left : Bool} (h : runL P T S e b 300 0 [] (c, nI s, 0) = (W, r, left)) (hW : okW P T W) : i_sum (fun t => W.1 (41 + t)) T = nI (rv P T S e b c s) ∧ rv P T S e b c s ≤ 7992 := by
  have hT := hW.2.1.2.2.2
  obtain ⟨x, hx, ex⟩ := isum_n (g := fun t => W.1 (41 + t)) (B := 999) T (fun t ht => (hW.1.2.2 t ht).2.2.1)
  have e1 : rv P T S e b c s = x := by
    unfold rv
    rw [h]
    show (i_sum (fun t => W.1 (41 + t)) T).toNatClampNeg = x
    rw [ex, nI_clamp (by omega)]
  rw [e1]
  exact ⟨ex, by omega⟩
set_option maxHeartbeats 200000 in
theorem k_mean (h : Inv μ made n fa pa P T) (hp0 : ¬ m_I μ (13, pa 1, 0) 0 = 0) {a k : Nat} (hk1 : 1 ≤ k) (hk2 : k ≤ 20) (hak : a + k ≤ 10000) (hw1 : w_in (nI a) 0 9999 = 1) (hw2 : w_in (nI k) 1 20 = 1) {S : Nat} {e : Nat → Nat} (hp : ProgC μ (pa 1) S e (fun s j => cR μ (107 + 9 * s + j)) P T) : m_e (fn_C_mean (some (1, 0, 0)) (nI a) (nI k) μ) (fun v μ1 => v = 1 ∧ m_I μ1 (1, 0, 0) 0 = 0 ∧ m_J μ1 (1, 0, 0) 1 = lN (rsum P T S e (fun s j => cR μ (107 + 9 * s + j)) (cR μ) a k / Nat.gcd (rsum P T S e (fun s j => cR μ (107 + 9 * s + j)) (cR μ) a k) k) ∧ m_J μ1 (1, 0, 0) 2 = lN (k / Nat.gcd (rsum P T S e (fun s j => cR μ (107 + 9 * s + j)) (cR μ) a k) k) ∧ rsum P T S e (fun s j => cR μ (107 + 9 * s + j)) (cR μ) a k ≤ 7992 * k ∧ sm (fun x y z k => KC fa pa x y z k ∨ (x = 1 ∧ k ≤ 2)) μ μ1) := by
  obtain ⟨hC, hM, hP, hI, hD⟩ := Inv_cur h
  have hO := Inv_ok h
  obtain ⟨f1, f2, f3, -⟩ := ptr_facts h.1.1
  obtain ⟨-, -, hm3, -, hfs, -, -, -, c6, -⟩ := h.1.1
  obtain ⟨-, -, e9, hL⟩ := hfs 0 (by omega)
  obtain ⟨-, hP', -, -⟩ := hfs 1 (by omega)
  generalize cR μ = c at *
  generalize wR μ = w at *
  generalize hf : fa 0 = f at *
  generalize hf' : fa 1 = f' at *
  generalize hg : pa (0 + 1) = g at *
  generalize hb : (fun (s j : Nat) => c (107 + 9 * s + j)) = b at *
  have hle : nI a + nI k - 1 ≤ 9999 := by
    rw [nI_add, show (1 : Int32) = nI 1 from rfl, pk_sub (by omega)]
    exact nI_le (b := 9999) (by omega) (by omega)
  unfold fn_C_mean
  rw [c_main_th hC, bd_within, hw1, bd_ite, if_neg (by decide), bd_bd, bd_within, hw2, bd_ite, if_neg (by decide), bd_ite, if_pos hle, bd_bd, bd_gR' (o_main hC) hM, bd_bd, bd_gR' (o_fam hP) e9, bd_bd, c_plan_gI hL, bd_ite, if_neg hp0, bd_rt, c_main_pI hC]
  have s1 : sm (fun x _ _ k => x = 1 ∧ k = 0) μ (m_sI μ (1, 0, 0) 0 0) := sm_sI sm_rf _ ⟨rfl, rfl⟩
  have e0 : m_I (m_sI μ (1, 0, 0) 0 0) (1, 0, 0) 0 = 0 := by rw [I_row, ud_at]
  generalize m_sI μ (1, 0, 0) 0 0 = μ1 at *
  have hC1 := sm_C s1 hC
  rw [c_main_gI hC1, e0, ap_ite, if_pos rfl]
  refine e_bd (R := fun t μ' => t = nI (rsum P T S e b c a k) ∧ rsum P T S e b c a k ≤ 7992 * k ∧ sm (fun x y _ k => (((x = 7 ∧ k < 7) ∨ x = 9 ∨ x = 10 ∨ x = 12) ∧ y = f') ∨ (y = g ∧ ((x = 13 ∧ 7 ≤ k) ∨ x = 15))) μ1 μ') ?_ ?_
  · refine e_inv (fun i s μ' => s = (nI (rsum P T S e b c a i), nI i) ∧ rsum P T S e b c a i ≤ 7992 * i ∧ sm (fun x y _ k => (((x = 7 ∧ k < 7) ∨ x = 9 ∨ x = 10 ∨ x = 12) ∧ y = f') ∨ (y = g ∧ ((x = 13 ∧ 7 ≤ k) ∨ x = 15))) μ1 μ') k ?_ ?_ ⟨rfl, Nat.zero_le _, sm_rf⟩ (by omega)
    · rintro i s μ2 hi ⟨rfl, hsum, s2⟩
      have hC2 := sm_C s2 hC1
      have hP2 := sm_F s2 (sm_F s1 hP)
      have hP2' := sm_F s2 (sm_F s1 hP')
      have hL2 := sm_P s2 (sm_P s1 hL)
      have hM2 : m_R μ2 (1, 0, 0) 5 = some (7, f, 0) := by rw [s2.2.1, s1.2.1]; exact hM
      have hM2' : m_R μ2 (1, 0, 0) 6 = some (7, f', 0) := by rw [s2.2.1, s1.2.1]; exact c6
      have e92 : m_R μ2 (7, f, 0) 9 = some (13, g, 0) := by rw [s2.2.1, s1.2.1]; exact e9
      have hI2 : FamI μ2 f c w P T := FamI_sm (FamI_sm hI s1 (by omega)) s2 (by omega)
      have hp2 := ProgC_sm (ProgC_sm hp s1 (by omega) (by omega)) s2 (by omega) (by omega)
      unfold fn_C_mean_l73
      rw [ap_ite, if_neg (show ¬ nI k ≤ nI i from nI_ge hi (by omega)), bd_gR' (o_main hC2) hM2', bd_gR' (o_main hC2) hM2]
      refine e_bd (k_copyPT hP2 hP2' f3 hI2 hD hO) ?_
      rintro - μ3 ⟨s3, hI3⟩
      have hC3 := sm_C s3 hC2
      have hP3 := sm_F s3 hP2
      have hP3' := sm_F s3 hP2'
      have hL3 := sm_P s3 hL2
      have hM3 : m_R μ3 (1, 0, 0) 5 = some (7, f, 0) := by rw [s3.2.1]; exact hM2
      have hM3' : m_R μ3 (1, 0, 0) 6 = some (7, f', 0) := by rw [s3.2.1]; exact hM2'
      have e93 : m_R μ3 (7, f, 0) 9 = some (13, g, 0) := by rw [s3.2.1]; exact e92
      have hp3 := ProgC_sm hp2 s3 (by omega) (by omega)
      rw [bd_gR' (o_main hC3) hM3, bd_gR' (o_fam hP3) e93, bd_gR' (o_main hC3) hM3', nI_add]
      refine e_bd (k_run hL3 hP3' hp3 hI3 hO hD (show a + i ≤ 65535 by omega)) ?_
      rintro - μ4 ⟨W, r, left, a', g1, g2, g3, g4, -, -, -, -, -, -, -, s4⟩
      have hC4 := sm_C s4 hC3
      have hP4' := sm_F s4 hP3'
      have hM4' : m_R μ4 (1, 0, 0) 6 = some (7, f', 0) := by rw [s4.2.1]; exact hM3'
      obtain ⟨r1, r2⟩ := rv_ok g1 g3
      rw [bd_gR' (o_main hC4) hM4', bd_of (k_allRust hP4' g4 g3.2.1), r1]
      refine ⟨_, _, rfl, _, rfl, ?_, ?_, sm_tr (sm_tr s2 (sm_mono s3 (by omega))) s4⟩
      · show (nI (rsum P T S e b c a i) + nI (rv P T S e b c (a + i)), nI i + 1) = (nI (rsum P T S e b c a i + rv P T S e b c (a + i)), nI (i + 1))
        rw [nI_add, nI_1]
      · show rsum P T S e b c a i + rv P T S e b c (a + i) ≤ 7992 * (i + 1)
        omega
    · rintro s μ2 ⟨rfl, hsum, s2⟩
      unfold fn_C_mean_l73
      rw [ap_ite, if_pos (show nI k ≤ nI k from Int32.le_refl _)]
      exact ⟨_, _, rfl, _, rfl, rfl, hsum, s2⟩
  · rintro t μ2 ⟨rfl, hsum, s2⟩
    have hC2 := sm_C s2 hC1
    rw [nI_l (by omega), nI_l (by omega), bd_of (k_tell hC2 (show rsum P T S e b c a k < 2 ^ 31 by omega) (show k < 2 ^ 31 by omega) (by omega))]
    have s3 : sm (fun x _ _ k => x = 1 ∧ (k = 1 ∨ k = 2)) μ2 (m_sJ (m_sJ μ2 (1, 0, 0) 1 (lN (rsum P T S e b c a k / Nat.gcd (rsum P T S e b c a k) k))) (1, 0, 0) 2 (lN (k / Nat.gcd (rsum P T S e b c a k) k))) := sm_sJ (sm_sJ sm_rf _ (by omega)) _ (by omega)
    refine ⟨_, _, rfl, rfl, ?_, ?_, ?_, hsum, ?_⟩
    · show m_I μ2 (1, 0, 0) 0 = 0
      rw [sm_I s2 (by omega), e0]
    · rw [J_row, ud_ne (by decide), J_row, ud_at]
    · rw [J_row, ud_at]
    · refine sm_tr (sm_tr (sm_mono s1 ?_) (sm_mono s2 ?_)) (sm_mono s3 ?_)
      · exact fun x y z k q => .inl (.inl q)
      · intro x y z k q
        rcases q with ⟨q, hy⟩ | ⟨-, ⟨q, hk⟩ | q⟩
        · exact .inl (.inr ⟨by omega, .inr (.inr (.inr (.inr (.inr (.inr (.inr (.inr (.inr (.inr (.inr (.inl ⟨by omega, by rw [hf']; exact hy⟩)))))))))))⟩)
        · exact .inl (.inr ⟨by omega, .inr (.inr (.inr (.inr (.inl ⟨q, by omega⟩))))⟩)
        · exact .inl (.inr ⟨by omega, .inr (.inr (.inl q))⟩)
      · exact fun x y z k q => .inr ⟨q.1, by omega⟩
end MN
