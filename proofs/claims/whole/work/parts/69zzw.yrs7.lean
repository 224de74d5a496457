/-! Part 69zzw: the reference reads a test, a row -/
section YT
variable {ν ν0 ν' : mM} {B : Nat → Int32} {u : Nat → Nat} {L p b P T : Nat} {w : Nat → Int64}
set_option maxHeartbeats 200000 in
theorem tK3 (h : tK u L p = 3) : u (tS u L p) = 59 ∨ u (tS u L p) = 60 ∨ u (tS u L p) = 62 ∨ u (tS u L p) = 61 := by
  unfold tK at h
  by_cases z : L ≤ tS u L p
  · rw [if_pos z] at h
    exact absurd h (by decide)
  rw [if_neg z] at h
  by_cases y : isLet (u (tS u L p)) = true
  · rw [if_pos y] at h
    exact absurd h (by decide)
  rw [if_neg y] at h
  by_cases x : isDig (u (tS u L p)) = true
  · rw [if_pos x] at h
    split at h <;> exact absurd h (by decide)
  rw [if_neg x] at h
  by_cases v : isSig (u (tS u L p)) = true
  · unfold isSig at v
    simp at v
    omega
  · rw [if_neg v] at h
    exact absurd h (by decide)
set_option maxHeartbeats 200000 in
theorem r_cmpW (hR : RefP ν) (hB : Byt B u L) (hk : TkR ν u L p) {K : Int32 → mP Unit} : m_bd (fn_M_isSign (some (40, 0, 0)) 60) (fun v13 => m_bd (if v13 = 0 then m_bd (fn_M_isSign (some (40, 0, 0)) 62) fun v14 => if v14 = 0 then m_bd (fn_M_isSign (some (40, 0, 0)) 61) fun v15 => if v15 = 0 then m_rt 0 else m_rt 1 else m_rt 1 else m_rt 1) K) ν = K (if decide (tK u L p = 3 ∧ u (tS u L p) ≠ 59) = true then 1 else 0) ν := by
  have h60 : fn_M_isSign (some (40, 0, 0)) 60 ν = some (if decide (tK u L p = 3 ∧ u (tS u L p) = 60) = true then 1 else 0, ν) := r_isSign (x := 60) hR hB hk (by omega)
  have h62 : fn_M_isSign (some (40, 0, 0)) 62 ν = some (if decide (tK u L p = 3 ∧ u (tS u L p) = 62) = true then 1 else 0, ν) := r_isSign (x := 62) hR hB hk (by omega)
  have h61 : fn_M_isSign (some (40, 0, 0)) 61 ν = some (if decide (tK u L p = 3 ∧ u (tS u L p) = 61) = true then 1 else 0, ν) := r_isSign (x := 61) hR hB hk (by omega)
  have one : ¬ (1 : Int32) = 0 := by decide
  have n : ∀ {v : Nat}, ¬ u (tS u L p) = v → ¬ decide (tK u L p = 3 ∧ u (tS u L p) = v) = true := fun h q => h (of_decide_eq_true q).2
  have n' : ∀ {v : Nat}, ¬ tK u L p = 3 → ¬ decide (tK u L p = 3 ∧ u (tS u L p) = v) = true := fun h q => h (of_decide_eq_true q).1
  rw [bd_of h60, bd_ite]
  by_cases z : tK u L p = 3
  · by_cases x1 : u (tS u L p) = 60
    · rw [if_pos (decide_eq_true ⟨z, x1⟩), if_neg one, bd_rt, if_pos (decide_eq_true ⟨z, by omega⟩)]
    rw [if_neg (n x1), if_pos rfl, bd_bd, bd_of h62, bd_ite]
    by_cases x2 : u (tS u L p) = 62
    · rw [if_pos (decide_eq_true ⟨z, x2⟩), if_neg one, bd_rt, if_pos (decide_eq_true ⟨z, by omega⟩)]
    rw [if_neg (n x2), if_pos rfl, bd_bd, bd_of h61, bd_ite]
    by_cases x3 : u (tS u L p) = 61
    · rw [if_pos (decide_eq_true ⟨z, x3⟩), if_neg one, bd_rt, if_pos (decide_eq_true ⟨z, by omega⟩)]
    have x4 : u (tS u L p) = 59 := by
      have := tK3 z
      omega
    rw [if_neg (n x3), if_pos rfl, bd_rt, if_neg (show ¬ decide (tK u L p = 3 ∧ u (tS u L p) ≠ 59) = true from fun q => (of_decide_eq_true q).2 x4)]
  · rw [if_neg (n' (v := 60) z), if_pos rfl, bd_bd, bd_of h62, bd_ite, if_neg (n' (v := 62) z), if_pos rfl, bd_bd, bd_of h61, bd_ite, if_neg (n' (v := 61) z), if_pos rfl, bd_rt, if_neg (show ¬ decide (tK u L p = 3 ∧ u (tS u L p) ≠ 59) = true from fun q => z (of_decide_eq_true q).1)]
set_option maxHeartbeats 200000 in
theorem r_readTest (h : EvN ν B u L w P T) (h0 : m_I ν (40, 0, 0) 12 = 0) (hk : TkR ν u L p) (hp : p ≤ L) (hb : 1615 ≤ b) (hb2 : b + 9 ≤ 1885) (eb : m_I ν (45, 0, 0) b = nI 7) : m_e (fn_M_readTest (some (40, 0, 0)) (nI b) ν) (QN (KW b) ν u L (gRow u L w P T 9 p) (fun row ν' => RfS ν' b row)) := by
  obtain ⟨hR, hT, hB, -⟩ := id h
  have hm : ∀ c : Bool, _ := fun c => r_must0 hR hT hB hk hp h0 c
  have hx : ∀ {i j : Nat}, i < 21 → j < 21 → i ≠ j → isW u L p i = true → ¬ isW u L p j = true := fun hi hj hne q q' => hne (isW_1 hi hj q q')
  unfold fn_M_readTest gRow
  rw [r_th hR, bd_of (r_testWord hR hk)]
  simp only [if_neg (show ¬ (9 : Nat) = 0 by decide), if_neg (show ¬ (9 : Nat) = 1 by decide), if_neg (show ¬ (9 : Nat) = 2 by decide), if_neg (show ¬ (9 : Nat) = 3 by decide), if_neg (show ¬ (9 : Nat) = 4 by decide), if_neg (show ¬ (9 : Nat) = 5 by decide), if_neg (show ¬ (9 : Nat) = 8 by decide), if_pos (show (9 : Nat) = 9 from rfl), if_true]
  have fin : ∀ {K : Unit → mP Unit} {Q : Unit → mM → Prop} (v : Int32), (∀ ν1 ν2, ν2 = m_sI ν1 (45, 0, 0) (b + 6) v → sm (KW b) ν ν2 → sm (fun x _ _ k => x = 40 ∧ 12 ≤ k ∧ k ≤ 19) ν ν1 → m_I ν2 (40, 0, 0) 12 = 0 → TkR ν2 u L (tE u L p) → tE u L p ≤ L → EvN ν2 B u L w P T → m_I ν2 (45, 0, 0) b = nI 7 → m_I ν2 (45, 0, 0) (b + 6) = v → m_e (K () ν2) Q) → m_e (m_bd (fn_M_must (some (40, 0, 0)) 1) (fun _ => m_bd (m_gR 11 20 (some (40, 0, 0))) fun v3 => m_bd (m_tI 0 v3 (nI b + 6) v) K) ν) Q := by
    intro K Q v hK
    have hm1 := hm true
    rw [if_pos rfl, if_pos rfl] at hm1
    refine e_bd hm1 ?_
    rintro - ν1 ⟨s1, g1, -⟩
    obtain ⟨z1, k1, l1⟩ := g1 _ rfl
    have hR1 := sm_R s1 hR
    have s2 : sm (fun x _ _ k => x = 45 ∧ k = b + 6) ν1 (m_sI ν1 (45, 0, 0) (b + 6) v) := sm_sI sm_rf _ ⟨rfl, rfl⟩
    rw [r_g45 hR1, nb6, r_t45 hR1 (by omega)]
    exact hK ν1 _ rfl (sm_tr (sm_mono s1 (by unfold KW; omega)) (sm_mono s2 (by unfold KW; omega))) s1 (by rw [sm_I s2 (by omega), z1]) (TkR_sm k1 s2 (by omega)) l1 (EvN_sm (EvN_sm h s1 (by omega) (by omega) (by omega) (by omega)) s2 (by omega) (by omega) (by omega) (by omega)) (by rw [sm_I s2 (by omega), sm_I s1 (by omega), eb]) (by rw [I_row, ud_at])
  by_cases h16 : isW u L p 16 = true
  · have et : teW u L p = 0 := if_pos h16
    rw [if_pos h16, et, bd_ite, if_neg (by decide), bd_rt]
    refine fin 0 ?_
    intro ν1 ν2 _ s2 _ z2 k2 l2 E2 b0 b6
    have hR2 := E2.1
    rw [r_gI hR2, z2, ap_ite, if_pos (by decide), r_g45 hR2, bd_ite, if_neg (by decide), bd_rt, nb1]
    refine r_tldT (j := b + 1) E2 z2 k2 l2 (by omega) (fun ν3 fl hr s3 hE => ?_) (fun ν3 p' hr s3 z3 k3 l3 e3 => ?_)
    · have hR3 := sm_R s3 hR2
      rw [r_gI hR3, ap_ite, if_pos (Er_0 hE).2.2, hr, bG_l]
      exact QN_E (sm_tr s2 (sm_mono s3 (KJ_W (by omega) (by omega)))) hE
    · have hR3 := sm_R s3 hR2
      rw [r_gI hR3, z3, ap_ite, if_neg (by decide), ap_ite, if_neg (by decide), hr, bG_r]
      refine QN_O (sm_tr s2 (sm_mono s3 (KJ_W (by omega) (by omega)))) z3 k3 l3 ⟨?_, fun _ => ?_, fun q => absurd q (by dsimp only; omega), fun q => absurd q (by dsimp only; omega), fun q => ?_, fun _ => e3, fun q => ?_⟩
      · rw [sm_I s3 (by unfold KJ; omega), b0]
        rfl
      · rw [sm_I s3 (by unfold KJ; omega), b6]
      · unfold uP at q
        dsimp only at q
        omega
      · unfold uM at q
        dsimp only at q
        omega
  rw [if_neg h16]
  by_cases h1 : isW u L p 1 = true
  · have et : teW u L p = 2 := by
      unfold teW
      rw [if_neg h16, if_neg (hx (by omega) (by omega) (by omega) h1), if_pos h1]
    rw [if_pos h1, et, bd_ite, if_neg (by decide), bd_rt]
    refine fin 2 ?_
    intro ν1 ν2 _ s2 _ z2 k2 l2 E2 b0 b6
    have hR2 := E2.1
    rw [r_gI hR2, z2, ap_ite, if_pos (by decide), r_g45 hR2, bd_ite, if_pos (by decide), bd_rt, nb1]
    refine r_tldP (j := b + 1) E2 z2 k2 l2 (by omega) (fun ν3 fl hr s3 hE => ?_) (fun ν3 p' hr s3 z3 k3 l3 e3 => ?_)
    · have hR3 := sm_R s3 hR2
      rw [r_gI hR3, ap_ite, if_pos (Er_0 hE).2.2, hr, bG_l]
      exact QN_E (sm_tr s2 (sm_mono s3 (KJ_W (by omega) (by omega)))) hE
    · have hR3 := sm_R s3 hR2
      rw [r_gI hR3, z3, ap_ite, if_neg (by decide), ap_ite, if_neg (by decide), hr, bG_r]
      refine QN_O (sm_tr s2 (sm_mono s3 (KJ_W (by omega) (by omega)))) z3 k3 l3 ⟨?_, fun q => absurd q (by dsimp only; omega), fun _ => ?_, fun q => absurd q (by dsimp only; omega), fun _ => e3, fun q => ?_, fun q => ?_⟩
      · rw [sm_I s3 (by unfold KJ; omega), b0]
        rfl
      · rw [sm_I s3 (by unfold KJ; omega), b6]
      · unfold uT at q
        dsimp only at q
        omega
      · unfold uM at q
        dsimp only at q
        omega
  rw [if_neg h1]
  by_cases h17 : isW u L p 17 = true
  · have et : teW u L p = 1 := by
      unfold teW
      rw [if_neg h16, if_pos h17]
    rw [if_pos h17, et, bd_ite, if_neg (by decide), bd_rt]
    refine fin 1 ?_
    intro ν1 ν2 _ s2 _ z2 k2 l2 E2 b0 b6
    have hR2 := E2.1
    rw [r_gI hR2, z2, ap_ite, if_pos (by decide), r_g45 hR2, bd_ite, if_neg (by decide), bd_rt, nb1]
    refine r_tldT (j := b + 1) E2 z2 k2 l2 (by omega) (fun ν3 fl hr s3 hE => ?_) (fun ν3 p3 hr s3 z3 k3 l3 e3 => ?_)
    · have hR3 := sm_R s3 hR2
      rw [r_gI hR3, ap_ite, if_pos (Er_0 hE).2.2, hr, bG_l]
      exact QN_E (sm_tr s2 (sm_mono s3 (KJ_W (by omega) (by omega)))) hE
    · have hR3 := sm_R s3 hR2
      have E3 := EvN_J E2 s3 (by omega)
      have t3 : sm (KW b) ν ν3 := sm_tr s2 (sm_mono s3 (KJ_W (by omega) (by omega)))
      have h4 := tK_le (u := u) (L := L) (p := p3)
      obtain ⟨q3, q4, q5, q6, q7, q8⟩ := id k3
      have e12 : ∀ {K : Int32 → mP Unit}, m_bd (if nI (tK u L p3) = 3 then m_bd (m_gI 11 17 (some (40, 0, 0))) fun v11 => m_rt v11 else m_rt 0) K ν3 = K (if tK u L p3 = 3 then nI (u (tS u L p3)) else 0) ν3 := fun {K} => by
        rw [bd_ite]
        by_cases z : tK u L p3 = 3
        · rw [if_pos (show nI (tK u L p3) = 3 by rw [z]; rfl), if_pos z, bd_bd, r_gI hR3, q8 z, bd_rt]
        · rw [if_neg (show ¬ nI (tK u L p3) = 3 from fun q => z ((nI_eq (b := 3) (by omega) (by omega)).mp q)), if_neg z, bd_rt]
      rw [r_gI hR3, z3, ap_ite, if_neg (by decide), ap_ite, if_pos rfl, hr, bG_r, r_g45 hR3, r_gI hR3, q4, e12, nb7, r_t45 hR3 (by omega)]
      have s4 : sm (fun x _ _ k => x = 45 ∧ k = b + 7) ν3 (m_sI ν3 (45, 0, 0) (b + 7) (if tK u L p3 = 3 then nI (u (tS u L p3)) else 0)) := sm_sI sm_rf _ ⟨rfl, rfl⟩
      have e7 : m_I (m_sI ν3 (45, 0, 0) (b + 7) (if tK u L p3 = 3 then nI (u (tS u L p3)) else 0)) (45, 0, 0) (b + 7) = if tK u L p3 = 3 then nI (u (tS u L p3)) else 0 := by rw [I_row, ud_at]
      generalize m_sI ν3 (45, 0, 0) (b + 7) (if tK u L p3 = 3 then nI (u (tS u L p3)) else 0) = ν4 at *
      have hR4 := sm_R s4 hR3
      have E4 := EvN_sm E3 s4 (by omega) (by omega) (by omega) (by omega)
      have k4 := TkR_sm k3 s4 (by omega)
      have z4 : m_I ν4 (40, 0, 0) 12 = 0 := by rw [sm_I s4 (by omega), z3]
      have t4 : sm (KW b) ν ν4 := sm_tr t3 (sm_mono s4 (by unfold KW; omega))
      rw [r_cmpW hR4 hB k4]
      refine e_bd (r_must0 hR4 E4.2.1 hB k4 l3 z4 (decide (tK u L p3 = 3 ∧ u (tS u L p3) ≠ 59))) ?_
      rintro - ν5 ⟨s5, g5, g5'⟩
      have hR5 := sm_R s5 hR4
      have t5 : sm (KW b) ν ν5 := sm_tr t4 (sm_mono s5 (by unfold KW; omega))
      rw [r_g45 hR5, nb2]
      by_cases c : tK u L p3 = 3 ∧ u (tS u L p3) ≠ 59
      · have ep : pCmp u L p3 = .inr (tE u L p3) := if_pos c
        obtain ⟨z5, k5, l5⟩ := g5 (tE u L p3) (by rw [if_pos (decide_eq_true c)])
        rw [ep, bG_r]
        have E5 := EvN_sm E4 s5 (by omega) (by omega) (by omega) (by omega)
        refine r_cnt (j := b + 2) (a := 0) (a' := 999) E5 z5 k5 l5 (by omega) (by omega) (by omega) (fun ν6 fl hr s6 hE => ?_) (fun ν6 p' hr s6 z6 k6 l6 e6 => ?_)
        · rw [hr, bG_l]
          exact QN_E (sm_tr t5 (sm_mono s6 (KJ_W (by omega) (by omega)))) hE
        · have hb := kCmp_b (u := u) (L := L) (p := p3)
          rw [hr, bG_r]
          refine QN_O (sm_tr t5 (sm_mono s6 (KJ_W (by omega) (by omega)))) z6 k6 l6 ⟨?_, fun q => absurd q (by dsimp only; omega), fun q => absurd q (by dsimp only; omega), fun _ => ⟨?_, ?_⟩, fun q => ?_, fun _ => ?_, fun _ => ?_⟩
          · rw [sm_I s6 (by unfold KJ; omega), sm_I s5 (by omega), sm_I s4 (by omega), sm_I s3 (by unfold KJ; omega), b0]
            unfold rk
            dsimp only
            rw [if_neg (by omega), if_pos (by omega)]
          · rw [sm_I s6 (by unfold KJ; omega), sm_I s5 (by omega), sm_I s4 (by omega), sm_I s3 (by unfold KJ; omega), b6]
          · have hu := tK3 c.1
            rw [sm_I s6 (by unfold KJ; omega), sm_I s5 (by omega), e7, if_pos c.1]
            dsimp only
            unfold kCmp
            by_cases v1 : u (tS u L p3) = 60
            · rw [if_pos v1, if_pos rfl, v1]
              rfl
            by_cases v2 : u (tS u L p3) = 62
            · rw [if_neg v1, if_pos v2, if_neg (by decide), if_pos rfl, v2]
              rfl
            have v3 : u (tS u L p3) = 61 := by
              have := c.2
              omega
            rw [if_neg v1, if_neg v2, if_neg (by decide), if_neg (by decide), v3]
            rfl
          · unfold uP at q
            dsimp only at q
            omega
          · dsimp only
            rw [if_neg (by omega), sm_I s6 (by unfold KJ; omega), sm_I s5 (by omega), sm_I s4 (by omega), e3]
          · have e2 : mm (kCmp u L p3) = 2 := by
              unfold mm
              rw [if_neg (by omega), if_pos (by omega)]
            dsimp only
            rw [e2, e6]
      · have ep : pCmp u L p3 = .inl (am u L p3) := if_neg c
        have hE := g5' (am u L p3) (by rw [if_neg (fun q => c (of_decide_eq_true q))])
        rw [ep, bG_l, r_cntE hR5 (by omega) hE]
        exact QN_E (KW_w t5 (by omega) (by omega)) (Er_w hE)
  · have et : teW u L p = -1 := by
      unfold teW
      rw [if_neg h16, if_neg h17, if_neg h1]
    have hm0 := hm false
    rw [if_neg (by decide), if_neg (by decide)] at hm0
    rw [if_neg h17, et, bd_ite, if_pos (by decide), bd_rt]
    refine e_bd hm0 ?_
    rintro - ν1 ⟨s1, -, g1⟩
    have hE := g1 _ rfl
    have hR1 := sm_R s1 hR
    have hR2 : RefP (m_sI ν1 (45, 0, 0) (b + 6) (-1)) := hR1
    have hE2 := Er_w (j := b + 6) (v := -1) hE
    rw [r_g45 hR1, nb6, r_t45 hR1 (by omega), r_gI hR2, ap_ite, if_neg (Er_0 hE2).2.1]
    exact QN_E (KW_w (sm_mono s1 (by unfold KW; omega)) (by omega) (by omega)) hE2
end YT
