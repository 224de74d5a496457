/-! Part 69zzza: the reference reads steps within steps -/
def bL (y : YS) (i : Nat) : Prop := 8 ≤ (y.2.1 i).1
def Gro (y y' : YS) (d : Nat) : Prop := y.1 < y'.1 ∧ y'.2.2.2 = y.2.2.2 ∧ (∀ i, i < y.1 → y'.2.1 i = y.2.1 i ∧ y'.2.2.1 i = y.2.2.1 i) ∧ y'.2.2.1 y.1 = y'.1 ∧ (bL y' y.1 → d < 3 ∧ ∀ n, y'.1 - (y.1 + 1) ≤ n → wf y'.2.2.1 (bL y') n (2 - d) (y.1 + 1) y'.1)
def GroL (y y' : YS) (d : Nat) : Prop := y.1 ≤ y'.1 ∧ y'.2.2.2 = y.2.2.2 ∧ (∀ i, i < y.1 → y'.2.1 i = y.2.1 i ∧ y'.2.2.1 i = y.2.2.1 i) ∧ ∀ n, y'.1 - y.1 ≤ n → wf y'.2.2.1 (bL y') n (3 - d) y.1 y'.1
set_option maxHeartbeats 200000 in
theorem wf_ec {e e' : Nat → Nat} {bl bl' : Nat → Prop} : ∀ n d lo hi, (∀ i, lo ≤ i → i < hi → e' i = e i ∧ (bl' i ↔ bl i)) → wf e bl n d lo hi → wf e' bl' n d lo hi
  | 0, _, _, _, _, h => h
  | n + 1, d, lo, hi, hc, h => by
    rcases h with h | ⟨h1, h2, h3, h4, h5⟩
    · exact .inl h
    · obtain ⟨c1, c2⟩ := hc lo (Nat.le_refl _) h1
      refine .inr ⟨h1, by rw [c1]; exact h2, by rw [c1]; exact h3, fun q => ⟨(h4 (c2.mp q)).1, ?_⟩, ?_⟩
      · rw [c1]
        exact wf_ec n _ _ _ (fun i i1 i2 => hc i (by omega) (by omega)) (h4 (c2.mp q)).2
      · rw [c1]
        exact wf_ec n _ _ _ (fun i i1 i2 => hc i (by omega) i2) h5
set_option maxHeartbeats 200000 in
theorem wf_rf {e : Nat → Nat} {bl : Nat → Prop} {d lo : Nat} : ∀ n, wf e bl n d lo lo
  | 0 => rfl
  | _ + 1 => .inl rfl
set_option maxHeartbeats 200000 in
theorem GroL_rf {y : YS} {d : Nat} : GroL y y d := ⟨Nat.le_refl _, rfl, fun _ _ => ⟨rfl, rfl⟩, fun n _ => wf_rf n⟩
set_option maxHeartbeats 200000 in
theorem GroL_go {y y1 y' : YS} {d : Nat} (h : Gro y y1 d) (h' : GroL y1 y' d) : GroL y y' d := by
  obtain ⟨a1, a2, a3, a4, a5⟩ := h
  obtain ⟨b1, b2, b3, b4⟩ := h'
  refine ⟨by omega, b2.trans a2, fun i hi => ⟨(b3 i (by omega)).1.trans (a3 i hi).1, (b3 i (by omega)).2.trans (a3 i hi).2⟩, fun n hn => ?_⟩
  obtain ⟨m, rfl⟩ : ∃ m, n = m + 1 := ⟨n - 1, by omega⟩
  have e1 : y'.2.2.1 y.1 = y1.1 := (b3 y.1 a1).2.trans a4
  have hbl : ∀ i, i < y1.1 → (bL y' i ↔ bL y1 i) := fun i hi => by
    unfold bL
    rw [(b3 i hi).1]
  refine .inr ⟨by omega, by omega, by omega, fun q => ?_, ?_⟩
  · obtain ⟨c1, c2⟩ := a5 ((hbl y.1 a1).mp q)
    refine ⟨by omega, ?_⟩
    rw [e1, show 3 - d - 1 = 2 - d by omega]
    exact wf_ec m _ _ _ (fun i i1 i2 => ⟨(b3 i i2).2, hbl i i2⟩) (c2 m (by omega))
  · rw [e1]
    exact b4 m (by omega)
section YM
variable {B : Nat → Int32} {u : Nat → Nat} {L P T : Nat} {w : Nat → Int64}
def StepC (B : Nat → Int32) (u : Nat → Nat) (L : Nat) (w : Nat → Int64) (P T m d : Nat) : Prop := ∀ p y ν, EvN ν B u L w P T → m_I ν (40, 0, 0) 12 = 0 → TkR ν u L p → p ≤ L → RY ν y → YI y P T → y.2.2.2.length = d → (isW u L p 19 = true → y.2.2.2 = []) → ¬ (tK u L p = 0 ∧ y.2.2.2 = []) → m_e (fn_M_readStep m (some (40, 0, 0)) (nI d) ν) (fun _ ν' => sm KX ν ν' ∧ ∃ j, (∀ fl, yIt u L w P T (j + 1) (p, y) = .inl fl → Er ν' fl) ∧ ∀ p' y', yIt u L w P T (j + 1) (p, y) = .inr (p', y') → p < p' ∧ p' ≤ L ∧ m_I ν' (40, 0, 0) 12 = 0 ∧ TkR ν' u L p' ∧ RY ν' y' ∧ YI y' P T ∧ Gro y y' d)
set_option maxHeartbeats 200000 in
theorem yIt_1 {n p : Nat} {y : YS} (h : ¬ (tK u L p = 0 ∧ y.2.2.2 = [])) : yIt u L w P T (n + 1) (p, y) = bG (yLn u L w P T p y) (yIt u L w P T n) := if_neg h
set_option maxHeartbeats 200000 in
/-- the steps of a block -/
theorem r_block {m d : Nat} (hS : StepC B u L w P T m (d + 1)) : ∀ n F p y ν, L - p < n → n < F → EvN ν B u L w P T → m_I ν (40, 0, 0) 12 = 0 → TkR ν u L p → p ≤ L → RY ν y → YI y P T → y.2.2.2.length = d + 1 → m_e (m_lp (fn_M_readStep_l142 (fn_M_readStep m) (some (40, 0, 0)) (nI d) 1) F () ν) (fun _ ν' => sm KX ν ν' ∧ ∃ j, (∀ fl, yIt u L w P T j (p, y) = .inl fl → Er ν' fl) ∧ ∀ p' y', yIt u L w P T j (p, y) = .inr (p', y') → p ≤ p' ∧ p' ≤ L ∧ m_I ν' (40, 0, 0) 12 = 0 ∧ TkR ν' u L p' ∧ RY ν' y' ∧ YI y' P T ∧ isW u L p' 19 = true ∧ GroL y y' (d + 1)) := by
  intro n
  induction n with
  | zero =>
    intro F p y ν hn
    exact absurd hn (Nat.not_lt_zero _)
  | succ n ih =>
    intro F p y ν hn hF h h0 hk hp hY hI hl
    obtain ⟨F', rfl⟩ : ∃ F', F = F' + 1 := ⟨F - 1, by omega⟩
    have hR := h.1
    have hne : y.2.2.2 ≠ [] := fun q => by
      rw [q] at hl
      exact absurd hl (by show ¬ 0 = d + 1; omega)
    rw [lp_s]
    unfold fn_M_readStep_l142
    rw [bd_ite, if_neg (by decide), bd_bd, r_gI hR, h0, bd_ite, if_pos rfl, bd_bd, bd_of (r_isEnd hR hk), bd_ite, iw_ite]
    by_cases z : isW u L p 19 = true
    · rw [if_pos z, bd_rt]
      refine ⟨_, _, rfl, sm_rf, 0, fun fl q => (by cases q), fun p' y' q => ?_⟩
      cases q
      exact ⟨Nat.le_refl _, hp, h0, hk, hY, hI, z, GroL_rf⟩
    · have hS1 := hS p y ν h h0 hk hp hY hI hl (fun q => absurd q z) (fun q => hne q.2)
      rw [← nI_1] at hS1
      rw [if_neg z, bd_bd]
      refine e_bd hS1 ?_
      rintro - ν1 ⟨s1, j, g1, g2⟩
      rw [bd_rt]
      dsimp only
      have hR1 := sm_R s1 hR
      cases hr : yIt u L w P T (j + 1) (p, y) with
      | inl fl =>
        have hE := g1 fl hr
        obtain ⟨F2, rfl⟩ : ∃ F2, F' = F2 + 1 := ⟨F' - 1, by omega⟩
        rw [lp_s, bd_ite, if_neg (by decide), bd_bd, r_gI hR1, bd_ite, if_neg (Er_0 hE).1, bd_rt]
        refine ⟨_, _, rfl, s1, j + 1, fun fl' q => ?_, fun p' y' q => ?_⟩
        · rw [hr] at q
          cases q
          exact hE
        · rw [hr] at q
          cases q
      | inr q =>
        obtain ⟨p1, y1⟩ := q
        obtain ⟨a1, a2, a3, a4, a5, a6, a7⟩ := g2 p1 y1 hr
        have E1 := EvN_sm h s1 (by unfold KX; omega) (by unfold KX; omega) (by unfold KX; omega) (by unfold KX; omega)
        have hl1 : y1.2.2.2.length = d + 1 := by rw [a7.2.1, hl]
        have hn1 : L - p1 < n := by omega
        have hn2 : n < F' := by omega
        have hI2 := ih F' p1 y1 ν1 hn1 hn2 E1 a3 a4 a2 a5 a6 hl1
        refine e_mono hI2 ?_
        rintro - ν2 ⟨s2, j2, b1, b2⟩
        have e : yIt u L w P T (j + 1 + j2) (p, y) = yIt u L w P T j2 (p1, y1) := by rw [yIt_a, hr, bG_r]
        refine ⟨sm_tr s1 s2, j + 1 + j2, fun fl q => b1 fl (by rw [← e]; exact q), fun p' y' q => ?_⟩
        obtain ⟨c1, c2, c3, c4, c5, c6, c7, c8⟩ := b2 p' y' (by rw [← e]; exact q)
        exact ⟨by omega, c2, c3, c4, c5, c6, c7, GroL_go a7 c8⟩
set_option maxHeartbeats 200000 in
theorem r_rdStep : ∀ m d, 4 ≤ m + d → d ≤ 3 → StepC B u L w P T m d := by
  intro m
  induction m with
  | zero =>
    intro d h1 h2
    omega
  | succ m ihm =>
    intro d hmd hd3 p y ν h h0 hk hp hY hI hl h19 hst
    obtain ⟨hR, hT, hB, hN⟩ := id h
    have hkl := kdN_le (u := u) (L := L) (p := p)
    have fE : ∀ {ν' : mM} {fl : Fl}, yLn u L w P T p y = .inl fl → sm KX ν ν' → Er ν' fl → m_e (m_rt () ν') (fun _ ν' => sm KX ν ν' ∧ ∃ j, (∀ fl, yIt u L w P T (j + 1) (p, y) = .inl fl → Er ν' fl) ∧ ∀ p' y', yIt u L w P T (j + 1) (p, y) = .inr (p', y') → p < p' ∧ p' ≤ L ∧ m_I ν' (40, 0, 0) 12 = 0 ∧ TkR ν' u L p' ∧ RY ν' y' ∧ YI y' P T ∧ Gro y y' d) := by
      intro ν' fl he hs hE
      refine ⟨_, _, rfl, hs, 0, fun fl' q => ?_, fun p' y' q => ?_⟩
      · rw [yIt_1 hst, he, bG_l] at q
        cases q
        exact hE
      · rw [yIt_1 hst, he, bG_l] at q
        cases q
    show m_e (fn_M_readStep_r (fn_M_readStep m) (some (40, 0, 0)) (nI d) ν) _
    unfold fn_M_readStep_r
    rw [r_th hR, bd_of (r_stepWord hR hk), stW_kd]
    have hfl : ∀ {x : Nat} {v : Int32}, v = nI x → 1 ≤ x → x ≤ 9 → fn_M_fail (some (40, 0, 0)) v (m_I ν (40, 0, 0) 15) ν = some ((), m_sI (m_sI ν (40, 0, 0) 12 (nI x)) (40, 0, 0) 13 (nI (tS u L p))) := fun e h1 h2 => by
      rw [r_fail0 hR h0, e, hk.2.2.1]
    have hEr : ∀ (f : Fl), 1 ≤ f.1 ∧ f.1 ≤ 9 → Er (m_sI (m_sI ν (40, 0, 0) 12 (nI f.1)) (40, 0, 0) 13 (nI f.2)) f := fun f hf => ⟨by rw [I_row, ud_ne (by decide), I_row, ud_at], by rw [I_row, ud_at], hf⟩
    have hsE : ∀ (f : Fl), sm KX ν (m_sI (m_sI ν (40, 0, 0) 12 (nI f.1)) (40, 0, 0) 13 (nI f.2)) := fun f => sm_sI (sm_sI sm_rf _ (by unfold KX; omega)) _ (by unfold KX; omega)
    by_cases h99 : kdN u L p = 99
    · have hE := hEr (am u L p) am_b
      have hR2 : RefP (m_sI (m_sI ν (40, 0, 0) 12 (nI (am u L p).1)) (40, 0, 0) 13 (nI (am u L p).2)) := hR
      rw [if_pos h99, bd_ite, if_neg (by decide), bd_ite, if_neg (by decide), bd_rt, bd_ite, if_neg (by decide), bd_bd, bd_of (r_amiss0 hR h0 hk), bd_rt, r_gI hR2, bd_ite, if_neg (Er_0 hE).1, bd_rt, r_gI hR2, bd_ite, if_neg (Er_0 hE).1, bd_rt, r_gI hR2, ap_ite, if_neg (Er_0 hE).2.1]
      exact fE (yLn_99 h19 h99) (hsE _) hE
    have hk9 : kdN u L p ≤ 9 := hkl.resolve_left h99
    have hrk : rk (kdN u L p) < 2 ^ 31 := by
      unfold rk
      repeat' split
      all_goals omega
    have ht2 : ∀ {K : Int32 → mP Unit} {ν : mM}, m_bd (if nI (rk (kdN u L p)) = 7 then m_rt 1 else if nI (rk (kdN u L p)) = 8 then m_rt 1 else m_rt 0) K ν = K (if 8 ≤ kdN u L p then 1 else 0) ν := fun {K ν} => by
      have a7 : (nI (rk (kdN u L p)) = 7) = (rk (kdN u L p) = 7) := propext (nI_eq (b := 7) hrk (by omega))
      have a8 : (nI (rk (kdN u L p)) = 8) = (rk (kdN u L p) = 8) := propext (nI_eq (b := 8) hrk (by omega))
      simp only [a7, a8]
      rw [bd_ite, bd_ite, bd_rt, bd_rt]
      by_cases k8 : 8 ≤ kdN u L p
      · rw [if_pos k8]
        by_cases k9 : kdN u L p = 9
        · rw [if_pos (show rk (kdN u L p) = 7 by rw [k9]; rfl)]
        · have k8' : kdN u L p = 8 := by omega
          rw [if_neg (show ¬ rk (kdN u L p) = 7 by rw [k8']; decide), if_pos (show rk (kdN u L p) = 8 by rw [k8']; rfl)]
      · have hn : ¬ rk (kdN u L p) = 7 ∧ ¬ rk (kdN u L p) = 8 := by
          unfold rk
          by_cases k7 : kdN u L p = 7
          · rw [if_pos k7]
            decide
          · rw [if_neg k7, if_neg (by omega)]
            omega
        rw [if_neg k8, if_neg hn.1, if_neg hn.2]
    rw [if_neg h99, ht2, bd_ite, if_pos (show (0 : Int32) ≤ nI (rk (kdN u L p)) from nI_le (a := 0) (by omega) hrk), bd_rt, r_gI hR, h0, bd_ite, if_pos rfl, bd_bd, r_gI hR, hY.1, bd_ite]
    have hs30 := hI.1
    by_cases h30 : y.1 = 30
    · have hE := hEr (6, tS u L p) ⟨by show 1 ≤ 6; omega, by show 6 ≤ 9; omega⟩
      have hR2 : RefP (m_sI (m_sI ν (40, 0, 0) 12 (nI 6)) (40, 0, 0) 13 (nI (tS u L p))) := hR
      rw [if_pos (show nI y.1 = 30 by rw [h30]; rfl), bd_bd, r_gI hR, bd_bd, bd_of (hfl (x := 6) (v := 6) rfl (by omega) (by omega)), bd_rt, r_gI hR2, bd_ite, if_neg (Er_0 hE).1, bd_rt, r_gI hR2, ap_ite, if_neg (Er_0 hE).2.1]
      exact fE (yLn_30 h99 h30) (hsE (6, tS u L p)) hE
    rw [if_neg (show ¬ nI y.1 = 30 from fun q => h30 ((nI_eq (b := 30) (by omega) (by omega)).mp q)), bd_rt, r_gI hR, h0, bd_ite, if_pos rfl, bd_ite]
    by_cases h3 : 8 ≤ kdN u L p ∧ 3 ≤ y.2.2.2.length
    · have hE := hEr (7, tS u L p) ⟨by show 1 ≤ 7; omega, by show 7 ≤ 9; omega⟩
      have hR2 : RefP (m_sI (m_sI ν (40, 0, 0) 12 (nI 7)) (40, 0, 0) 13 (nI (tS u L p))) := hR
      have hd : d = 3 := by omega
      rw [if_pos h3.1, if_neg (by decide), bd_ite, if_pos (show nI d = 3 by rw [hd]; rfl), bd_bd, r_gI hR, bd_bd, bd_of (hfl (x := 7) (v := 7) rfl (by omega) (by omega)), bd_rt, r_gI hR2, ap_ite, if_neg (Er_0 hE).2.1]
      exact fE (yLn_3 h99 h30 h3) (hsE (7, tS u L p)) hE
    have hsk : ∀ {K : Unit → mP Unit}, (if (if 8 ≤ kdN u L p then (1 : Int32) else 0) = 0 then m_bd (m_rt ()) K ν else m_bd (if nI d = 3 then m_bd (m_gI 11 15 (some (40, 0, 0))) fun v9 => m_bd (fn_M_fail (some (40, 0, 0)) 7 v9) fun _ => m_rt () else m_rt ()) K ν) = K () ν := fun {K} => by
      by_cases k8 : 8 ≤ kdN u L p
      · have hd : ¬ d = 3 := fun q => h3 ⟨k8, by omega⟩
        rw [if_pos k8, if_neg (by decide), bd_ite, if_neg (show ¬ nI d = 3 from fun q => hd ((nI_eq (b := 3) (by omega) (by omega)).mp q)), bd_rt]
      · rw [if_neg k8, if_pos rfl, bd_rt]
    rw [hsk, r_gI hR, h0, ap_ite, if_pos (by decide), r_gI hR, hY.1, r_gI hR, hY.1]
    have ebs : ∀ {x : Int32}, x = nI y.1 → (1615 : Int32) + 9 * x = nI (1615 + 9 * y.1) := fun e => by rw [e, show (9 : Int32) = nI 9 from rfl, pk_mul, show (1615 : Int32) = nI 1615 from rfl, nI_add]
    refine r_head h h0 hk hp hY hI h99 h30 h3 (fun ν' fl he hs hE => ?_) (fun ν' p1 r he hs z1 k1 l1 hH hbl => ?_)
    · -- a fault within the line
      have hR' := sm_R hs hR
      have hlp : m_lp (fn_M_readStep_l142 (fn_M_readStep m) (some (40, 0, 0)) (nI d) (if 8 ≤ kdN u L p then 1 else 0)) m_F () ν' = some ((), ν') := by
        obtain ⟨F', hF'⟩ : ∃ F', m_F = F' + 1 := ⟨m_F - 1, by have := F_gt; omega⟩
        rw [hF', lp_s]
        unfold fn_M_readStep_l142
        by_cases k8 : 8 ≤ kdN u L p
        · rw [if_pos k8, bd_ite, if_neg (by decide), bd_bd, r_gI hR', bd_ite, if_neg (Er_0 hE).1, bd_rt]
          rfl
        · rw [if_neg k8, bd_ite, if_pos rfl, bd_rt]
          rfl
      have hen : ∀ {K : Unit → mP Unit}, m_bd (if (if 8 ≤ kdN u L p then (1 : Int32) else 0) = 0 then m_rt () else m_bd (fn_M_isEnd (some (40, 0, 0))) fun v20 => m_bd (fn_M_must (some (40, 0, 0)) v20) fun _ => m_bd (fn_M_isSign (some (40, 0, 0)) 59) fun v21 => m_bd (fn_M_must (some (40, 0, 0)) v21) fun _ => m_rt ()) K ν' = K () ν' := fun {K} => by
        rw [bd_ite]
        by_cases k8 : 8 ≤ kdN u L p
        · obtain ⟨x1, e1⟩ := r_endE hR'
          obtain ⟨x2, e2⟩ := r_signE hR' 59
          rw [if_pos k8, if_neg (by decide), bd_bd, bd_of e1, bd_bd, bd_of (r_mustE hR' hE x1), bd_bd, bd_of e2, bd_bd, bd_of (r_mustE hR' hE x2), bd_rt]
        · rw [if_neg k8, if_pos rfl, bd_rt]
      rw [bd_of hlp, hen, r_g45 hR', r_gI hR', ebs rfl, show (8 : Int32) = nI 8 from rfl, nI_add, r_t45 hR' (by omega)]
      exact fE he (sm_sI hs _ (by unfold KX; omega)) (Er_w hE)
    · have hR' := sm_R hs hR
      have E' := EvN_sm h hs (by unfold KX; omega) (by unfold KX; omega) (by unfold KX; omega) (by unfold KX; omega)
      obtain ⟨v1, v2, v3⟩ := yLn_Z hN.2.2.1 hN.2.2.2.1 hp hI he
      obtain ⟨q1, q2, q3, q4⟩ := hH
      by_cases k8 : 8 ≤ kdN u L p
      · have hlen : ¬ 3 ≤ y.2.2.2.length := fun q => h3 ⟨k8, q⟩
        have ey : yNx u L p y r = (y.1 + 1, ud y.2.1 y.1 r, y.2.2.1, y.1 :: y.2.2.2) := by
          unfold yNx
          rw [if_pos k8, if_pos k8]
        have hY1 : RY ν' (yNx u L p y r) := by
          rw [ey]
          refine ⟨q1, fun i hi => ?_, fun i hi hn => ?_⟩
          · have hi' : i < y.1 + 1 := hi
            show RfS ν' (1615 + 9 * i) (ud y.2.1 y.1 r i)
            by_cases z : i = y.1
            · rw [z, ud_at]
              exact q3
            · rw [ud_ne z]
              exact q2 i (by omega)
          · have hi' : i < y.1 + 1 := hi
            have hn1 : i ≠ y.1 := fun q => hn (by rw [q]; exact List.mem_cons_self)
            exact q4 i (by omega) (fun q => hn (List.mem_cons_of_mem _ q))
        rw [if_pos k8]
        refine e_bd (r_block (ihm (d + 1) (by omega) (by omega)) (L + 1) m_F p1 (yNx u L p y r) ν' (by omega) (by have := F_gt; have := hB.1; omega) E' z1 k1 l1 hY1 v3 (by rw [ey]; show y.2.2.2.length + 1 = d + 1; omega)) ?_
        rintro - ν2 ⟨s2, j2, b1, b2⟩
        have hR2 := sm_R s2 hR'
        have t2 : sm KX ν ν2 := sm_tr hs s2
        rw [bd_ite, if_neg (by decide)]
        have e1 : ∀ n, yIt u L w P T (n + 1) (p, y) = yIt u L w P T n (p1, yNx u L p y r) := fun n => by rw [yIt_1 hst, he, bG_r]
        cases hr : yIt u L w P T j2 (p1, yNx u L p y r) with
        | inl fl =>
          have hE := b1 fl hr
          obtain ⟨x1, ee1⟩ := r_endE hR2
          obtain ⟨x2, ee2⟩ := r_signE hR2 59
          rw [bd_bd, bd_of ee1, bd_bd, bd_of (r_mustE hR2 hE x1), bd_bd, bd_of ee2, bd_bd, bd_of (r_mustE hR2 hE x2), bd_rt, r_g45 hR2, r_gI hR2, ebs rfl, show (8 : Int32) = nI 8 from rfl, nI_add, r_t45 hR2 (by omega)]
          refine ⟨_, _, rfl, sm_sI t2 _ (by unfold KX; omega), j2, fun fl' q => ?_, fun p' y' q => ?_⟩
          · rw [e1, hr] at q
            cases q
            exact Er_w hE
          · rw [e1, hr] at q
            cases q
        | inr q =>
          obtain ⟨p2, y2⟩ := q
          obtain ⟨c1, c2, c3, c4, c5, c6, c7, c8⟩ := b2 p2 y2 hr
          obtain ⟨g1, g2, g3, g4⟩ := c8
          rw [ey] at g1 g2 g3 g4
          change y.1 + 1 ≤ y2.1 at g1
          change y2.2.2.2 = y.1 :: y.2.2.2 at g2
          change ∀ i, i < y.1 + 1 → y2.2.1 i = ud y.2.1 y.1 r i ∧ y2.2.2.1 i = y.2.2.1 i at g3
          change ∀ n, y2.1 - (y.1 + 1) ≤ n → wf y2.2.2.1 (bL y2) n (3 - (d + 1)) (y.1 + 1) y2.1 at g4
          have hst2 : ¬ (tK u L p2 = 0 ∧ y2.2.2.2 = []) := fun q => by
            rw [isW_K c7] at q
            exact absurd q.1 (by decide)
          have ecl : yCl u L p2 y2 = .inr (tE u L p2, (y2.1, y2.2.1, ud y2.2.2.1 y.1 y2.1, y.2.2.2)) := by
            unfold yCl
            rw [g2]
          have eln : yLn u L w P T p2 y2 = bG (pEnd u L (tE u L p2)) fun p' => .inr (p', (y2.1, y2.2.1, ud y2.2.2.1 y.1 y2.1, y.2.2.2)) := by
            unfold yLn
            rw [if_pos c7, ecl, bG_r]
            rfl
          have e2 : yIt u L w P T (j2 + 1 + 1) (p, y) = bG (pEnd u L (tE u L p2)) fun p' => .inr (p', (y2.1, y2.2.1, ud y2.2.2.1 y.1 y2.1, y.2.2.2)) := by
            rw [e1, yIt_a, hr, bG_r, yIt_1 hst2, eln, bG_bG]
            congr 1
          have E2 := EvN_sm h t2 (by unfold KX; omega) (by unfold KX; omega) (by unfold KX; omega) (by unfold KX; omega)
          have hm := r_must0 hR2 E2.2.1 hB c4 c2 c3 true
          rw [if_pos rfl, if_pos rfl] at hm
          have hie : fn_M_isEnd (some (40, 0, 0)) ν2 = some (1, ν2) := by
            rw [r_isEnd hR2 c4]
            unfold iw
            rw [if_pos c7]
          rw [bd_bd, bd_of hie, bd_bd]
          refine e_bd hm ?_
          rintro - ν3 ⟨s3, f3, -⟩
          obtain ⟨z3, k3, l3⟩ := f3 _ rfl
          have hR3 := sm_R s3 hR2
          have hT3 := RxB_sm E2.2.1 s3 (by omega) (by omega)
          have h59 : fn_M_isSign (some (40, 0, 0)) 59 ν3 = some (if decide (tK u L (tE u L p2) = 3 ∧ u (tS u L (tE u L p2)) = 59) = true then 1 else 0, ν3) := r_isSign (x := 59) hR3 hB k3 (by omega)
          have h2e : pEnd u L (tE u L p2) = if decide (tK u L (tE u L p2) = 3 ∧ u (tS u L (tE u L p2)) = 59) = true then .inr (tE u L (tE u L p2)) else .inl (am u L (tE u L p2)) := by
            unfold pEnd
            by_cases z : tK u L (tE u L p2) = 3 ∧ u (tS u L (tE u L p2)) = 59
            · rw [if_pos z, if_pos (decide_eq_true z)]
            · rw [if_neg z, if_neg (fun q => z (of_decide_eq_true q))]
          rw [bd_bd, bd_of h59, bd_bd]
          refine e_bd (r_must0 hR3 hT3 hB k3 l3 z3 _) ?_
          rintro - ν4 g4'
          rw [← h2e] at g4'
          obtain ⟨s4, d1, d2⟩ := g4'
          rw [bd_rt]
          have hR4 := sm_R s4 hR3
          have t4 : sm KX ν ν4 := sm_tr t2 (sm_tr (sm_mono s3 (by unfold KX; omega)) (sm_mono s4 (by unfold KX; omega)))
          have hY4 : RY ν4 y2 := RY_sm (RY_sm c5 s3 (by omega) (by omega)) s4 (by omega) (by omega)
          have s5 : sm (fun x _ _ k => x = 45 ∧ k = 1615 + 9 * y.1 + 8) ν4 (m_sI ν4 (45, 0, 0) (1615 + 9 * y.1 + 8) (nI y2.1)) := sm_sI sm_rf _ ⟨rfl, rfl⟩
          rw [r_g45 hR4, r_gI hR4, hY4.1, ebs rfl, show (8 : Int32) = nI 8 from rfl, nI_add, r_t45 hR4 (by omega)]
          refine ⟨_, _, rfl, sm_tr t4 (sm_mono s5 (by unfold KX; omega)), j2 + 1, fun fl q => ?_, fun p' y' q => ?_⟩
          · rw [e2] at q
            cases hr2 : pEnd u L (tE u L p2) with
            | inl fl' =>
              rw [hr2] at q
              cases q
              exact Er_w (d2 fl hr2)
            | inr p3 =>
              rw [hr2] at q
              cases q
          · have hyz := q
            rw [e2] at q
            cases hr2 : pEnd u L (tE u L p2) with
            | inl fl' =>
              rw [hr2] at q
              cases q
            | inr p3 =>
              rw [hr2] at q
              cases q
              obtain ⟨z4, k4, l4⟩ := d1 p' hr2
              obtain ⟨w1, w2, w3⟩ := yLn_Z hN.2.2.1 hN.2.2.2.1 c2 c6 (show yLn u L w P T p2 y2 = .inr (p', _) by rw [eln, hr2]; rfl)
              refine ⟨by omega, l4, by rw [sm_I s5 (by omega), z4], TkR_sm k4 s5 (by omega), ⟨?_, fun i hi => ?_, fun i hi hn => ?_⟩, w3, ?_, rfl, fun i hi => ⟨?_, ?_⟩, ?_, fun hb => ⟨?_, fun n hn => ?_⟩⟩
              · rw [sm_I s5 (by omega)]
                exact hY4.1
              · exact RfS_sm (hY4.2.1 i hi) s5 (by omega)
              · show m_I _ (45, 0, 0) (1615 + 9 * i + 8) = nI (ud y2.2.2.1 y.1 y2.1 i)
                by_cases z : i = y.1
                · rw [z, I_row, ud_at, ud_at]
                · rw [sm_I s5 (by omega), ud_ne z]
                  refine hY4.2.2 i hi ?_
                  rw [g2]
                  exact fun q => (List.mem_cons.mp q).elim z hn
              · show y.1 < y2.1
                omega
              · show y2.2.1 i = y.2.1 i
                rw [(g3 i (by omega)).1, ud_ne (by omega)]
              · show ud y2.2.2.1 y.1 y2.1 i = y.2.2.1 i
                rw [ud_ne (by omega), (g3 i (by omega)).2]
              · show ud y2.2.2.1 y.1 y2.1 y.1 = y2.1
                rw [ud_at]
              · omega
              · show wf (ud y2.2.2.1 y.1 y2.1) (bL y2) n (2 - d) (y.1 + 1) y2.1
                have := g4 n hn
                rw [show 3 - (d + 1) = 2 - d by omega] at this
                exact wf_ec n _ _ _ (fun i i1 i2 => ⟨ud_ne (by omega), Iff.rfl⟩) this
      · have ey : yNx u L p y r = (y.1 + 1, ud y.2.1 y.1 r, ud y.2.2.1 y.1 (y.1 + 1), y.2.2.2) := by
          unfold yNx
          rw [if_neg k8, if_neg k8]
        have hlp : m_lp (fn_M_readStep_l142 (fn_M_readStep m) (some (40, 0, 0)) (nI d) (if 8 ≤ kdN u L p then 1 else 0)) m_F () ν' = some ((), ν') := by
          obtain ⟨F', hF'⟩ : ∃ F', m_F = F' + 1 := ⟨m_F - 1, by have := F_gt; omega⟩
          rw [hF', lp_s]
          unfold fn_M_readStep_l142
          rw [if_neg k8, bd_ite, if_pos rfl, bd_rt]
          rfl
        have s5 : sm (fun x _ _ k => x = 45 ∧ k = 1615 + 9 * y.1 + 8) ν' (m_sI ν' (45, 0, 0) (1615 + 9 * y.1 + 8) (nI (y.1 + 1))) := sm_sI sm_rf _ ⟨rfl, rfl⟩
        rw [bd_of hlp, if_neg k8, bd_ite, if_pos rfl, bd_rt, r_g45 hR', r_gI hR', q1, ebs rfl, show (8 : Int32) = nI 8 from rfl, nI_add, r_t45 hR' (by omega)]
        have e1 : yIt u L w P T (0 + 1) (p, y) = .inr (p1, yNx u L p y r) := by rw [yIt_1 hst, he, bG_r]; rfl
        refine ⟨_, _, rfl, sm_tr hs (sm_mono s5 (by unfold KX; omega)), 0, fun fl q => ?_, fun p' y' q => ?_⟩
        · rw [e1] at q
          cases q
        · rw [e1] at q
          cases q
          refine ⟨v1, v2, by rw [sm_I s5 (by omega), z1], TkR_sm k1 s5 (by omega), ?_, v3, ?_⟩
          · rw [ey]
            refine ⟨by rw [sm_I s5 (by omega)]; exact q1, fun i hi => ?_, fun i hi hn => ?_⟩
            · have hi' : i < y.1 + 1 := hi
              show RfS _ (1615 + 9 * i) (ud y.2.1 y.1 r i)
              by_cases z : i = y.1
              · rw [z, ud_at]
                exact RfS_sm q3 s5 (by omega)
              · rw [ud_ne z]
                exact RfS_sm (q2 i (by omega)) s5 (by omega)
            · have hi' : i < y.1 + 1 := hi
              show m_I _ (45, 0, 0) (1615 + 9 * i + 8) = nI (ud y.2.2.1 y.1 (y.1 + 1) i)
              by_cases z : i = y.1
              · rw [z, I_row, ud_at, ud_at]
              · rw [sm_I s5 (by omega), ud_ne z]
                exact q4 i (by omega) hn
          · rw [ey]
            refine ⟨Nat.lt_succ_self _, rfl, fun i hi => ⟨ud_ne (by omega), ud_ne (by omega)⟩, ud_at _ _ _, fun hb => ?_⟩
            exfalso
            unfold bL at hb
            change 8 ≤ (ud y.2.1 y.1 r y.1).1 at hb
            rw [ud_at] at hb
            exact k8 (hbl.mpr hb)
end YM
