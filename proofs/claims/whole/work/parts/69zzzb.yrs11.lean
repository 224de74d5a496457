/-! Part 69zzzb: all steps, the reference's side; a plan out of both sides -/
section YS2
variable {B : Nat → Int32} {u : Nat → Nat} {L P T : Nat} {w : Nat → Int64}
set_option maxHeartbeats 200000 in
theorem r_steps : ∀ n F p y ν, L - p < n → n < F → EvN ν B u L w P T → m_I ν (40, 0, 0) 12 = 0 → TkR ν u L p → p ≤ L → RY ν y → YI y P T → y.2.2.2 = [] → m_e (m_lp (fn_M_years_l28 (some (40, 0, 0))) F () ν) (fun _ ν' => sm KX ν ν' ∧ (∀ fl, yIt u L w P T n (p, y) = .inl fl → Er ν' fl) ∧ ∀ p' y', yIt u L w P T n (p, y) = .inr (p', y') → m_I ν' (40, 0, 0) 12 = 0 ∧ RY ν' y' ∧ YI y' P T ∧ y'.2.2.2 = [] ∧ GroL y y' 0) := by
  intro n
  induction n with
  | zero =>
    intro F p y ν hn
    exact absurd hn (Nat.not_lt_zero _)
  | succ n ih =>
    intro F p y ν hn hF h h0 hk hp hY hI ho
    obtain ⟨F', rfl⟩ : ∃ F', F = F' + 1 := ⟨F - 1, by omega⟩
    have hR := h.1
    have hK := tK_le (u := u) (L := L) (p := p)
    rw [lp_s]
    unfold fn_M_years_l28
    rw [bd_bd, r_gI hR, h0, bd_ite, if_pos rfl, bd_bd, r_gI hR, hk.2.1, bd_ite]
    by_cases z : tK u L p = 0
    · rw [if_pos (show nI (tK u L p) = 0 by rw [z]; rfl), bd_rt]
      have e : yIt u L w P T (n + 1) (p, y) = .inr (p, y) := if_pos ⟨z, ho⟩
      refine ⟨_, _, rfl, sm_rf, fun fl q => ?_, fun p' y' q => ?_⟩
      · rw [e] at q
        cases q
      · rw [e] at q
        cases q
        exact ⟨h0, hY, hI, ho, GroL_rf⟩
    · rw [if_neg (show ¬ nI (tK u L p) = 0 from fun q => z ((nI_eq (b := 0) (by omega) (by omega)).mp q)), bd_bd]
      have hS : m_e (fn_M_readStep 8 (some (40, 0, 0)) 0 ν) _ := r_rdStep 8 0 (by omega) (by omega) p y ν h h0 hk hp hY hI (by rw [ho]; rfl) (fun _ => ho) (fun q => z q.1)
      refine e_bd hS ?_
      rintro - ν1 ⟨s1, j, g1, g2⟩
      rw [bd_rt]
      dsimp only
      have hR1 := sm_R s1 hR
      have est : yIt u L w P T (j + 1 + n) (p, y) = yIt u L w P T (n + 1) (p, y) := yIt_s h.2.2.2.2.2.1 h.2.2.2.2.2.2.1 (n + 1) (j + 1 + n) (p, y) hp hI hn (by omega)
      cases hr : yIt u L w P T (j + 1) (p, y) with
      | inl fl =>
        have hE := g1 fl hr
        have e : yIt u L w P T (n + 1) (p, y) = .inl fl := by rw [← est, yIt_a, hr, bG_l]
        obtain ⟨F2, rfl⟩ : ∃ F2, F' = F2 + 1 := ⟨F' - 1, by omega⟩
        rw [lp_s, bd_bd, r_gI hR1, bd_ite, if_neg (Er_0 hE).1, bd_rt]
        refine ⟨_, _, rfl, s1, fun fl' q => ?_, fun p' y' q => ?_⟩
        · rw [e] at q
          cases q
          exact hE
        · rw [e] at q
          cases q
      | inr q =>
        obtain ⟨p1, y1⟩ := q
        obtain ⟨a1, a2, a3, a4, a5, a6, a7⟩ := g2 p1 y1 hr
        have e : yIt u L w P T (n + 1) (p, y) = yIt u L w P T n (p1, y1) := by rw [← est, yIt_a, hr, bG_r]
        have E1 := EvN_sm h s1 (by unfold KX; omega) (by unfold KX; omega) (by unfold KX; omega) (by unfold KX; omega)
        have ho1 : y1.2.2.2 = [] := a7.2.1.trans ho
        have hn1 : L - p1 < n := by omega
        have hn2 : n < F' := by omega
        have hI2 := ih F' p1 y1 ν1 hn1 hn2 E1 a3 a4 a2 a5 a6 ho1
        refine e_mono hI2 ?_
        rintro - ν2 ⟨s2, b1, b2⟩
        refine ⟨sm_tr s1 s2, fun fl q => b1 fl (by rw [← e]; exact q), fun p' y' q => ?_⟩
        obtain ⟨c1, c2, c3, c4, c5⟩ := b2 p' y' (by rw [← e]; exact q)
        exact ⟨c1, c2, c3, c4, GroL_go a7 c5⟩
/-- where steps end that have none of their own -/
def YJ (y : YS) : Prop := (∀ i, i < y.1 → (y.2.1 i).1 < 8 → y.2.2.1 i = i + 1) ∧ ∀ i, i ∈ y.2.2.2 → 8 ≤ (y.2.1 i).1
set_option maxHeartbeats 200000 in
theorem yLn_J {p p' : Nat} {y y' : YS} (hP : P ≤ 6) (hT : T ≤ 8) (hp : p ≤ L) (hI : YI y P T) (hJ : YJ y) (h : yLn u L w P T p y = .inr (p', y')) : YJ y' := by
  unfold yLn at h
  obtain ⟨⟨p1, y1⟩, e1, h⟩ := bG_inr h
  obtain ⟨p2, e2, h⟩ := bG_inr h
  cases h
  obtain ⟨j1, j2⟩ := hJ
  split at e1
  · obtain ⟨s, rows, e, op⟩ := y
    cases op with
    | nil => cases e1
    | cons o l =>
      cases e1
      refine ⟨fun i hi h8 => ?_, fun i hi => j2 i (List.mem_cons_of_mem _ hi)⟩
      show ud e o s i = i + 1
      have ho := j2 o List.mem_cons_self
      have hne : ¬ i = o := fun q => by
        rw [q] at h8
        change (rows o).1 < 8 at h8
        change 8 ≤ (rows o).1 at ho
        omega
      rw [ud_ne hne]
      exact j1 i hi h8
  · unfold yHd at e1
    have hkl := kdN_le (u := u) (L := L) (p := p)
    by_cases h0 : kdN u L p = 99
    · rw [if_pos h0] at e1
      cases e1
    rw [if_neg h0] at e1
    by_cases h1 : y.1 = 30
    · rw [if_pos h1] at e1
      cases e1
    rw [if_neg h1] at e1
    by_cases h2 : 8 ≤ kdN u L p ∧ 3 ≤ y.2.2.2.length
    · rw [if_pos h2] at e1
      cases e1
    rw [if_neg h2] at e1
    obtain ⟨⟨p3, r⟩, e3, e1⟩ := bG_inr e1
    obtain ⟨-, -, -, v1, v2⟩ := gRow_i (by omega) hP hT (tE_mono hp).2 e3
    cases e1
    refine ⟨fun i hi h8 => ?_, fun i hi => ?_⟩
    · have hi' : i < y.1 + 1 := hi
      change (ud y.2.1 y.1 r i).1 < 8 at h8
      show (if 8 ≤ kdN u L p then y.2.2.1 else ud y.2.2.1 y.1 (y.1 + 1)) i = i + 1
      by_cases z : i = y.1
      · rw [z, ud_at] at h8
        have hk8 : ¬ 8 ≤ kdN u L p := fun q => by
          by_cases k9 : kdN u L p = 9
          · have := v2 k9
            omega
          · have := v1 (by omega)
            omega
        rw [if_neg hk8, z, ud_at]
      · rw [ud_ne z] at h8
        have := j1 i (by omega) h8
        split
        · exact this
        · rw [ud_ne z]
          exact this
    · change i ∈ (if 8 ≤ kdN u L p then y.1 :: y.2.2.2 else y.2.2.2) at hi
      show 8 ≤ (ud y.2.1 y.1 r i).1
      have hlt : ∀ i, i ∈ y.2.2.2 → i < y.1 := fun i q => Srt_lt hI.2.1 q
      by_cases k8 : 8 ≤ kdN u L p
      · rw [if_pos k8] at hi
        rcases List.mem_cons.mp hi with q | q
        · rw [q, ud_at]
          by_cases k9 : kdN u L p = 9
          · have := v2 k9
            omega
          · have := v1 (by omega)
            omega
        · rw [ud_ne (by have := hlt i q; omega)]
          exact j2 i q
      · rw [if_neg k8] at hi
        rw [ud_ne (by have := hlt i hi; omega)]
        exact j2 i hi
set_option maxHeartbeats 200000 in
theorem yIt_J (hP : P ≤ 6) (hT : T ≤ 8) : ∀ n (q q' : Nat × YS), q.1 ≤ L → YI q.2 P T → YJ q.2 → yIt u L w P T n q = .inr q' → YJ q'.2
  | 0, q, q', _, _, hj, h => by
    cases h
    exact hj
  | n + 1, q, q', hq, hy, hj, h => by
    unfold yIt at h
    by_cases z : tK u L q.1 = 0 ∧ q.2.2.2.2 = []
    · rw [if_pos z] at h
      cases h
      exact hj
    · rw [if_neg z] at h
      obtain ⟨⟨p1, y1⟩, e1, h⟩ := bG_inr h
      obtain ⟨z1, z2, z3⟩ := yLn_Z hP hT hq hy e1
      exact yIt_J hP hT n (p1, y1) q' z2 z3 (yLn_J hP hT hq hy hj e1) h
end YS2
set_option maxHeartbeats 200000 in
/-- a step, out of both sides -/
theorem StepI_of {k p t m q : Int32} {b : Nat → Int32} {s e P T : Nat} {r : Row} (hr : RwOk r P T) (hq : q = nI e) (h8 : b 8 = nI e) (hse : s < e) (he : r.1 < 8 → e = s + 1) (hk : k = nI r.1) (hp : uP r.1 → p = nI r.2.1) (ht : uT r.1 → t = nI r.2.2.1) (hm : uM r.1 → m = nI r.2.2.2)
    (b0 : b 0 = nI (rk r.1)) (b9 : r.1 = 9 → b 6 = 0) (b10 : r.1 = 10 → b 6 = 2) (b11 : 11 ≤ r.1 → b 6 = 1 ∧ b 7 = if r.1 = 11 then 60 else if r.1 = 12 then 62 else 61) (bp : uP r.1 → b 1 = nI r.2.1) (bt : uT r.1 → b (if r.1 = 2 then 2 else 1) = nI r.2.2.1) (bm : uM r.1 → b (mm r.1) = nI r.2.2.2) : StepI k p t m q b s e P T := by
  obtain ⟨c, a, i, v⟩ := r
  obtain ⟨r1, r2, r3, r4, r5, r6, r7⟩ := hr
  dsimp only at *
  refine ⟨hq, h8, hse, ?_⟩
  have u0 : ∀ {c}, c = 0 ∨ c = 2 ∨ c = 3 ∨ c = 4 ∨ c = 8 ∨ 11 ≤ c → uM c := fun h => h
  have uT0 : ∀ {c}, c = 1 ∨ c = 2 ∨ c = 4 ∨ c = 5 ∨ c = 9 ∨ 11 ≤ c → uT c := fun h => h
  have uP0 : ∀ {c}, c = 2 ∨ c = 10 → uP c := fun h => h
  obtain rfl | rfl | rfl | rfl | rfl | rfl | rfl | rfl | rfl | rfl | rfl | h11 : c = 0 ∨ c = 1 ∨ c = 2 ∨ c = 3 ∨ c = 4 ∨ c = 5 ∨ c = 6 ∨ c = 7 ∨ c = 8 ∨ c = 9 ∨ c = 10 ∨ 11 ≤ c := by omega
  · exact .inl ⟨hk, b0, he (by omega), v, (r4 rfl).1, (r4 rfl).2, hm (u0 (by omega)), bm (u0 (by omega))⟩
  · exact .inr (.inl ⟨hk, b0, he (by omega), i, r3 (uT0 (by omega)), ht (uT0 (by omega)), bt (uT0 (by omega))⟩)
  · exact .inr (.inr (.inl ⟨hk, b0, he (by omega), a, i, v, r2 (uP0 (by omega)), r3 (uT0 (by omega)), r5 (by omega), hp (uP0 (by omega)), bp (uP0 (by omega)), ht (uT0 (by omega)), bt (uT0 (by omega)), hm (u0 (by omega)), bm (u0 (by omega))⟩))
  · exact .inr (.inr (.inr (.inl ⟨hk, b0, he (by omega), v, r5 (by omega), hm (u0 (by omega)), bm (u0 (by omega))⟩)))
  · exact .inr (.inr (.inr (.inr (.inl ⟨hk, b0, he (by omega), i, v, r3 (uT0 (by omega)), (r6 (by omega)).1, (r6 (by omega)).2, ht (uT0 (by omega)), bt (uT0 (by omega)), hm (u0 (by omega)), bm (u0 (by omega))⟩))))
  · exact .inr (.inr (.inr (.inr (.inr (.inl ⟨hk, b0, he (by omega), i, r3 (uT0 (by omega)), ht (uT0 (by omega)), bt (uT0 (by omega))⟩)))))
  · exact .inr (.inr (.inr (.inr (.inr (.inr (.inl ⟨hk, b0, he (by omega)⟩))))))
  · exact .inr (.inr (.inr (.inr (.inr (.inr (.inr (.inl ⟨hk, b0, he (by omega)⟩)))))))
  · exact .inr (.inr (.inr (.inr (.inr (.inr (.inr (.inr (.inl ⟨hk, b0, v, (r6 (by omega)).1, (r6 (by omega)).2, hm (u0 (by omega)), bm (u0 (by omega))⟩))))))))
  · exact .inr (.inr (.inr (.inr (.inr (.inr (.inr (.inr (.inr (.inl ⟨hk, b0, b9 rfl, i, r3 (uT0 (by omega)), ht (uT0 (by omega)), bt (uT0 (by omega))⟩)))))))))
  · exact .inr (.inr (.inr (.inr (.inr (.inr (.inr (.inr (.inr (.inr (.inl ⟨hk, b0, b10 rfl, a, r2 (uP0 (by omega)), hp (uP0 (by omega)), bp (uP0 (by omega))⟩))))))))))
  · obtain ⟨b6, b7⟩ := b11 h11
    have e7 : rk c = 7 := by
      unfold rk
      rw [if_neg (by omega), if_pos (by omega)]
    have e2 : mm c = 2 := by
      unfold mm
      rw [if_neg (by omega), if_pos (by omega)]
    rw [e7] at b0
    have bm' := bm (u0 (by omega))
    rw [e2] at bm'
    have bt' := bt (uT0 (by omega))
    rw [if_neg (by omega)] at bt'
    refine .inr (.inr (.inr (.inr (.inr (.inr (.inr (.inr (.inr (.inr (.inr ⟨b0, b6, ?_, i, v, r3 (uT0 (by omega)), r7 h11, ht (uT0 (by omega)), bt', hm (u0 (by omega)), bm'⟩))))))))))
    obtain rfl | rfl | rfl : c = 11 ∨ c = 12 ∨ c = 13 := by omega
    · exact .inl ⟨hk, b7⟩
    · exact .inr (.inl ⟨hk, b7⟩)
    · exact .inr (.inr ⟨hk, b7⟩)
set_option maxHeartbeats 200000 in
/-- a plan, out of both sides -/
theorem PlanI_of {μ : mM} {g P T : Nat} {c : Nat → Int32} {y : YS} (h0 : m_I μ (13, g, 0) 0 = 1) (hC : CY μ g y) (h105 : c 105 = 1) (h106 : c 106 = nI y.1) (hRf : ∀ i, i < y.1 → ∃ ν, RfS ν (1615 + 9 * i) (y.2.1 i) ∧ m_I ν (45, 0, 0) (1615 + 9 * i + 8) = nI (y.2.2.1 i) ∧ ∀ j, j < 9 → c (107 + 9 * i + j) = m_I ν (45, 0, 0) (1615 + 9 * i + j)) (hI : YI y P T) (hJ : YJ y) (ho : y.2.2.2 = []) (hw : ∀ n, y.1 ≤ n → wf y.2.2.1 (bL y) n 3 0 y.1) : PlanI μ g c P T := by
  obtain ⟨c1, c2, c3⟩ := hC
  obtain ⟨i1, i2, i3, i4, i5⟩ := hI
  refine .inr ⟨h0, h105, y.1, y.2.2.1, i1, c1, h106, fun s hs => ?_, ?_⟩
  · obtain ⟨ν, f, f8, fc⟩ := hRf s hs
    obtain ⟨b0, b9, b10, b11, bp, bt, bm⟩ := f
    obtain ⟨k1, k2, k3, k4⟩ := c2 s hs
    have hno : s ∉ y.2.2.2 := by
      rw [ho]
      exact List.not_mem_nil
    have hm3 : mm (y.2.1 s).1 ≤ 3 := by
      unfold mm
      repeat' split
      all_goals omega
    refine StepI_of (r := y.2.1 s) (i4 s hs) ?_ ?_ (i5 s hs hno).1 (fun q => hJ.1 s hs q) k1 k2 k3 k4 ?_ (fun q => ?_) (fun q => ?_) (fun q => ?_) (fun q => ?_) (fun q => ?_) (fun q => ?_)
    · rw [c3 s hs, if_neg hno]
    · rw [fc 8 (by omega), f8]
    · rw [fc 0 (by omega)]
      exact b0
    · rw [fc 6 (by omega), b9 q]
    · rw [fc 6 (by omega), b10 q]
    · rw [fc 6 (by omega), fc 7 (by omega)]
      exact b11 q
    · rw [fc 1 (by omega), bp q]
    · rw [fc _ (by split <;> omega), bt q]
    · rw [fc _ (by omega), bm q]
  · refine wf_ec 31 3 0 y.1 (fun i _ hi => ⟨rfl, ?_⟩) (hw 31 (by omega))
    obtain ⟨ν, f, -, fc⟩ := hRf i hi
    have e0 := fc 0 (by omega)
    have f0 := f.1
    have hk := (i4 i hi).1
    have e : c (107 + 9 * i) = nI (rk (y.2.1 i).1) := e0.trans f0
    have hrk : rk (y.2.1 i).1 < 2 ^ 31 := by
      unfold rk
      repeat' split
      all_goals omega
    have a7 : (nI (rk (y.2.1 i).1) = 7) = (rk (y.2.1 i).1 = 7) := propext (nI_eq (b := 7) hrk (by omega))
    have a8 : (nI (rk (y.2.1 i).1) = 8) = (rk (y.2.1 i).1 = 8) := propext (nI_eq (b := 8) hrk (by omega))
    rw [e, a7, a8]
    unfold bL rk
    by_cases z : (y.2.1 i).1 = 7
    · rw [if_pos z]
      omega
    · rw [if_neg z]
      split <;> omega
