/-! Part 69zl: what a step does, on the reference's side -/
section RD
variable {ν : mM} {P T : Nat} {c : Nat → Int32}
set_option maxHeartbeats 200000 in
theorem nTh_c {c c' : Nat → Int32} {T : Nat} (h : ∀ t, t < T → (i_thr c' t = 0 ↔ i_thr c t = 0)) : nTh c' T = nTh c T := by
  unfold nTh
  refine cnt_c T fun t ht => ?_
  by_cases z : i_thr c t = 0
  · rw [decide_eq_false (fun q => q ((h t ht).mpr z)), decide_eq_false (fun q => q z)]
  · rw [decide_eq_true (show i_thr c' t ≠ 0 from fun q => z ((h t ht).mp q)), decide_eq_true z]
set_option maxHeartbeats 200000 in
theorem nTh_ud {k : Nat} {v : Int32} (h : ∀ t, t < T → k ≠ 25 + t ∧ k ≠ 41 + t) : nTh (ud c k v) T = nTh c T := nTh_c fun t ht => by
  obtain ⟨h1, h2⟩ := h t ht
  unfold i_thr
  rw [ud_ne (fun q => h1 q.symm), ud_ne (fun q => h2 q.symm)]
set_option maxHeartbeats 200000 in
theorem nTh_one {t : Nat} {v : Int32} (h0 : i_thr c t = 0) (hT : T ≤ 8) : ∀ n, n ≤ T → nTh (ud c (41 + t) v) n = nTh c n + (if t < n then (if i_thr (ud c (41 + t) v) t = 0 then 0 else 1) else 0)
  | 0, _ => rfl
  | n + 1, h => by
    have ih := nTh_one (v := v) h0 hT n (by omega)
    have s1 : nTh (ud c (41 + t) v) (n + 1) = nTh (ud c (41 + t) v) n + (if decide (i_thr (ud c (41 + t) v) n ≠ 0) = true then 1 else 0) := rfl
    have s2 : nTh c (n + 1) = nTh c n + (if decide (i_thr c n ≠ 0) = true then 1 else 0) := rfl
    rw [s1, s2, ih]
    by_cases z : n = t
    · subst z
      rw [if_neg (Nat.lt_irrefl n), if_pos (Nat.lt_succ_self n), if_neg (show ¬ decide (i_thr c n ≠ 0) = true from fun q => absurd h0 (of_decide_eq_true q))]
      by_cases y : i_thr (ud c (41 + n) v) n = 0
      · rw [if_pos y, if_neg (show ¬ decide (i_thr (ud c (41 + n) v) n ≠ 0) = true from fun q => absurd y (of_decide_eq_true q))]
      · rw [if_neg y, if_pos (decide_eq_true y)]
    · have e : i_thr (ud c (41 + t) v) n = i_thr c n := by
        unfold i_thr
        rw [ud_ne (by omega), ud_ne (by omega)]
      rw [e]
      by_cases y : t < n
      · rw [if_pos y, if_pos (show t < n + 1 by omega)]
        omega
      · rw [if_neg y, if_neg (show ¬ t < n + 1 by omega)]
        omega
set_option maxHeartbeats 200000 in
theorem nLi_ud {k : Nat} {v : Int32} (h : ¬ (19 ≤ k ∧ k < 19 + P)) : nLi (ud c k v) P = nLi c P := by
  unfold nLi
  exact cnt_c P fun p hp => by rw [ud_ne (by omega)]
/-- what the reference counts -/
def StR (ν : mM) (c0 c : Nat → Int32) (P T : Nat) : Prop := m_I ν (40, 0, 0) 48 = c 6 - c0 6 ∧ m_I ν (40, 0, 0) 49 = nI (nTh c T - nTh c0 T) ∧ m_I ν (40, 0, 0) 27 = nI (nLi c0 P - nLi c P)
set_option maxHeartbeats 200000 in
theorem StR_ud {ν' : mM} {c0 : Nat → Int32} {k : Nat} {v : Int32} (h : StR ν c0 c P T) (h1 : ∀ t, t < T → k ≠ 25 + t ∧ k ≠ 41 + t) (h2 : ¬ (19 ≤ k ∧ k < 19 + P)) (h6 : k ≠ 6) (e : ∀ j, j = 48 ∨ j = 49 ∨ j = 27 → m_I ν' (40, 0, 0) j = m_I ν (40, 0, 0) j) : StR ν' c0 (ud c k v) P T := ⟨by rw [e 48 (by omega), h.1, ud_ne (fun q => h6 q.symm)], by rw [e 49 (by omega), h.2.1, nTh_ud h1], by rw [e 27 (by omega), h.2.2, nLi_ud h2]⟩
set_option maxHeartbeats 200000 in
theorem r_draw (hR : RefP ν) {m : Nat} (h1 : 0 < m) (h2 : m < 1000) : fn_M_draw (some (40, 0, 0)) (nI m) ν = some (iR (drw (m_I ν (40, 0, 0) 45) / 8) (nI m), m_sI ν (40, 0, 0) 45 (drw (m_I ν (40, 0, 0) 45))) := by
  unfold fn_M_draw
  rw [r_th hR, r_gI hR, r_pI hR, r_gI (show RefP (m_sI ν (40, 0, 0) 45 (iR ((m_I ν (40, 0, 0) 45 * 2971) + 10831) 65536)) from hR), bd_nz (nI_ne0 h1 (by omega)), I_row, ud_at]
  rfl
set_option maxHeartbeats 200000 in
theorem sub_add_comm (a b n : Int32) : (a - b) + n = (a + n) - b := by
  rw [Int32.sub_eq_add_neg, Int32.sub_eq_add_neg, Int32.add_assoc, Int32.add_comm (-b) n, ← Int32.add_assoc]
set_option maxHeartbeats 200000 in
theorem r_becomes (hR : RefP ν) {k : Nat} (hk : k < 105) (v : Int32) : fn_M_becomes (some (40, 0, 0)) (nI k) v ν = some (if m_I ν (45, 0, 0) k = v then 0 else 1, if m_I ν (45, 0, 0) k = v then ν else m_rI ν (45, 0, 0) (ud (m_I ν (45, 0, 0)) k v)) := by
  unfold fn_M_becomes
  rw [r_th hR, r_g45 hR, r_a45 hR (by omega), ap_ite]
  by_cases z : m_I ν (45, 0, 0) k = v
  · rw [if_pos z, if_pos z, if_pos z]
    rfl
  · rw [if_neg z, if_neg z, if_neg z, r_g45 hR, r_t45 hR (by omega), sI_rI]
    rfl
set_option maxHeartbeats 200000 in
/-- the reference does a step that is no when, loop, stop -/
theorem r_does (hR : RefP ν) {c0 : Nat → Int32} (hc : m_I ν (45, 0, 0) = c) (hD : Dim c P T) (hO : Okc c P T) {rnd : Int32} (hr : bn rnd 65535) (e45 : m_I ν (40, 0, 0) 45 = rnd) (hSt : StR ν c0 c P T) (hMo : Mo P T c0 c) {k p t m q : Int32} {s e : Nat} {b : Nat → Int32} (hs30 : s < 30) (hb : ∀ j, b j = c (107 + 9 * s + j)) (hs : StepI k p t m q b s e P T) (h7 : b 0 ≠ 7) (h8 : b 0 ≠ 8) (h9 : b 0 ≠ 9) : m_e (fn_M_does (some (40, 0, 0)) (nI (107 + 9 * s)) ν) (fun v ν' => v = (if (act2 P T b c rnd).2.2 = true then 1 else 0) ∧ m_I ν' (45, 0, 0) = (act2 P T b c rnd).1 ∧ m_I ν' (40, 0, 0) 45 = (act2 P T b c rnd).2.1 ∧ StR ν' c0 (act2 P T b c rnd).1 P T ∧ sm (fun x _ _ k => (x = 40 ∧ (k = 27 ∨ k = 45 ∨ k = 48 ∨ k = 49)) ∨ x = 45) ν ν') := by
  obtain ⟨hP0, hT0, hP6, hT8⟩ := id hD
  have hcz1 : ∀ (μ' : mM), m_bd (m_cz (1 : Int32)) (fun _ => m_rt (1 : Int32)) μ' = some (1, μ') := fun μ' => by
    rw [bd_cz (.inr rfl)]
    rfl
  have hcz0 : ∀ (μ' : mM), m_bd (m_cz (0 : Int32)) (fun _ => m_rt (0 : Int32)) μ' = some (0, μ') := fun μ' => by
    rw [bd_cz (.inl rfl)]
    rfl
  have hrd : ∀ j, j < 9 → ∀ {α : Type} (K : Int32 → mP α), m_bd (m_aI 0 (some (45, 0, 0)) (nI (107 + 9 * s + j))) K ν = K (b j) ν := fun j hj α K => by
    rw [r_a45 hR (by omega), hc, hb]
  have a1 : nI (107 + 9 * s) + 1 = nI (107 + 9 * s + 1) := nI_1 _
  have a2 : nI (107 + 9 * s) + 2 = nI (107 + 9 * s + 2) := nI_add _ 2
  have a3 : nI (107 + 9 * s) + 3 = nI (107 + 9 * s + 3) := nI_add _ 3
  have hrd0 : ∀ {α : Type} (K : Int32 → mP α), m_bd (m_aI 0 (some (45, 0, 0)) (nI (107 + 9 * s))) K ν = K (b 0) ν := fun K => hrd 0 (by omega) K
  have hsK : ∀ {g : Nat → Int32}, sm (fun x _ _ k => (x = 40 ∧ (k = 27 ∨ k = 45 ∨ k = 48 ∨ k = 49)) ∨ x = 45) ν (m_rI ν (45, 0, 0) g) := sm_rI sm_rf _ (fun _ q => absurd (.inr rfl) q)
  have hkeep : ∀ {g : Nat → Int32} j, m_I (m_rI ν (45, 0, 0) g) (40, 0, 0) j = m_I ν (40, 0, 0) j := fun j => by rw [I_rne _ rfl]
  obtain ⟨-, -, -, hs⟩ := hs
  generalize hA : act2 P T b c rnd = A
  unfold fn_M_does
  unfold act2 at hA
  rw [r_th hR, r_g45 hR, hrd0]
  rcases hs with ⟨-, e0, -, v, v1, v2, -, e1⟩ | ⟨-, e0, -, i, hi, -, e1⟩ | ⟨-, e0, -, j, i, v, hj, hi, hv, -, e1, -, e2, -, e3⟩ | ⟨-, e0, -, v, hv, -, e1⟩ | ⟨-, e0, -, i, v, hi, v1, v2, -, e1, -, e2⟩ | ⟨-, e0, -, i, hi, -, e1⟩ | ⟨-, e0, -⟩ | ⟨-, e0, -⟩ | ⟨-, e0, -⟩ | ⟨-, e0, -⟩ | ⟨-, e0, -⟩ | ⟨e0, -⟩
  · -- year
    rw [e0, if_pos rfl, e1, nI_clamp (by omega)] at hA
    rw [e0, ap_ite, if_pos rfl, r_g45 hR, a1, hrd 1 (by omega), e1]
    unfold fn_M_anyYears
    rw [r_thb hR, bd_bd, r_g45 hR, bd_bd, r_l45_6 hR, hc, bd_ite]
    by_cases z : c 6 + nI v ≤ 9999
    · rw [if_pos z] at hA
      have hth := r_throughs hR (show Dim (cR ν) P T by rw [cR, hc]; exact hD)
      rw [show cR ν = c from hc] at hth
      have hyl := r_yearLoop hR (P := P) (T := T) (show Dim (cR ν) P T by rw [cR, hc]; exact hD) v (by omega) (.inr (.inr (.inr (.inr rfl))))
      rw [show cR ν = c from hc] at hyl
      obtain ⟨d1, d2⟩ := dds_n (c := c) hP6 hT8 v
      have hMy := Mo_yrs hO hP6 hT8 (n := v) (by omega)
      rw [if_pos z, bd_bd, bd_of hth, bd_bd, bd_of hyl]
      generalize hν1 : rY ν (y_yrs c P T v) (m_I ν (40, 0, 0) 27 + y_dds c P T v) = ν1
      have hR1 : RefP ν1 := by rw [← hν1]; exact hR
      have c1 : m_I ν1 (45, 0, 0) = y_yrs c P T v := by rw [← hν1, rY_c]
      have hth1 := r_throughs hR1 (show Dim (cR ν1) P T by rw [cR, c1]; exact y_yrs_dim hD v)
      rw [show cR ν1 = y_yrs c P T v from c1] at hth1
      have hset := set_dif (b := i_thr c) (b' := i_thr (y_yrs c P T v)) (n := T) hT8
      have hsz : fn_M_sizeOf (i_set (i_thr (y_yrs c P T v)) T &&& (i_set (i_thr c) T ^^^ (-1))) ν1 = some (nI (nTh (y_yrs c P T v) T - nTh c T), ν1) := by
        rw [hset, sizeOf_n (n_set_256 _ hT8)]
        have h1 := cnt_set (b := fun k => if i_thr c k = 0 then i_thr (y_yrs c P T v) k else 0) (n := T) hT8
        have h2 := cnt_dif (b := i_thr c) (b' := i_thr (y_yrs c P T v)) T (fun t ht => hMy.1 t ht)
        have h3 : wt (fun _ => 1) (fun i => (n_set (fun k => if i_thr c k = 0 then i_thr (y_yrs c P T v) k else 0) T).testBit i) 8 = cnt (n_set (fun k => if i_thr c k = 0 then i_thr (y_yrs c P T v) k else 0) T).testBit 8 := rfl
        rw [h3, h1]
        refine congrArg (fun n => some (nI n, ν1)) ?_
        unfold nTh
        omega
      have e49 : m_I ν1 (40, 0, 0) 49 = m_I ν (40, 0, 0) 49 := by rw [← hν1, rY_f (by decide)]
      have e48 : m_I ν1 (40, 0, 0) 48 = m_I ν (40, 0, 0) 48 := by rw [← hν1, rY_f (by decide)]
      have e27 : m_I ν1 (40, 0, 0) 27 = m_I ν (40, 0, 0) 27 + y_dds c P T v := by rw [← hν1, rY_d]
      have e451 : m_I ν1 (40, 0, 0) 45 = rnd := by rw [← hν1, rY_f (by decide), e45]
      have s1 : sm (fun x _ _ k => (x = 40 ∧ (k = 27 ∨ k = 45 ∨ k = 48 ∨ k = 49)) ∨ x = 45) ν ν1 := by
        rw [← hν1]
        exact sm_rY sm_rf _ _ (fun _ q => absurd (.inr rfl) q) (by omega)
      have hm1 := Mo_le hMo
      have hm2 := Mo_le hMy
      rw [bd_bd, r_gI hR1, e49, hSt.2.1, bd_bd, bd_of hth1, bd_bd, bd_of hsz, bd_bd, r_pI hR1, nI_add, bd_bd, r_gI (show RefP (m_sI ν1 (40, 0, 0) 49 (nI (nTh c T - nTh c0 T + (nTh (y_yrs c P T v) T - nTh c T)))) from hR1), I_row, ud_ne (by decide), e48, hSt.1, bd_bd, r_pI (show RefP (m_sI ν1 (40, 0, 0) 49 (nI (nTh c T - nTh c0 T + (nTh (y_yrs c P T v) T - nTh c T)))) from hR1), bd_rt, hcz1, ← hA]
      refine ⟨_, _, rfl, rfl, by rw [I_ne _ rfl, I_ne _ rfl]; exact c1, ?_, ⟨?_, ?_, ?_⟩, sm_sI (sm_sI s1 _ (by omega)) _ (by omega)⟩
      · rw [I_row, ud_ne (by decide), I_row, ud_ne (by decide), e451]
      · rw [I_row, ud_at, sub_add_comm]
        show _ = y_yrs c P T v 6 - c0 6
        rw [yrs_sts hP6 hT8, ud_at]
      · rw [I_row, ud_ne (by decide), I_row, ud_at]
        refine congrArg nI ?_
        show _ = nTh (y_yrs c P T v) T - nTh c0 T
        omega
      · rw [I_row, ud_ne (by decide), I_row, ud_ne (by decide), e27, hSt.2.2, d1, nI_add]
        refine congrArg nI ?_
        show _ = nLi c0 P - nLi (y_yrs c P T v) P
        omega
    · rw [if_neg z] at hA
      rw [if_neg z, bd_rt, hcz0, ← hA]
      exact ⟨_, _, rfl, rfl, hc, e45, hSt, sm_rf⟩
  · -- oil
    rw [e0, if_neg (by decide), if_neg (by decide), if_neg (by decide), if_neg (by decide), e1, nI_clamp (by omega), if_pos rfl] at hA
    have hth := r_isThrough (μ := ν) (t := i) hR (by omega)
    rw [show cR ν = c from hc] at hth
    rw [e0, ap_ite, if_neg (by decide), ap_ite, if_neg (by decide), ap_ite, if_neg (by decide), ap_ite, if_neg (by decide), r_g45 hR, a1, hrd 1 (by omega), e1, r_g45 hR, a2, hrd 2 (by omega)]
    unfold fn_M_onThing
    rw [r_thb hR, bd_bd, bd_of hth, bd_ite]
    by_cases z : i_thr c i = 0
    · rw [if_pos z] at hA
      rw [if_pos z, bd_ite, if_pos rfl, bd_bd, r_g45 hR, bd_bd, show (49 : Int32) = nI 49 from rfl, nI_add, r_t45 hR (by omega), bd_rt, hcz1, sI_rI, hc, ← hA]
      exact ⟨_, _, rfl, rfl, I_rat _ _ _, by rw [hkeep, e45], StR_ud hSt (fun t ht => by omega) (by omega) (by omega) (fun j _ => hkeep j), hsK⟩
    · rw [if_neg z] at hA
      rw [if_neg z, bd_rt, hcz0, ← hA]
      exact ⟨_, _, rfl, rfl, hc, e45, hSt, sm_rf⟩
  · -- loves
    rw [e0, if_neg (by decide), if_pos rfl, e1, e2, e3, nI_clamp (by omega), nI_clamp (by omega)] at hA
    unfold becB at hA
    rw [e0, ap_ite, if_neg (by decide), ap_ite, if_pos rfl, r_g45 hR, a1, hrd 1 (by omega), e1, r_g45 hR, a2, hrd 2 (by omega), e2, r_g45 hR, a3, hrd 3 (by omega), e3, show (8 : Int32) = nI 8 from rfl, pk_mul, show (57 : Int32) = nI 57 from rfl, nI_add, nI_add, bd_of (r_becomes hR (show 57 + 8 * j + i < 105 by omega) (nI v)), hc]
    by_cases z : c (57 + 8 * j + i) = nI v
    · rw [if_pos z] at hA
      rw [if_pos z, if_pos z, hcz0, ← hA]
      exact ⟨_, _, rfl, rfl, hc, e45, hSt, sm_rf⟩
    · rw [if_neg z] at hA
      rw [if_neg z, if_neg z, hcz1, ← hA]
      exact ⟨_, _, rfl, rfl, I_rat _ _ _, by rw [hkeep, e45], StR_ud hSt (fun t ht => by omega) (by omega) (by omega) (fun j _ => hkeep j), hsK⟩
  · -- damp
    rw [e0, if_neg (by decide), if_neg (by decide), if_pos rfl, e1] at hA
    unfold becB at hA
    have hbe := r_becomes hR (show 4 < 105 by omega) (nI v)
    rw [show nI 4 = 4 from rfl] at hbe
    rw [e0, ap_ite, if_neg (by decide), ap_ite, if_neg (by decide), ap_ite, if_pos rfl, r_g45 hR, a1, hrd 1 (by omega), e1, bd_of hbe, hc]
    by_cases z : c 4 = nI v
    · rw [if_pos z] at hA
      rw [if_pos z, if_pos z, hcz0, ← hA]
      exact ⟨_, _, rfl, rfl, hc, e45, hSt, sm_rf⟩
    · rw [if_neg z] at hA
      rw [if_neg z, if_neg z, hcz1, ← hA]
      exact ⟨_, _, rfl, rfl, I_rat _ _ _, by rw [hkeep, e45], StR_ud hSt (fun t ht => by omega) (by omega) (by omega) (fun j _ => hkeep j), hsK⟩
  · -- coat
    rw [e0, if_neg (by decide), if_neg (by decide), if_neg (by decide), if_neg (by decide), e1, e2, nI_clamp (by omega), if_neg (show ¬ (4 : Int32) = 1 by decide), if_pos (show (4 : Int32) = 4 from rfl)] at hA
    have hth := r_isThrough (μ := ν) (t := i) hR (by omega)
    rw [show cR ν = c from hc] at hth
    rw [e0, ap_ite, if_neg (by decide), ap_ite, if_neg (by decide), ap_ite, if_neg (by decide), ap_ite, if_neg (by decide), r_g45 hR, a1, hrd 1 (by omega), e1, r_g45 hR, a2, hrd 2 (by omega), e2]
    unfold fn_M_onThing fn_M_coats
    rw [r_thb hR, bd_bd, bd_of hth, bd_ite]
    by_cases z : i_thr c i = 0
    · rw [if_pos z] at hA
      have hi8 : 33 + i < 1885 := by omega
      rw [if_pos z, bd_ite, if_neg (by decide), bd_ite, if_pos rfl, bd_bd, r_thb hR, bd_bd, r_g45 hR, bd_bd, r_g45 hR, bd_bd, show (33 : Int32) = nI 33 from rfl, nI_add, r_a45 hR hi8, bd_bd, r_t45 hR hi8, bd_bd, r_g45 (show RefP (m_sI ν (45, 0, 0) (33 + i) (iMin 999 (m_I ν (45, 0, 0) (33 + i) + nI v))) from hR), bd_bd, r_a45 (show RefP (m_sI ν (45, 0, 0) (33 + i) (iMin 999 (m_I ν (45, 0, 0) (33 + i) + nI v))) from hR) hi8, bd_rt, bd_rt, hcz1, sI_rI, hc, ← hA]
      exact ⟨_, _, rfl, rfl, I_rat _ _ _, by rw [hkeep, e45], StR_ud hSt (fun t ht => by omega) (by omega) (by omega) (fun j _ => hkeep j), hsK⟩
    · rw [if_neg z] at hA
      rw [if_neg z, bd_rt, hcz0, ← hA]
      exact ⟨_, _, rfl, rfl, hc, e45, hSt, sm_rf⟩
  · -- mend
    rw [e0, if_neg (by decide), if_neg (by decide), if_neg (by decide), if_neg (by decide), e1, nI_clamp (by omega), if_neg (show ¬ (5 : Int32) = 1 by decide), if_neg (show ¬ (5 : Int32) = 4 by decide)] at hA
    have hth := r_isThrough (μ := ν) (t := i) hR (by omega)
    rw [show cR ν = c from hc] at hth
    rw [e0, ap_ite, if_neg (by decide), ap_ite, if_neg (by decide), ap_ite, if_neg (by decide), ap_ite, if_neg (by decide), r_g45 hR, a1, hrd 1 (by omega), e1, r_g45 hR, a2, hrd 2 (by omega)]
    unfold fn_M_onThing fn_M_mends
    rw [r_thb hR, bd_bd, bd_of hth, bd_ite]
    by_cases z : i_thr c i = 0
    · rw [if_pos z] at hA
      have hi8 : 41 + i < 1885 := by omega
      obtain ⟨ru, hru, eru⟩ := (hO.2.2 i hi).2.2.1
      obtain ⟨th, ht1, ht2, eth⟩ := (hO.2.2 i hi).1
      have hthr : nTh (ud c (41 + i) (c (41 + i) / 2)) T = nTh c T := by
        have := nTh_one (c := c) (v := c (41 + i) / 2) z hT8 T (Nat.le_refl T)
        have hz : i_thr (ud c (41 + i) (c (41 + i) / 2)) i = 0 := by
          unfold i_thr at z ⊢
          rw [ud_at, ud_ne (by omega)]
          by_cases y : c (41 + i) < c (25 + i)
          · rw [if_pos]
            rw [eru, eth, nI_ltq (by omega) (by omega)] at y
            rw [eru, eth, show (2 : Int32) = nI 2 from rfl, pk_div (by omega) (by omega) (by omega)]
            exact nI_lt (by omega) (by omega)
          · rw [if_neg y] at z
            exact absurd z (by decide)
        rw [if_pos hi, if_pos hz] at this
        omega
      rw [if_pos z, bd_ite, if_neg (by decide), bd_ite, if_neg (by decide), bd_bd, r_thb hR, bd_bd, r_g45 hR, bd_bd, show (41 : Int32) = nI 41 from rfl, nI_add, r_a45 hR hi8, bd_bd, r_t45 hR hi8, bd_bd, r_g45 (show RefP (m_sI ν (45, 0, 0) (41 + i) (m_I ν (45, 0, 0) (41 + i) / 2)) from hR), bd_bd, r_a45 (show RefP (m_sI ν (45, 0, 0) (41 + i) (m_I ν (45, 0, 0) (41 + i) / 2)) from hR) hi8, bd_rt, bd_rt, hcz1, sI_rI, hc, ← hA]
      refine ⟨_, _, rfl, rfl, I_rat _ _ _, by rw [hkeep, e45], ⟨?_, ?_, ?_⟩, hsK⟩
      · rw [hkeep, hSt.1]
        show _ = ud c (41 + i) _ 6 - c0 6
        rw [ud_ne (by omega)]
      · rw [hkeep, hSt.2.1]
        show _ = nI (nTh (ud c (41 + i) (c (41 + i) / 2)) T - nTh c0 T)
        rw [hthr]
      · rw [hkeep, hSt.2.2]
        show _ = nI (nLi c0 P - nLi (ud c (41 + i) (c (41 + i) / 2)) P)
        rw [nLi_ud (by omega)]
    · rw [if_neg z] at hA
      rw [if_neg z, bd_rt, hcz0, ← hA]
      exact ⟨_, _, rfl, rfl, hc, e45, hSt, sm_rf⟩
  · -- any
    rw [e0, if_neg (by decide), if_neg (by decide), if_neg (by decide), if_pos rfl] at hA
    rw [e0, ap_ite, if_neg (by decide), ap_ite, if_neg (by decide), ap_ite, if_neg (by decide), ap_ite, if_pos rfl]
    unfold fn_M_isAny
    rw [r_thb hR, bd_bd, r_g45 hR, bd_bd, r_l45_1 hR, hc, hT0, bd_ite]
    by_cases hTz : T = 0
    · rw [if_pos hTz] at hA
      rw [if_pos (by rw [hTz]; rfl), bd_rt, hcz0, ← hA]
      exact ⟨_, _, rfl, rfl, hc, e45, hSt, sm_rf⟩
    · rw [if_neg hTz] at hA
      have hd1 := bn_drw hr
      have hd2 := bn_drw hd1
      obtain ⟨d, hd, ed⟩ := drw_by hd1 (m := 10) (by omega) (by omega)
      obtain ⟨i, hi, ei⟩ := drw_by hd2 (m := T) (by omega) (by omega)
      have hk1 := r_draw hR (m := 10) (by omega) (by omega)
      rw [e45, ed] at hk1
      rw [show (10 : Int32) = nI 10 from rfl, ed, ei, nI_clamp (by omega)] at hA
      rw [if_neg (nI_ne0 (by omega) (by omega)), bd_bd, r_g45 hR, bd_bd, show (10 : Int32) = nI 10 from rfl, bd_of hk1]
      have hRa : RefP (m_sI ν (40, 0, 0) 45 (drw rnd)) := hR
      rw [bd_bd, show (4 : Int32) = nI 4 from rfl, r_t45 hRa (by omega), sI_rI]
      have s2 : sm (fun x _ _ k => (x = 40 ∧ (k = 27 ∨ k = 45 ∨ k = 48 ∨ k = 49)) ∨ x = 45) ν (m_rI (m_sI ν (40, 0, 0) 45 (drw rnd)) (45, 0, 0) (ud c 4 (nI d))) := sm_rI (sm_sI sm_rf _ (by omega)) _ (fun _ q => absurd (.inr rfl) q)
      have c2 : m_I (m_rI (m_sI ν (40, 0, 0) 45 (drw rnd)) (45, 0, 0) (ud c 4 (nI d))) (45, 0, 0) = ud c 4 (nI d) := I_rat _ _ _
      have e452 : m_I (m_rI (m_sI ν (40, 0, 0) 45 (drw rnd)) (45, 0, 0) (ud c 4 (nI d))) (40, 0, 0) 45 = drw rnd := by rw [I_rne _ rfl, I_row, ud_at]
      have eo2 : ∀ j, j ≠ 45 → m_I (m_rI (m_sI ν (40, 0, 0) 45 (drw rnd)) (45, 0, 0) (ud c 4 (nI d))) (40, 0, 0) j = m_I ν (40, 0, 0) j := fun j hj => by rw [I_rne _ rfl, I_row, ud_ne hj]
      rw [show m_I (m_sI ν (40, 0, 0) 45 (drw rnd)) (45, 0, 0) = c from (I_ne _ rfl).trans hc]
      have hSt2 : StR (m_rI (m_sI ν (40, 0, 0) 45 (drw rnd)) (45, 0, 0) (ud c 4 (nI d))) c0 (ud c 4 (nI d)) P T := StR_ud hSt (fun t ht => by omega) (by omega) (by omega) (fun j hj => eo2 j (by omega))
      generalize m_rI (m_sI ν (40, 0, 0) 45 (drw rnd)) (45, 0, 0) (ud c 4 (nI d)) = ν2 at *
      have hR2 := sm_R s2 hR
      have hk2 := r_draw hR2 (m := T) (by omega) (by omega)
      rw [e452, ei] at hk2
      have hD2 : Dim (ud c 4 (nI d)) P T := Dim_ud hD (by omega)
      rw [bd_bd, r_g45 hR2, bd_bd, r_l45_1 hR2, c2, hD2.2.1, bd_bd, bd_of hk2]
      have s3 : sm (fun x _ _ k => x = 40 ∧ k = 45) ν2 (m_sI ν2 (40, 0, 0) 45 (drw (drw rnd))) := sm_sI sm_rf _ ⟨rfl, rfl⟩
      have hR3 := sm_R s3 hR2
      have c3 : m_I (m_sI ν2 (40, 0, 0) 45 (drw (drw rnd))) (45, 0, 0) = ud c 4 (nI d) := (I_ne _ rfl).trans c2
      have e453 : m_I (m_sI ν2 (40, 0, 0) 45 (drw (drw rnd))) (40, 0, 0) 45 = drw (drw rnd) := by rw [I_row, ud_at]
      have hSt3 : StR (m_sI ν2 (40, 0, 0) 45 (drw (drw rnd))) c0 (ud c 4 (nI d)) P T := ⟨by rw [I_row, ud_ne (by decide)]; exact hSt2.1, by rw [I_row, ud_ne (by decide)]; exact hSt2.2.1, by rw [I_row, ud_ne (by decide)]; exact hSt2.2.2⟩
      have s4 := sm_tr s2 (sm_mono s3 (K' := fun x _ _ k => (x = 40 ∧ (k = 27 ∨ k = 45 ∨ k = 48 ∨ k = 49)) ∨ x = 45) (by omega))
      generalize m_sI ν2 (40, 0, 0) 45 (drw (drw rnd)) = ν3 at *
      have hM2 : nTh c0 T ≤ nTh (ud c 4 (nI d)) T := by
        rw [nTh_ud (fun t ht => by omega)]
        exact (Mo_le hMo).1
      generalize ud c 4 (nI d) = c' at *
      have hth := r_isThrough (μ := ν3) (t := i) hR3 (by omega)
      rw [show cR ν3 = c' from c3] at hth
      unfold anyB at hA
      unfold fn_M_isBreathed fn_M_breathed
      rw [bd_bd, r_thb hR3, bd_bd, r_thb hR3, bd_bd, bd_of hth, bd_ite]
      by_cases z : i_thr c' i = 0
      · rw [if_pos z] at hA
        have hi8 : 41 + i < 1885 := by omega
        rw [if_pos z, bd_bd, r_g45 hR3, bd_bd, r_g45 hR3, bd_bd, show (41 : Int32) = nI 41 from rfl, nI_add, r_a45 hR3 hi8, bd_bd, r_g45 hR3, bd_bd, r_l45_5 hR3, bd_bd, r_t45 hR3 hi8, sI_rI, c3, bd_rt, bd_ite, if_neg (by decide)]
        have s5 : sm (fun x _ _ k => (x = 40 ∧ (k = 27 ∨ k = 45 ∨ k = 48 ∨ k = 49)) ∨ x = 45) ν (m_rI ν3 (45, 0, 0) (ud c' (41 + i) (iMin 999 (c' (41 + i) + c' 5)))) := sm_rI s4 _ (fun _ q => absurd (.inr rfl) q)
        have c5 : m_I (m_rI ν3 (45, 0, 0) (ud c' (41 + i) (iMin 999 (c' (41 + i) + c' 5)))) (45, 0, 0) = ud c' (41 + i) (iMin 999 (c' (41 + i) + c' 5)) := I_rat _ _ _
        have eo5 : ∀ j, m_I (m_rI ν3 (45, 0, 0) (ud c' (41 + i) (iMin 999 (c' (41 + i) + c' 5)))) (40, 0, 0) j = m_I ν3 (40, 0, 0) j := fun j => by rw [I_rne _ rfl]
        generalize hν5 : m_rI ν3 (45, 0, 0) (ud c' (41 + i) (iMin 999 (c' (41 + i) + c' 5))) = ν5 at *
        have hR5 := sm_R s5 hR
        have hth5 := r_isThrough (μ := ν5) (t := i) hR5 (by omega)
        rw [show cR ν5 = ud c' (41 + i) (iMin 999 (c' (41 + i) + c' 5)) from c5] at hth5
        have hone := nTh_one (c := c') (v := iMin 999 (c' (41 + i) + c' 5)) z hT8 T (Nat.le_refl T)
        rw [if_pos hi] at hone
        rw [bd_bd, r_gI hR5, eo5, hSt3.2.1, bd_bd, bd_of hth5, bd_bd, bd_ite]
        by_cases y : i_thr (ud c' (41 + i) (iMin 999 (c' (41 + i) + c' 5))) i = 0
        · rw [if_pos y] at hone
          rw [if_pos y, bd_rt, bd_bd, r_pI hR5, bd_rt, bd_of (hcz1 _), hcz1, Int32.add_zero, ← hA]
          refine ⟨_, _, rfl, rfl, (I_ne _ rfl).trans c5, by rw [I_row, ud_ne (by decide), eo5]; exact e453, ⟨?_, ?_, ?_⟩, sm_sI s5 _ (by omega)⟩
          · rw [I_row, ud_ne (by decide), eo5, hSt3.1]
            show _ = ud c' (41 + i) _ 6 - c0 6
            rw [ud_ne (by omega)]
          · rw [I_row, ud_at]
            show _ = nI (nTh (ud c' (41 + i) (iMin 999 (c' (41 + i) + c' 5))) T - nTh c0 T)
            rw [hone]
            rfl
          · rw [I_row, ud_ne (by decide), eo5, hSt3.2.2]
            show _ = nI (nLi c0 P - nLi (ud c' (41 + i) (iMin 999 (c' (41 + i) + c' 5))) P)
            rw [nLi_ud (by omega)]
        · rw [if_neg y] at hone
          rw [if_neg y, bd_rt, bd_bd, r_pI hR5, bd_rt, bd_of (hcz1 _), hcz1, nI_1, ← hA]
          refine ⟨_, _, rfl, rfl, (I_ne _ rfl).trans c5, by rw [I_row, ud_ne (by decide), eo5]; exact e453, ⟨?_, ?_, ?_⟩, sm_sI s5 _ (by omega)⟩
          · rw [I_row, ud_ne (by decide), eo5, hSt3.1]
            show _ = ud c' (41 + i) _ 6 - c0 6
            rw [ud_ne (by omega)]
          · rw [I_row, ud_at]
            show _ = nI (nTh (ud c' (41 + i) (iMin 999 (c' (41 + i) + c' 5))) T - nTh c0 T)
            rw [hone]
            refine congrArg nI ?_
            omega
          · rw [I_row, ud_ne (by decide), eo5, hSt3.2.2]
            show _ = nI (nLi c0 P - nLi (ud c' (41 + i) (iMin 999 (c' (41 + i) + c' 5))) P)
            rw [nLi_ud (by omega)]
      · rw [if_neg z] at hA
        rw [if_neg z, bd_rt, bd_ite, if_pos rfl, bd_rt, bd_of (hcz0 _), hcz0, ← hA]
        exact ⟨_, _, rfl, rfl, c3, e453, hSt3, s4⟩
  · exact absurd e0 h9
  · exact absurd e0 h8
  · exact absurd e0 h7
  · exact absurd e0 h7
  · exact absurd e0 h7
end RD
