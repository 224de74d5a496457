/-! Part 72, laid by wip/whole/maingen.py: the law, call by call -/
section MA
variable {L : Nat} {xs : Nat → Int32} {μ : mM}
set_option maxHeartbeats 200000 in
theorem xa_at {α : Type} {j : Nat} (hj : j < L) (hL : L ≤ 3072) (K : Int32 → mP α) (μ : mM) : m_bd (m_xa L xs (nI j)) K μ = K (xs j) μ := by
  have e : m_xa L xs (nI j) μ = some (xs j, μ) := by
    unfold m_xa
    rw [nI_clamp (by omega), if_pos (fun q => q.elim (nI_pos (by omega)) (fun q => by omega))]
  rw [bd_of e]
set_option maxHeartbeats 200000 in
theorem jn_I {x y : mP Int32} {Z : Int32 → mP (Int32 ⊕ Int32)} {a b : Int32 ⊕ Int32} (hJ : Jn x y μ) (hZ : ∀ v μ1, Z v μ1 = m_bd y (fun v' => if v = v' then m_rt a else m_rt b) μ1) : m_e (m_bd x Z μ) (fun r μ' => r = a ∧ OK μ') := by
  refine e_bd hJ (fun v μ1 hj => ?_)
  rw [hZ]
  refine e_bd hj (fun v' μ2 q => ?_)
  rw [ap_ite, if_pos q.1]
  exact ⟨_, _, rfl, rfl, q.2⟩
set_option maxHeartbeats 200000 in
theorem jn_J {x y : mP Int64} {Z : Int64 → mP (Int32 ⊕ Int32)} {a b : Int32 ⊕ Int32} (hJ : Jn x y μ) (hZ : ∀ v μ1, Z v μ1 = m_bd y (fun v' => if lg_cmp v v' = 0 then m_rt a else m_rt b) μ1) : m_e (m_bd x Z μ) (fun r μ' => r = a ∧ OK μ') := by
  refine e_bd hJ (fun v μ1 hj => ?_)
  rw [hZ]
  refine e_bd hj (fun v' μ2 q => ?_)
  rw [ap_ite, if_pos (by rw [lg_cmp_eq]; exact q.1)]
  exact ⟨_, _, rfl, rfl, q.2⟩
set_option maxRecDepth 20000 in
theorem m_round {t : Nat} (ht : t + 6 ≤ L) (hL : L ≤ 3072) (hok : OK μ) : m_e (fn_L_law_l18 L xs (1, 0, 0) (40, 0, 0) (nI t) μ) (fun r μ' => r = .inl (nI (t + 6)) ∧ OK μ') := by
  obtain ⟨made, n, fa, pa, P, T, h⟩ := id hok
  have x0 : ∀ (K : Int32 → mP (Int32 ⊕ Int32)) (μ : mM), m_bd (m_xa L xs (nI t)) K μ = K (xs t) μ := fun K μ => xa_at (by omega) hL K μ
  have x1 : ∀ (K : Int32 → mP (Int32 ⊕ Int32)) (μ : mM), m_bd (m_xa L xs (nI t + 1)) K μ = K (xs (t + 1)) μ := fun K μ => by
    rw [show nI t + 1 = nI (t + 1) from nI_add t 1]
    exact xa_at (by omega) hL K μ
  have x2 : ∀ (K : Int32 → mP (Int32 ⊕ Int32)) (μ : mM), m_bd (m_xa L xs (nI t + 2)) K μ = K (xs (t + 2)) μ := fun K μ => by
    rw [show nI t + 2 = nI (t + 2) from nI_add t 2]
    exact xa_at (by omega) hL K μ
  have x3 : ∀ (K : Int32 → mP (Int32 ⊕ Int32)) (μ : mM), m_bd (m_xa L xs (nI t + 3)) K μ = K (xs (t + 3)) μ := fun K μ => by
    rw [show nI t + 3 = nI (t + 3) from nI_add t 3]
    exact xa_at (by omega) hL K μ
  have x4 : ∀ (K : Int32 → mP (Int32 ⊕ Int32)) (μ : mM), m_bd (m_xa L xs (nI t + 4)) K μ = K (xs (t + 4)) μ := fun K μ => by
    rw [show nI t + 4 = nI (t + 4) from nI_add t 4]
    exact xa_at (by omega) hL K μ
  have x5 : ∀ (K : Int32 → mP (Int32 ⊕ Int32)) (μ : mM), m_bd (m_xa L xs (nI t + 5)) K μ = K (xs (t + 5)) μ := fun K μ => by
    rw [show nI t + 5 = nI (t + 5) from nI_add t 5]
    exact xa_at (by omega) hL K μ
  have e6 : nI t + 6 = nI (t + 6) := nI_add t 6
  have e0 : ¬ Int32.ofNat L - 6 < nI t := by
    rw [show Int32.ofNat L = nI L from rfl, show (6 : Int32) = nI 6 from rfl, pk_sub (by omega)]
    exact Int32.not_lt.mpr (nI_le (by omega) (by omega))
  unfold fn_L_law_l18
  rw [ap_ite, if_neg e0, x0, e6]
  rw [ap_ite]
  by_cases c0 : xs t &&& 63 = 0
  · rw [if_pos c0]
    exact jn_I (call_status h) (fun v μ1 => rfl)
  rw [if_neg c0]
  rw [ap_ite]
  by_cases c1 : xs t &&& 63 = 1
  · rw [if_pos c1]
    exact jn_J (call_top h) (fun v μ1 => rfl)
  rw [if_neg c1]
  rw [ap_ite]
  by_cases c2 : xs t &&& 63 = 2
  · rw [if_pos c2]
    exact jn_J (call_bottom h) (fun v μ1 => rfl)
  rw [if_neg c2]
  rw [ap_ite]
  by_cases c3 : xs t &&& 63 = 3
  · rw [if_pos c3, x1, x2, x3]
    exact jn_I (call_tray h _ _ _) (fun v μ1 => by rw [x1, x2, x3])
  rw [if_neg c3]
  rw [ap_ite]
  by_cases c4 : xs t &&& 63 = 4
  · rw [if_pos c4, x1, x2, x3, x4]
    exact jn_I (call_write h _ _ _) (fun v μ1 => by rw [x1, x2, x3, x4])
  rw [if_neg c4]
  rw [ap_ite]
  by_cases c5 : xs t &&& 63 = 5
  · rw [if_pos c5, x1, x2]
    exact jn_J (call_read h _ _) (fun v μ1 => by rw [x1, x2])
  rw [if_neg c5]
  rw [ap_ite]
  by_cases c6 : xs t &&& 63 = 6
  · rw [if_pos c6, x1, x2, x3, x4, x5]
    exact jn_I (call_pour h _ _ _ _ _) (fun v μ1 => by rw [x1, x2, x3, x4, x5])
  rw [if_neg c6]
  rw [ap_ite]
  by_cases c7 : xs t &&& 63 = 7
  · rw [if_pos c7, x1, x2, x3, x4, x5]
    exact jn_I (call_feed h _ _ _ _ _) (fun v μ1 => by rw [x1, x2, x3, x4, x5])
  rw [if_neg c7]
  rw [ap_ite]
  by_cases c8 : xs t &&& 63 = 8
  · rw [if_pos c8, x1]
    exact jn_I (call_family h _) (fun v μ1 => by rw [x1])
  rw [if_neg c8]
  rw [ap_ite]
  by_cases c9 : xs t &&& 63 = 9
  · rw [if_pos c9, x1]
    exact jn_I (call_years h _) (fun v μ1 => by rw [x1])
  rw [if_neg c9]
  rw [ap_ite]
  by_cases c10 : xs t &&& 63 = 10
  · rw [if_pos c10, x1]
    exact jn_I (call_fault h _) (fun v μ1 => by rw [x1])
  rw [if_neg c10]
  rw [ap_ite]
  by_cases c11 : xs t &&& 63 = 11
  · rw [if_pos c11, x1]
    exact jn_I (call_many h _) (fun v μ1 => by rw [x1])
  rw [if_neg c11]
  rw [ap_ite]
  by_cases c12 : xs t &&& 63 = 12
  · rw [if_pos c12, x1, x2]
    exact jn_I (call_person h _ _) (fun v μ1 => by rw [x1, x2])
  rw [if_neg c12]
  rw [ap_ite]
  by_cases c13 : xs t &&& 63 = 13
  · rw [if_pos c13, x1, x2]
    exact jn_I (call_thing h _ _) (fun v μ1 => by rw [x1, x2])
  rw [if_neg c13]
  rw [ap_ite]
  by_cases c14 : xs t &&& 63 = 14
  · rw [if_pos c14, x1, x2]
    exact jn_I (call_love h _ _) (fun v μ1 => by rw [x1, x2])
  rw [if_neg c14]
  rw [ap_ite]
  by_cases c15 : xs t &&& 63 = 15
  · rw [if_pos c15, x1]
    exact jn_I (call_copyRust h _) (fun v μ1 => by rw [x1])
  rw [if_neg c15]
  rw [ap_ite]
  by_cases c16 : xs t &&& 63 = 16
  · rw [if_pos c16, x1]
    exact jn_I (call_year h _) (fun v μ1 => by rw [x1])
  rw [if_neg c16]
  rw [ap_ite]
  by_cases c17 : xs t &&& 63 = 17
  · rw [if_pos c17, x1, x2, x3]
    exact jn_I (call_dote h _ _ _) (fun v μ1 => by rw [x1, x2, x3])
  rw [if_neg c17]
  rw [ap_ite]
  by_cases c18 : xs t &&& 63 = 18
  · rw [if_pos c18, x1]
    exact jn_I (call_oil h _) (fun v μ1 => by rw [x1])
  rw [if_neg c18]
  rw [ap_ite]
  by_cases c19 : xs t &&& 63 = 19
  · rw [if_pos c19, x1, x2]
    exact jn_I (call_coat h _ _) (fun v μ1 => by rw [x1, x2])
  rw [if_neg c19]
  rw [ap_ite]
  by_cases c20 : xs t &&& 63 = 20
  · rw [if_pos c20, x1]
    exact jn_I (call_mend h _) (fun v μ1 => by rw [x1])
  rw [if_neg c20]
  rw [ap_ite]
  by_cases c21 : xs t &&& 63 = 21
  · rw [if_pos c21, x1]
    exact jn_I (call_breathe h _) (fun v μ1 => by rw [x1])
  rw [if_neg c21]
  rw [ap_ite]
  by_cases c22 : xs t &&& 63 = 22
  · rw [if_pos c22, x1]
    exact jn_I (call_forge h _) (fun v μ1 => by rw [x1])
  rw [if_neg c22]
  rw [ap_ite]
  by_cases c23 : xs t &&& 63 = 23
  · rw [if_pos c23, x1, x2]
    have hb : ∀ (x : Int32), (if x = 0 then (0 : Int32) else 1) = 0 ∨ (if x = 0 then (0 : Int32) else 1) = 1 := fun x => by
      split
      · exact .inl rfl
      · exact .inr rfl
    have hi : ∀ (x : Int32) (K : Int32 → mP (Int32 ⊕ Int32)) (μ : mM), m_bd (if x = 0 then m_rt 0 else m_rt 1) K μ = K (if x = 0 then 0 else 1) μ := fun x K μ => by
      rw [bd_ite, bd_rt, bd_rt]
      split <;> rfl
    rw [hi]
    exact jn_I (call_born h _ (hb _)) (fun v μ1 => by rw [x1, x2, hi])
  rw [if_neg c23]
  rw [ap_ite]
  by_cases c24 : xs t &&& 63 = 24
  · rw [if_pos c24, x1, x2]
    exact jn_I (call_rule h _ _) (fun v μ1 => by rw [x1, x2])
  rw [if_neg c24]
  rw [ap_ite]
  by_cases c25 : xs t &&& 63 = 25
  · rw [if_pos c25, x1, x2]
    exact jn_I (call_rustIn h _ _) (fun v μ1 => by rw [x1, x2])
  rw [if_neg c25]
  rw [ap_ite]
  by_cases c26 : xs t &&& 63 = 26
  · rw [if_pos c26, x1]
    exact jn_I (call_throughIn h _) (fun v μ1 => by rw [x1])
  rw [if_neg c26]
  rw [ap_ite]
  by_cases c27 : xs t &&& 63 = 27
  · rw [if_pos c27]
    exact jn_I (call_firstThrough h) (fun v μ1 => rfl)
  rw [if_neg c27]
  rw [ap_ite]
  by_cases c28 : xs t &&& 63 = 28
  · rw [if_pos c28, x1]
    exact jn_I (call_throughBy h _) (fun v μ1 => by rw [x1])
  rw [if_neg c28]
  rw [ap_ite]
  by_cases c29 : xs t &&& 63 = 29
  · rw [if_pos c29, x1]
    exact jn_I (call_showsIn h _) (fun v μ1 => by rw [x1])
  rw [if_neg c29]
  rw [ap_ite]
  by_cases c30 : xs t &&& 63 = 30
  · rw [if_pos c30, x1]
    exact jn_I (call_diesIn h _) (fun v μ1 => by rw [x1])
  rw [if_neg c30]
  rw [ap_ite]
  by_cases c31 : xs t &&& 63 = 31
  · rw [if_pos c31, x1]
    exact jn_I (call_worst h _) (fun v μ1 => by rw [x1])
  rw [if_neg c31]
  rw [ap_ite]
  by_cases c32 : xs t &&& 63 = 32
  · rw [if_pos c32, x1, x2]
    exact jn_I (call_jars h _ _) (fun v μ1 => by rw [x1, x2])
  rw [if_neg c32]
  rw [ap_ite]
  by_cases c33 : xs t &&& 63 = 33
  · rw [if_pos c33, x1, x2]
    exact jn_I (call_jarsFor h _ _) (fun v μ1 => by rw [x1, x2])
  rw [if_neg c33]
  rw [ap_ite]
  by_cases c34 : xs t &&& 63 = 34
  · rw [if_pos c34, x1, x2, x3]
    exact jn_I (call_less h _ _ _) (fun v μ1 => by rw [x1, x2, x3])
  rw [if_neg c34]
  rw [ap_ite]
  by_cases c35 : xs t &&& 63 = 35
  · rw [if_pos c35, x1, x2]
    exact jn_I (call_seen h _ _) (fun v μ1 => by rw [x1, x2])
  rw [if_neg c35]
  rw [ap_ite]
  by_cases c36 : xs t &&& 63 = 36
  · rw [if_pos c36, x1, x2, x3]
    exact jn_I (call_sure h _ _ _) (fun v μ1 => by rw [x1, x2, x3])
  rw [if_neg c36]
  rw [ap_ite]
  by_cases c37 : xs t &&& 63 = 37
  · rw [if_pos c37, x1, x2]
    exact jn_I (call_ask h _ _) (fun v μ1 => by rw [x1, x2])
  rw [if_neg c37]
  rw [ap_ite]
  by_cases c38 : xs t &&& 63 = 38
  · rw [if_pos c38, x1]
    exact jn_I (call_keeping h _) (fun v μ1 => by rw [x1])
  rw [if_neg c38]
  rw [ap_ite]
  by_cases c39 : xs t &&& 63 = 39
  · rw [if_pos c39, x1, x2]
    exact jn_I (call_keeps h _ _) (fun v μ1 => by rw [x1, x2])
  rw [if_neg c39]
  rw [ap_ite]
  by_cases c40 : xs t &&& 63 = 40
  · rw [if_pos c40, x1, x2]
    exact jn_I (call_stable h _ _) (fun v μ1 => by rw [x1, x2])
  rw [if_neg c40]
  rw [ap_ite]
  by_cases c41 : xs t &&& 63 = 41
  · rw [if_pos c41, x1]
    exact jn_I (call_stables h _) (fun v μ1 => by rw [x1])
  rw [if_neg c41]
  rw [ap_ite]
  by_cases c42 : xs t &&& 63 = 42
  · rw [if_pos c42, x1, x2, x3]
    exact jn_I (call_game h _ _ _) (fun v μ1 => by rw [x1, x2, x3])
  rw [if_neg c42]
  rw [ap_ite]
  by_cases c43 : xs t &&& 63 = 43
  · rw [if_pos c43, x1, x2, x3]
    exact jn_I (call_moveOf h _ _ _) (fun v μ1 => by rw [x1, x2, x3])
  rw [if_neg c43]
  rw [ap_ite]
  by_cases c44 : xs t &&& 63 = 44
  · rw [if_pos c44, x1, x2]
    exact jn_I (call_lasts h _ _) (fun v μ1 => by rw [x1, x2])
  rw [if_neg c44]
  rw [ap_ite]
  by_cases c45 : xs t &&& 63 = 45
  · rw [if_pos c45, x1, x2, x3]
    exact jn_I (call_thickFor h _ _ _) (fun v μ1 => by rw [x1, x2, x3])
  rw [if_neg c45]
  rw [ap_ite]
  by_cases c46 : xs t &&& 63 = 46
  · rw [if_pos c46, x1]
    exact jn_I (call_blame h _) (fun v μ1 => by rw [x1])
  rw [if_neg c46]
  rw [ap_ite]
  by_cases c47 : xs t &&& 63 = 47
  · rw [if_pos c47, x1]
    exact jn_I (call_live h _) (fun v μ1 => by rw [x1])
  rw [if_neg c47]
  rw [ap_ite]
  by_cases c48 : xs t &&& 63 = 48
  · rw [if_pos c48, x1]
    exact jn_I (call_lived h _) (fun v μ1 => by rw [x1])
  rw [if_neg c48]
  rw [ap_ite]
  by_cases c49 : xs t &&& 63 = 49
  · rw [if_pos c49, x1, x2]
    exact jn_I (call_mean h _ _) (fun v μ1 => by rw [x1, x2])
  rw [if_neg c49]
  rw [ap_ite]
  by_cases c50 : xs t &&& 63 = 50
  · rw [if_pos c50]
    exact jn_I (call_mark h) (fun v μ1 => rfl)
  rw [if_neg c50]
  rw [ap_ite]
  by_cases c51 : xs t &&& 63 = 51
  · rw [if_pos c51]
    exact jn_I (call_back h) (fun v μ1 => rfl)
  rw [if_neg c51]
  exact ⟨_, _, rfl, rfl, hok⟩
set_option maxHeartbeats 200000 in
theorem bd_bdf {α β γ : Type} (x : mP α) (f : α → mP β) (g : β → mP γ) : m_bd (m_bd x f) g = m_bd x (fun a => m_bd (f a) g) := funext fun μ => bd_bd x f g μ
set_option maxHeartbeats 200000 in
theorem bd_rtf {α β : Type} (a : α) (f : α → mP β) : m_bd (m_rt a) f = f a := funext fun μ => bd_rt a f μ
set_option maxHeartbeats 200000 in
theorem m_main (b L : Nat) (xs : Nat → Int32) (hL : L ≤ 3072) : ∃ μ', fn_L_law b L xs m_mu0 = some (1, μ') := by
  have e : fn_L_law b L xs m_mu0 = m_bd m_both (fun r => m_lp (fn_L_law_l18 L xs r.1 r.2) m_F 0) m_mu0 := by
    unfold fn_L_law m_both
    simp only [bd_bdf, bd_rtf]
  have key : m_e (fn_L_law b L xs m_mu0) (fun r _ => r = 1) := by
    rw [e]
    refine e_bd m_begin ?_
    rintro r μ ⟨rfl, hok⟩
    refine e_inv (fun i s μ => s = nI (6 * i) ∧ OK μ) (L / 6) ?_ ?_ ⟨rfl, hok⟩ (by omega)
    · rintro i s μ hi ⟨rfl, hok⟩
      refine e_mono (m_round (t := 6 * i) (by omega) hL hok) ?_
      rintro r μ' ⟨rfl, hok'⟩
      exact ⟨_, rfl, by rw [show 6 * i + 6 = 6 * (i + 1) by omega], hok'⟩
    · rintro s μ ⟨rfl, hok⟩
      have e0 : Int32.ofNat L - 6 < nI (6 * (L / 6)) := by
        by_cases z : 6 ≤ L
        · rw [show Int32.ofNat L = nI L from rfl, show (6 : Int32) = nI 6 from rfl, pk_sub z]
          exact nI_lt (by omega) (by omega)
        · obtain rfl | rfl | rfl | rfl | rfl | rfl : L = 0 ∨ L = 1 ∨ L = 2 ∨ L = 3 ∨ L = 4 ∨ L = 5 := by omega
          all_goals decide
      unfold fn_L_law_l18
      rw [ap_ite, if_pos e0]
      exact ⟨_, _, rfl, 1, rfl, rfl⟩
  obtain ⟨r, μ', e1, e2⟩ := key
  subst e2
  exact ⟨μ', e1⟩
end MA
