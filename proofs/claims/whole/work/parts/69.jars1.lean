/-! Part 69: jars, jarsFor -/
set_option maxHeartbeats 200000 in
theorem shl_n : ∀ n : Nat, n ≤ 8 → (1 : Int32) <<< (nI n &&& 31) = nI (2 ^ n) := by decide +kernel
set_option maxHeartbeats 200000 in
theorem has_n {m k : Nat} (hm : m < 256) (hk : k < 8) : ((nI m >>> (nI k &&& 31)) &&& 1) = if m.testBit k then 1 else 0 := by
  rw [bit_dec m hm k hk]
set_option maxHeartbeats 200000 in
theorem sizeOf_n {μ : mM} {m : Nat} (hm : m < 256) : fn_M_sizeOf (nI m) μ = some (nI (wt (fun _ => 1) (fun i => m.testBit i) 8), μ) := by
  have hk := lp_nat (body := fn_M_sizeOf_l4 (nI m)) (fun j => (nI (wt (fun _ => 1) (fun i => m.testBit i) j), nI j)) (fun _ => μ) 8 (x := nI (wt (fun _ => 1) (fun i => m.testBit i) 8)) (μe := μ) (fun j hj => ?_) ?_ (F := m_F) (by have := F_gt; omega)
  · have hk' : m_lp (fn_M_sizeOf_l4 (nI m)) m_F (0, 0) μ = some (nI (wt (fun _ => 1) (fun i => m.testBit i) 8), μ) := hk
    unfold fn_M_sizeOf
    simp only [↓bd_bd, ↓bd_rt, ↓reduceIte, ↓ap_ite, ↓bd_ite, bd_bd, bd_rt, ap_rt, ite_some, nz_1, nz_2, nz_3, nz_4, nz_5, nz_6, nz_7, nz_8, nz_9, nz_10, nz_11, nz_12, nz_m1, z_eq, if_true, if_false, e_some, ite_self, ↓bd_of hk']
  · have hge : ¬ (8 : Int32) ≤ nI j := nI_ge hj (by decide)
    have hh := has_n hm hj
    unfold fn_M_sizeOf_l4 fn_M_has
    cases q : m.testBit j
    · rw [q] at hh
      have hh' : ((nI m >>> (nI j &&& 31)) &&& 1) = 0 := hh
      simp only [↓bd_bd, ↓bd_rt, ↓reduceIte, ↓ap_ite, ↓bd_ite, bd_bd, bd_rt, ap_rt, ite_some, nz_1, nz_2, nz_3, nz_4, nz_5, nz_6, nz_7, nz_8, nz_9, nz_10, nz_11, nz_12, nz_m1, z_eq, if_true, if_false, e_some, ite_self, hge, hh', (show ((0 : Int32) = 1) = False by decide), nI_1, Int32.add_zero]
      unfold wt
      rw [nsum, if_neg (fun z => Bool.noConfusion (q.symm.trans z))]
      rfl
    · rw [q] at hh
      have hh' : ((nI m >>> (nI j &&& 31)) &&& 1) = 1 := hh
      simp only [↓bd_bd, ↓bd_rt, ↓reduceIte, ↓ap_ite, ↓bd_ite, bd_bd, bd_rt, ap_rt, ite_some, nz_1, nz_2, nz_3, nz_4, nz_5, nz_6, nz_7, nz_8, nz_9, nz_10, nz_11, nz_12, nz_m1, z_eq, if_true, if_false, e_some, ite_self, hge, hh', nI_1]
      unfold wt
      rw [nsum, if_pos q]
  · unfold fn_M_sizeOf_l4
    simp only [↓bd_bd, ↓bd_rt, ↓reduceIte, ↓ap_ite, ↓bd_ite, bd_bd, bd_rt, ap_rt, ite_some, nz_1, nz_2, nz_3, nz_4, nz_5, nz_6, nz_7, nz_8, nz_9, nz_10, nz_11, nz_12, nz_m1, z_eq, if_true, if_false, e_some, ite_self, (show (8 : Int32) ≤ nI 8 by decide)]
set_option maxHeartbeats 200000 in
theorem wt_8 {m n : Nat} (hm : m < 2 ^ n) (hn : n ≤ 8) (s : Nat → Nat) : wt s (fun i => m.testBit i) 8 = wt s (fun i => m.testBit i) n := by
  unfold wt
  refine nsum_cut 8 (fun k h1 _ => ?_) hn
  rw [if_neg]
  intro q
  have : m.testBit k = false := Nat.testBit_lt_two_pow (Nat.lt_of_lt_of_le hm (Nat.pow_le_pow_right (by omega) h1))
  exact Bool.noConfusion (this.symm.trans q)
/-- by how many jars it lasts: r is the least size of a set that is good, or none -/
def JarR (good : Nat → Prop) (n : Nat) (a : Int32) : Prop := (a = -1 ∧ ∀ m, m < 2 ^ n → ¬ good m) ∨ ∃ r, r ≤ 8 ∧ a = nI r ∧ (∃ m, m < 2 ^ n ∧ good m ∧ wt (fun _ => 1) (fun i => m.testBit i) n = r) ∧ ∀ m, m < 2 ^ n → good m → r ≤ wt (fun _ => 1) (fun i => m.testBit i) n
set_option maxHeartbeats 200000 in
theorem JarR_eq {good : Nat → Prop} {n : Nat} {a b : Int32} (ha : JarR good n a) (hb : JarR good n b) : a = b := by
  rcases ha with ⟨rfl, h⟩ | ⟨r, -, rfl, ⟨m, hm, hg, hw⟩, h⟩ <;> rcases hb with ⟨rfl, h'⟩ | ⟨r', -, rfl, ⟨m', hm', hg', hw'⟩, h'⟩
  · rfl
  · exact absurd hg' (h m' hm')
  · exact absurd hg (h' m hm)
  · have := h m' hm' hg'
    have := h' m hm hg
    have : r = r' := by omega
    rw [this]
set_option maxHeartbeats 200000 in
theorem wt1_le {B : Nat → Bool} {n : Nat} : wt (fun _ => 1) B n ≤ n := by
  have := nsum_le (g := fun i => if B i = true then 1 else 0) (B := 1) n (fun i _ => by split <;> omega)
  show nsum (fun i => if B i = true then 1 else 0) n ≤ n
  omega
section RJ
variable {ν : mM} {P T t n : Nat}
set_option maxHeartbeats 200000 in
theorem r_jarsOf (hR : RefP ν) (hD : Dim (cR ν) P T) (ht : t < 8) (hn : n ≤ 8) : m_e (fn_M_jarsOf (some (40, 0, 0)) (nI t) (nI n) ν) (fun a μ' => sm KR ν μ' ∧ m_I μ' (45, 0, 0) = cR ν ∧ (∀ k, k ≠ 27 → m_I μ' (40, 0, 0) k = m_I ν (40, 0, 0) k) ∧ JarR (fun m => i_thr (y_jr (cR ν) P T t m n) t = 0) n a) := by
  obtain ⟨hP0, hT0, hP6, hT8⟩ := id hD
  have h256 : 2 ^ n ≤ 256 := Nat.pow_le_pow_right (by omega) hn
  have hlp : m_e (m_lp (fn_M_jarsOf_l5 (some (40, 0, 0)) (nI t) (nI n)) m_F ((-1), 0) ν) (fun a μ' => sm KR ν μ' ∧ m_I μ' (45, 0, 0) = cR ν ∧ (∀ k, k ≠ 27 → m_I μ' (40, 0, 0) k = m_I ν (40, 0, 0) k) ∧ JarR (fun m => i_thr (y_jr (cR ν) P T t m n) t = 0) n a) := by
    refine e_inv (fun i s μ' => sm KR ν μ' ∧ m_I μ' (45, 0, 0) = cR ν ∧ (∀ k, k ≠ 27 → m_I μ' (40, 0, 0) k = m_I ν (40, 0, 0) k) ∧ ((s = (-1, nI i) ∧ ∀ m, m < i → ¬ i_thr (y_jr (cR ν) P T t m n) t = 0) ∨ ∃ r, r ≤ 8 ∧ s = (nI r, nI i) ∧ (∃ m, m < i ∧ i_thr (y_jr (cR ν) P T t m n) t = 0 ∧ wt (fun _ => 1) (fun i => m.testBit i) n = r) ∧ ∀ m, m < i → i_thr (y_jr (cR ν) P T t m n) t = 0 → r ≤ wt (fun _ => 1) (fun i => m.testBit i) n)) (2 ^ n) ?_ ?_ ⟨sm_rf, rfl, fun _ _ => rfl, .inl ⟨rfl, fun m hm => by omega⟩⟩ (by omega)
    · rintro i s μ' hi ⟨b1, b2, b3, b⟩
      have hR := sm_R b1 hR
      have hi256 : i < 256 := by omega
      have hge : ¬ nI (2 ^ n) ≤ nI i := nI_ge hi (by omega)
      have hsz := sizeOf_n (μ := μ') hi256
      rw [wt_8 hi hn] at hsz
      have hle8 : wt (fun _ => 1) (fun j => i.testBit j) n ≤ n := wt1_le
      obtain ⟨d, hd⟩ := r_lastsBy (ν := μ') (P := P) (T := T) (t := t) (n := n) (m := i) hR (by rw [cR, b2]; exact hD) ht (by omega) (fun k hk => has_n hi256 (by omega))
      rw [show cR μ' = cR ν from b2] at hd
      obtain ⟨g1, g2, g3⟩ := pm_rY (ν := μ') (y_jr (cR ν) P T t i n) d (fun k hk => by rw [b2]; exact y_jr_at k (by omega) ht hP6 hT8 n)
      generalize hγ : gm (rY (pm μ') (y_jr (cR ν) P T t i n) d) = γ at hd g1 g2 g3
      have c1 : sm KR ν γ := sm_tr b1 g1
      have c2 : m_I γ (45, 0, 0) = cR ν := by rw [g2, b2]
      have c3 : ∀ k, k ≠ 27 → m_I γ (40, 0, 0) k = m_I ν (40, 0, 0) k := fun k hk => by rw [g3 k hk, b3 k hk]
      have hszγ := sizeOf_n (μ := γ) hi256
      rw [wt_8 hi hn] at hszγ
      rcases b with ⟨rfl, b4⟩ | ⟨r, hr, rfl, ⟨m0, hm0, hg0, hw0⟩, b4⟩
      · unfold fn_M_jarsOf_l5
        by_cases hz : i_thr (y_jr (cR ν) P T t i n) t = 0
        · simp only [↓bd_bd, ↓bd_rt, ↓reduceIte, ↓ap_ite, ↓bd_ite, bd_bd, bd_rt, ap_rt, ite_some, nz_1, nz_2, nz_3, nz_4, nz_5, nz_6, nz_7, nz_8, nz_9, nz_10, nz_11, nz_12, nz_m1, z_eq, if_true, if_false, e_some, ite_self, shl_n n hn, hge, (show (-1 : Int32) < 0 by decide), ↓bd_of hd, hz, ↓bd_of hszγ, nI_1]
          refine ⟨_, rfl, c1, c2, c3, .inr ⟨_, by omega, rfl, ⟨i, by omega, hz, rfl⟩, fun m hm hg => ?_⟩⟩
          by_cases q : m = i
          · subst q
            exact Nat.le_refl _
          · exact absurd hg (b4 m (by omega))
        · simp only [↓bd_bd, ↓bd_rt, ↓reduceIte, ↓ap_ite, ↓bd_ite, bd_bd, bd_rt, ap_rt, ite_some, nz_1, nz_2, nz_3, nz_4, nz_5, nz_6, nz_7, nz_8, nz_9, nz_10, nz_11, nz_12, nz_m1, z_eq, if_true, if_false, e_some, ite_self, shl_n n hn, hge, (show (-1 : Int32) < 0 by decide), ↓bd_of hd, hz, nI_1]
          refine ⟨_, rfl, c1, c2, c3, .inl ⟨rfl, fun m hm => ?_⟩⟩
          by_cases q : m = i
          · subst q
            exact hz
          · exact b4 m (by omega)
      · unfold fn_M_jarsOf_l5
        have hneg : ¬ nI r < 0 := nI_pos (by omega)
        have hcmp : (nI r ≤ nI (wt (fun _ => 1) (fun j => i.testBit j) n)) = (r ≤ wt (fun _ => 1) (fun j => i.testBit j) n) := propext (nI_leI (by omega) (by omega))
        by_cases hle : r ≤ wt (fun _ => 1) (fun j => i.testBit j) n
        · simp only [↓bd_bd, ↓bd_rt, ↓reduceIte, ↓ap_ite, ↓bd_ite, bd_bd, bd_rt, ap_rt, ite_some, nz_1, nz_2, nz_3, nz_4, nz_5, nz_6, nz_7, nz_8, nz_9, nz_10, nz_11, nz_12, nz_m1, z_eq, if_true, if_false, e_some, ite_self, shl_n n hn, hge, hneg, ↓bd_of hsz, hcmp, hle, nI_1]
          refine ⟨_, rfl, b1, b2, b3, .inr ⟨r, hr, rfl, ⟨m0, by omega, hg0, hw0⟩, fun m hm hg => ?_⟩⟩
          by_cases q : m = i
          · subst q
            exact hle
          · exact b4 m (by omega) hg
        · by_cases hz : i_thr (y_jr (cR ν) P T t i n) t = 0
          · simp only [↓bd_bd, ↓bd_rt, ↓reduceIte, ↓ap_ite, ↓bd_ite, bd_bd, bd_rt, ap_rt, ite_some, nz_1, nz_2, nz_3, nz_4, nz_5, nz_6, nz_7, nz_8, nz_9, nz_10, nz_11, nz_12, nz_m1, z_eq, if_true, if_false, e_some, ite_self, shl_n n hn, hge, hneg, ↓bd_of hsz, hcmp, hle, ↓bd_of hd, hz, ↓bd_of hszγ, nI_1]
            refine ⟨_, rfl, c1, c2, c3, .inr ⟨_, by omega, rfl, ⟨i, by omega, hz, rfl⟩, fun m hm hg => ?_⟩⟩
            by_cases q : m = i
            · subst q
              exact Nat.le_refl _
            · have := b4 m (by omega) hg
              omega
          · simp only [↓bd_bd, ↓bd_rt, ↓reduceIte, ↓ap_ite, ↓bd_ite, bd_bd, bd_rt, ap_rt, ite_some, nz_1, nz_2, nz_3, nz_4, nz_5, nz_6, nz_7, nz_8, nz_9, nz_10, nz_11, nz_12, nz_m1, z_eq, if_true, if_false, e_some, ite_self, shl_n n hn, hge, hneg, ↓bd_of hsz, hcmp, hle, ↓bd_of hd, hz, nI_1]
            refine ⟨_, rfl, c1, c2, c3, .inr ⟨r, hr, rfl, ⟨m0, by omega, hg0, hw0⟩, fun m hm hg => ?_⟩⟩
            by_cases q : m = i
            · subst q
              exact absurd hg hz
            · exact b4 m (by omega) hg
    · rintro s μ' ⟨b1, b2, b3, b⟩
      rcases b with ⟨rfl, b4⟩ | ⟨r, hr, rfl, b5, b4⟩
      · unfold fn_M_jarsOf_l5
        simp only [↓bd_bd, ↓bd_rt, ↓reduceIte, ↓ap_ite, ↓bd_ite, bd_bd, bd_rt, ap_rt, ite_some, nz_1, nz_2, nz_3, nz_4, nz_5, nz_6, nz_7, nz_8, nz_9, nz_10, nz_11, nz_12, nz_m1, z_eq, if_true, if_false, e_some, ite_self, shl_n n hn, Int32.le_refl (nI (2 ^ n))]
        exact ⟨_, rfl, b1, b2, b3, .inl ⟨rfl, b4⟩⟩
      · unfold fn_M_jarsOf_l5
        simp only [↓bd_bd, ↓bd_rt, ↓reduceIte, ↓ap_ite, ↓bd_ite, bd_bd, bd_rt, ap_rt, ite_some, nz_1, nz_2, nz_3, nz_4, nz_5, nz_6, nz_7, nz_8, nz_9, nz_10, nz_11, nz_12, nz_m1, z_eq, if_true, if_false, e_some, ite_self, shl_n n hn, Int32.le_refl (nI (2 ^ n))]
        exact ⟨_, rfl, b1, b2, b3, .inr ⟨r, hr, rfl, b5, b4⟩⟩
  unfold fn_M_jarsOf
  rw [r_th hR]
  refine e_bd hlp ?_
  intro a μ' q
  rw [e_rt]
  exact q
end RJ
set_option maxHeartbeats 200000 in
/-- a number that may be below 0 -/
theorem i32_of (z : Int) : ∃ x : Int32, x = Int32.ofInt z := ⟨_, rfl⟩
def zI (z : Int) : Int32 := Int32.ofInt z
set_option maxHeartbeats 200000 in
theorem zI_toInt {z : Int} (h1 : -1000000 < z) (h2 : z < 1000000) : (zI z).toInt = z := by
  unfold zI
  rw [Int32.toInt_ofInt]
  show Int.bmod z 4294967296 = z
  simp only [Int.bmod]
  omega
set_option maxHeartbeats 200000 in
theorem zI_of {x : Int32} {z : Int} (h : x.toInt = z) : x = zI z := by
  unfold zI
  rw [← h, Int32.ofInt_toInt]
set_option maxHeartbeats 200000 in
theorem zI_sub {z : Int} {a : Nat} (h1 : -900000 < z) (h2 : z < 900000) (ha : a < 10000) : zI z - nI a = zI (z - a) := by
  apply zI_of
  rw [Int32.toInt_sub, zI_toInt (by omega) (by omega), nI_toInt (by omega)]
  simp only [Int.bmod]
  omega
set_option maxHeartbeats 200000 in
theorem zI_add {z : Int} {a : Nat} (h1 : -900000 < z) (h2 : z < 900000) (ha : a < 10000) : zI z + nI a = zI (z + a) := by
  apply zI_of
  rw [Int32.toInt_add, zI_toInt (by omega) (by omega), nI_toInt (by omega)]
  simp only [Int.bmod]
  omega
set_option maxHeartbeats 200000 in
theorem zI_le0 {z : Int} (h1 : -1000000 < z) (h2 : z < 1000000) : (zI z ≤ 0) = (z ≤ 0) := by
  apply propext
  rw [Int32.le_iff_toInt_le, zI_toInt h1 h2]
  rfl
set_option maxHeartbeats 200000 in
theorem zI_n (a : Nat) : nI a = zI a := by
  unfold zI nI
  simp [Int32.ofInt_eq_ofNat]
section KJ
variable {μ : mM}
set_option maxHeartbeats 200000 in
theorem k_takeMost (hC : ClsP μ) {n : Nat} {s : Nat → Nat} (hn : 1 ≤ n) (hn8 : n ≤ 8) (hs : ∀ i, i < n → m_I μ (18, 0, 0) i = nI (s i)) (hb : ∀ i, i < n → s i < 10000) : fn_Ah_takeMostSaving (some (17, 0, 0)) (nI n) μ = some (nI (s (bst s (n - 1))), m_sI μ (18, 0, 0) (bst s (n - 1)) 0) := by
  have hbo := fun i => (bst_ok s i).1
  have hk := lp_nat (body := fn_Ah_takeMostSaving_l4 (some (17, 0, 0)) (nI n)) (fun j => (nI (bst s j), nI (j + 1))) (fun _ => μ) (n - 1) (x := nI (bst s (n - 1))) (μe := μ) (fun j hj => ?_) ?_ (F := m_F) (by have := F_gt; omega)
  · have hk' : m_lp (fn_Ah_takeMostSaving_l4 (some (17, 0, 0)) (nI n)) m_F (0, 1) μ = some (nI (bst s (n - 1)), μ) := hk
    have hb1 := hbo (n - 1)
    unfold fn_Ah_takeMostSaving
    simp (disch := first | exact hC | exact hP | exact hR | ((repeat first | apply ClsP_sI | apply ClsP_sJ | apply ClsP_rI | apply ClsP_rJ | apply ClsP_rY); exact hC) | ((repeat first | apply FamP_sI | apply FamP_sJ | apply FamP_rI | apply FamP_rJ | apply FamP_rY); exact hP) | ((repeat first | apply RefP_sI | apply RefP_sJ | apply RefP_rI | apply RefP_rJ | apply RefP_rY); exact hR) | ((repeat first | apply PlanP_sI | apply PlanP_sJ | apply PlanP_rI | apply PlanP_rJ | apply PlanP_rY); exact hL) | omega) only [↓c_main_thb, ↓c_tray_thb, ↓c_text_thb, ↓c_fam_thb, ↓c_per_thb, ↓c_thi_thb, ↓c_plan_thb, ↓c_ahd_thb, ↓c_then_thb, ↓c_sig_thb, ↓c_kee_thb, ↓c_gam_thb, ↓c_brd_thb, ↓c_main_r3, ↓c_main_r4, ↓c_main_r8, ↓c_main_r10, ↓c_main_r11, ↓c_main_r12, ↓c_main_r13, ↓c_main_r14, ↓c_text_r0, ↓c_ahd_r1, ↓c_ahd_r2, ↓c_ahd_r3, ↓c_sig_r0, ↓c_sig_r1, ↓c_kee_r0, ↓c_kee_r1, ↓c_kee_r2, ↓c_kee_r3, ↓c_kee_r5, ↓c_gam_r1, ↓c_gam_r2, ↓c_trays_r, ↓c_tray_r2, ↓c_brds_r, ↓c_brds_r0, ↓c_brds_r1, ↓c_fam_r7, ↓c_fam_r8, ↓c_pers_r, ↓c_per_r4, ↓c_itm_r, ↓c_plan_r2, ↓c_plan_r3, ↓c_plan_r4, ↓c_plan_r5, ↓c_plan_r6, ↓c_plan_r11, ↓c_plan_r12, ↓c_main_R5, ↓c_main_R6, ↓c_main_R7, ↓c_fam_R9, ↓c_main_th, ↓c_main_gI, ↓c_main_gJ, ↓c_main_pI, ↓c_main_pJ, ↓c_main_pR, ↓c_main_pZ, ↓c_tray_th, ↓c_tray_gI, ↓c_tray_pI, ↓c_tray_pR, ↓c_text_th, ↓c_text_gI, ↓c_text_gJ, ↓c_text_pI, ↓c_text_pJ, ↓c_text_pR, ↓c_fam_th, ↓c_fam_gI, ↓c_fam_pI, ↓c_fam_pR, ↓c_per_th, ↓c_per_gI, ↓c_per_gJ, ↓c_per_pI, ↓c_per_pJ, ↓c_per_pR, ↓c_per_pZ, ↓c_thi_th, ↓c_thi_gI, ↓c_thi_gJ, ↓c_thi_pI, ↓c_thi_pJ, ↓c_plan_th, ↓c_plan_gI, ↓c_plan_pI, ↓c_plan_pR, ↓c_plan_pZ, ↓c_ahd_th, ↓c_ahd_gI, ↓c_ahd_pI, ↓c_ahd_pR, ↓c_then_th, ↓c_then_gI, ↓c_then_gJ, ↓c_then_pI, ↓c_then_pJ, ↓c_sig_th, ↓c_sig_gI, ↓c_sig_pI, ↓c_sig_pR, ↓c_kee_th, ↓c_kee_gI, ↓c_kee_pI, ↓c_kee_pR, ↓c_gam_th, ↓c_gam_gI, ↓c_gam_pI, ↓c_gam_pR, ↓c_brd_th, ↓c_brd_gI, ↓c_brd_gJ, ↓c_brd_pI, ↓c_brd_pJ, ↓c_nums_a, ↓c_nums_t, ↓c_bytes_a, ↓c_bytes_t, ↓c_lov_a, ↓c_lov_t, ↓c_parr_a, ↓c_parr_t, ↓c_plps_a, ↓c_plps_t, ↓c_mkd_a, ↓c_sav_a, ↓c_sav_t, ↓c_wut_a, ↓c_wut_t, ↓c_wut_a0, ↓c_wut_t0, ↓c_fits_a, ↓c_fits_t, ↓c_wsum_a, ↓c_wsum_t, ↓c_wsum_a0, ↓c_wsum_t0, ↓c_ckp_a, ↓c_ckp_t, ↓c_ckr_a, ↓c_ckr_t, ↓c_cas_a, ↓c_cas_t, ↓c_cmb_a, ↓c_cmb_t, ↓c_clb_a, ↓c_clb_t, ↓c_clb_a0, ↓c_clb_t0, ↓c_glv_a, ↓c_glv_t, ↓c_clv_a, ↓c_clv_t, ↓c_clv_a0, ↓c_clv_t0, ↓c_clv_a1, ↓c_clv_t1, ↓c_clv_a2, ↓c_clv_t2, ↓c_clv_a3, ↓c_clv_t3, ↓c_clv_a4, ↓c_clv_t4, ↓bd_bd, ↓bd_rt, c_main_thb, c_tray_thb, c_text_thb, c_fam_thb, c_per_thb, c_thi_thb, c_plan_thb, c_ahd_thb, c_then_thb, c_sig_thb, c_kee_thb, c_gam_thb, c_brd_thb, c_main_r3, c_main_r4, c_main_r8, c_main_r10, c_main_r11, c_main_r12, c_main_r13, c_main_r14, c_text_r0, c_ahd_r1, c_ahd_r2, c_ahd_r3, c_sig_r0, c_sig_r1, c_kee_r0, c_kee_r1, c_kee_r2, c_kee_r3, c_kee_r5, c_gam_r1, c_gam_r2, c_trays_r, c_tray_r2, c_brds_r, c_brds_r0, c_brds_r1, c_fam_r7, c_fam_r8, c_pers_r, c_per_r4, c_itm_r, c_plan_r2, c_plan_r3, c_plan_r4, c_plan_r5, c_plan_r6, c_plan_r11, c_plan_r12, c_main_R5, c_main_R6, c_main_R7, c_fam_R9, c_main_th, c_main_gI, c_main_gJ, c_main_pI, c_main_pJ, c_main_pR, c_main_pZ, c_tray_th, c_tray_gI, c_tray_pI, c_tray_pR, c_text_th, c_text_gI, c_text_gJ, c_text_pI, c_text_pJ, c_text_pR, c_fam_th, c_fam_gI, c_fam_pI, c_fam_pR, c_per_th, c_per_gI, c_per_gJ, c_per_pI, c_per_pJ, c_per_pR, c_per_pZ, c_thi_th, c_thi_gI, c_thi_gJ, c_thi_pI, c_thi_pJ, c_plan_th, c_plan_gI, c_plan_pI, c_plan_pR, c_plan_pZ, c_ahd_th, c_ahd_gI, c_ahd_pI, c_ahd_pR, c_then_th, c_then_gI, c_then_gJ, c_then_pI, c_then_pJ, c_sig_th, c_sig_gI, c_sig_pI, c_sig_pR, c_kee_th, c_kee_gI, c_kee_pI, c_kee_pR, c_gam_th, c_gam_gI, c_gam_pI, c_gam_pR, c_brd_th, c_brd_gI, c_brd_gJ, c_brd_pI, c_brd_pJ, c_nums_a, c_nums_t, c_bytes_a, c_bytes_t, c_lov_a, c_lov_t, c_parr_a, c_parr_t, c_plps_a, c_plps_t, c_mkd_a, c_sav_a, c_sav_t, c_wut_a, c_wut_t, c_wut_a0, c_wut_t0, c_fits_a, c_fits_t, c_wsum_a, c_wsum_t, c_wsum_a0, c_wsum_t0, c_ckp_a, c_ckp_t, c_ckr_a, c_ckr_t, c_cas_a, c_cas_t, c_cmb_a, c_cmb_t, c_clb_a, c_clb_t, c_clb_a0, c_clb_t0, c_glv_a, c_glv_t, c_clv_a, c_clv_t, c_clv_a0, c_clv_t0, c_clv_a1, c_clv_t1, c_clv_a2, c_clv_t2, c_clv_a3, c_clv_t3, c_clv_a4, c_clv_t4, ↓reduceIte, ↓ap_ite, ↓bd_ite, bd_bd, bd_rt, ap_rt, ite_some, nI_add, nI_1, R_sI, R_sJ, nz_1, nz_2, nz_3, nz_4, nz_5, nz_6, nz_7, nz_8, nz_9, nz_10, nz_11, nz_12, nz_m1, z_eq, if_true, if_false, e_some, ite_self, ↓bd_of hk', hs _ (show bst s (n - 1) < n by omega)]
  · have hge := nI_ge (show j + 1 < n by omega) (show n < 2 ^ 31 by omega)
    have hb1 := hbo j
    have hc : (nI (s (j + 1)) ≤ nI (s (bst s j))) = (s (j + 1) ≤ s (bst s j)) := propext (nI_leI (by have := hb (j + 1) (by omega); omega) (by have := hb (bst s j) (by omega); omega))
    unfold fn_Ah_takeMostSaving_l4
    by_cases q : s (bst s j) < s (j + 1)
    · have q' : ¬ s (j + 1) ≤ s (bst s j) := by omega
      simp (disch := first | exact hC | exact hP | exact hR | ((repeat first | apply ClsP_sI | apply ClsP_sJ | apply ClsP_rI | apply ClsP_rJ | apply ClsP_rY); exact hC) | ((repeat first | apply FamP_sI | apply FamP_sJ | apply FamP_rI | apply FamP_rJ | apply FamP_rY); exact hP) | ((repeat first | apply RefP_sI | apply RefP_sJ | apply RefP_rI | apply RefP_rJ | apply RefP_rY); exact hR) | ((repeat first | apply PlanP_sI | apply PlanP_sJ | apply PlanP_rI | apply PlanP_rJ | apply PlanP_rY); exact hL) | omega) only [↓c_main_thb, ↓c_tray_thb, ↓c_text_thb, ↓c_fam_thb, ↓c_per_thb, ↓c_thi_thb, ↓c_plan_thb, ↓c_ahd_thb, ↓c_then_thb, ↓c_sig_thb, ↓c_kee_thb, ↓c_gam_thb, ↓c_brd_thb, ↓c_main_r3, ↓c_main_r4, ↓c_main_r8, ↓c_main_r10, ↓c_main_r11, ↓c_main_r12, ↓c_main_r13, ↓c_main_r14, ↓c_text_r0, ↓c_ahd_r1, ↓c_ahd_r2, ↓c_ahd_r3, ↓c_sig_r0, ↓c_sig_r1, ↓c_kee_r0, ↓c_kee_r1, ↓c_kee_r2, ↓c_kee_r3, ↓c_kee_r5, ↓c_gam_r1, ↓c_gam_r2, ↓c_trays_r, ↓c_tray_r2, ↓c_brds_r, ↓c_brds_r0, ↓c_brds_r1, ↓c_fam_r7, ↓c_fam_r8, ↓c_pers_r, ↓c_per_r4, ↓c_itm_r, ↓c_plan_r2, ↓c_plan_r3, ↓c_plan_r4, ↓c_plan_r5, ↓c_plan_r6, ↓c_plan_r11, ↓c_plan_r12, ↓c_main_R5, ↓c_main_R6, ↓c_main_R7, ↓c_fam_R9, ↓c_main_th, ↓c_main_gI, ↓c_main_gJ, ↓c_main_pI, ↓c_main_pJ, ↓c_main_pR, ↓c_main_pZ, ↓c_tray_th, ↓c_tray_gI, ↓c_tray_pI, ↓c_tray_pR, ↓c_text_th, ↓c_text_gI, ↓c_text_gJ, ↓c_text_pI, ↓c_text_pJ, ↓c_text_pR, ↓c_fam_th, ↓c_fam_gI, ↓c_fam_pI, ↓c_fam_pR, ↓c_per_th, ↓c_per_gI, ↓c_per_gJ, ↓c_per_pI, ↓c_per_pJ, ↓c_per_pR, ↓c_per_pZ, ↓c_thi_th, ↓c_thi_gI, ↓c_thi_gJ, ↓c_thi_pI, ↓c_thi_pJ, ↓c_plan_th, ↓c_plan_gI, ↓c_plan_pI, ↓c_plan_pR, ↓c_plan_pZ, ↓c_ahd_th, ↓c_ahd_gI, ↓c_ahd_pI, ↓c_ahd_pR, ↓c_then_th, ↓c_then_gI, ↓c_then_gJ, ↓c_then_pI, ↓c_then_pJ, ↓c_sig_th, ↓c_sig_gI, ↓c_sig_pI, ↓c_sig_pR, ↓c_kee_th, ↓c_kee_gI, ↓c_kee_pI, ↓c_kee_pR, ↓c_gam_th, ↓c_gam_gI, ↓c_gam_pI, ↓c_gam_pR, ↓c_brd_th, ↓c_brd_gI, ↓c_brd_gJ, ↓c_brd_pI, ↓c_brd_pJ, ↓c_nums_a, ↓c_nums_t, ↓c_bytes_a, ↓c_bytes_t, ↓c_lov_a, ↓c_lov_t, ↓c_parr_a, ↓c_parr_t, ↓c_plps_a, ↓c_plps_t, ↓c_mkd_a, ↓c_sav_a, ↓c_sav_t, ↓c_wut_a, ↓c_wut_t, ↓c_wut_a0, ↓c_wut_t0, ↓c_fits_a, ↓c_fits_t, ↓c_wsum_a, ↓c_wsum_t, ↓c_wsum_a0, ↓c_wsum_t0, ↓c_ckp_a, ↓c_ckp_t, ↓c_ckr_a, ↓c_ckr_t, ↓c_cas_a, ↓c_cas_t, ↓c_cmb_a, ↓c_cmb_t, ↓c_clb_a, ↓c_clb_t, ↓c_clb_a0, ↓c_clb_t0, ↓c_glv_a, ↓c_glv_t, ↓c_clv_a, ↓c_clv_t, ↓c_clv_a0, ↓c_clv_t0, ↓c_clv_a1, ↓c_clv_t1, ↓c_clv_a2, ↓c_clv_t2, ↓c_clv_a3, ↓c_clv_t3, ↓c_clv_a4, ↓c_clv_t4, ↓bd_bd, ↓bd_rt, c_main_thb, c_tray_thb, c_text_thb, c_fam_thb, c_per_thb, c_thi_thb, c_plan_thb, c_ahd_thb, c_then_thb, c_sig_thb, c_kee_thb, c_gam_thb, c_brd_thb, c_main_r3, c_main_r4, c_main_r8, c_main_r10, c_main_r11, c_main_r12, c_main_r13, c_main_r14, c_text_r0, c_ahd_r1, c_ahd_r2, c_ahd_r3, c_sig_r0, c_sig_r1, c_kee_r0, c_kee_r1, c_kee_r2, c_kee_r3, c_kee_r5, c_gam_r1, c_gam_r2, c_trays_r, c_tray_r2, c_brds_r, c_brds_r0, c_brds_r1, c_fam_r7, c_fam_r8, c_pers_r, c_per_r4, c_itm_r, c_plan_r2, c_plan_r3, c_plan_r4, c_plan_r5, c_plan_r6, c_plan_r11, c_plan_r12, c_main_R5, c_main_R6, c_main_R7, c_fam_R9, c_main_th, c_main_gI, c_main_gJ, c_main_pI, c_main_pJ, c_main_pR, c_main_pZ, c_tray_th, c_tray_gI, c_tray_pI, c_tray_pR, c_text_th, c_text_gI, c_text_gJ, c_text_pI, c_text_pJ, c_text_pR, c_fam_th, c_fam_gI, c_fam_pI, c_fam_pR, c_per_th, c_per_gI, c_per_gJ, c_per_pI, c_per_pJ, c_per_pR, c_per_pZ, c_thi_th, c_thi_gI, c_thi_gJ, c_thi_pI, c_thi_pJ, c_plan_th, c_plan_gI, c_plan_pI, c_plan_pR, c_plan_pZ, c_ahd_th, c_ahd_gI, c_ahd_pI, c_ahd_pR, c_then_th, c_then_gI, c_then_gJ, c_then_pI, c_then_pJ, c_sig_th, c_sig_gI, c_sig_pI, c_sig_pR, c_kee_th, c_kee_gI, c_kee_pI, c_kee_pR, c_gam_th, c_gam_gI, c_gam_pI, c_gam_pR, c_brd_th, c_brd_gI, c_brd_gJ, c_brd_pI, c_brd_pJ, c_nums_a, c_nums_t, c_bytes_a, c_bytes_t, c_lov_a, c_lov_t, c_parr_a, c_parr_t, c_plps_a, c_plps_t, c_mkd_a, c_sav_a, c_sav_t, c_wut_a, c_wut_t, c_wut_a0, c_wut_t0, c_fits_a, c_fits_t, c_wsum_a, c_wsum_t, c_wsum_a0, c_wsum_t0, c_ckp_a, c_ckp_t, c_ckr_a, c_ckr_t, c_cas_a, c_cas_t, c_cmb_a, c_cmb_t, c_clb_a, c_clb_t, c_clb_a0, c_clb_t0, c_glv_a, c_glv_t, c_clv_a, c_clv_t, c_clv_a0, c_clv_t0, c_clv_a1, c_clv_t1, c_clv_a2, c_clv_t2, c_clv_a3, c_clv_t3, c_clv_a4, c_clv_t4, ↓reduceIte, ↓ap_ite, ↓bd_ite, bd_bd, bd_rt, ap_rt, ite_some, nI_add, nI_1, R_sI, R_sJ, nz_1, nz_2, nz_3, nz_4, nz_5, nz_6, nz_7, nz_8, nz_9, nz_10, nz_11, nz_12, nz_m1, z_eq, if_true, if_false, e_some, ite_self, hge, hs (j + 1) (by omega), hs (bst s j) (by omega), hc, q']
      rw [bst, if_pos q]
    · have q' : s (j + 1) ≤ s (bst s j) := by omega
      simp (disch := first | exact hC | exact hP | exact hR | ((repeat first | apply ClsP_sI | apply ClsP_sJ | apply ClsP_rI | apply ClsP_rJ | apply ClsP_rY); exact hC) | ((repeat first | apply FamP_sI | apply FamP_sJ | apply FamP_rI | apply FamP_rJ | apply FamP_rY); exact hP) | ((repeat first | apply RefP_sI | apply RefP_sJ | apply RefP_rI | apply RefP_rJ | apply RefP_rY); exact hR) | ((repeat first | apply PlanP_sI | apply PlanP_sJ | apply PlanP_rI | apply PlanP_rJ | apply PlanP_rY); exact hL) | omega) only [↓c_main_thb, ↓c_tray_thb, ↓c_text_thb, ↓c_fam_thb, ↓c_per_thb, ↓c_thi_thb, ↓c_plan_thb, ↓c_ahd_thb, ↓c_then_thb, ↓c_sig_thb, ↓c_kee_thb, ↓c_gam_thb, ↓c_brd_thb, ↓c_main_r3, ↓c_main_r4, ↓c_main_r8, ↓c_main_r10, ↓c_main_r11, ↓c_main_r12, ↓c_main_r13, ↓c_main_r14, ↓c_text_r0, ↓c_ahd_r1, ↓c_ahd_r2, ↓c_ahd_r3, ↓c_sig_r0, ↓c_sig_r1, ↓c_kee_r0, ↓c_kee_r1, ↓c_kee_r2, ↓c_kee_r3, ↓c_kee_r5, ↓c_gam_r1, ↓c_gam_r2, ↓c_trays_r, ↓c_tray_r2, ↓c_brds_r, ↓c_brds_r0, ↓c_brds_r1, ↓c_fam_r7, ↓c_fam_r8, ↓c_pers_r, ↓c_per_r4, ↓c_itm_r, ↓c_plan_r2, ↓c_plan_r3, ↓c_plan_r4, ↓c_plan_r5, ↓c_plan_r6, ↓c_plan_r11, ↓c_plan_r12, ↓c_main_R5, ↓c_main_R6, ↓c_main_R7, ↓c_fam_R9, ↓c_main_th, ↓c_main_gI, ↓c_main_gJ, ↓c_main_pI, ↓c_main_pJ, ↓c_main_pR, ↓c_main_pZ, ↓c_tray_th, ↓c_tray_gI, ↓c_tray_pI, ↓c_tray_pR, ↓c_text_th, ↓c_text_gI, ↓c_text_gJ, ↓c_text_pI, ↓c_text_pJ, ↓c_text_pR, ↓c_fam_th, ↓c_fam_gI, ↓c_fam_pI, ↓c_fam_pR, ↓c_per_th, ↓c_per_gI, ↓c_per_gJ, ↓c_per_pI, ↓c_per_pJ, ↓c_per_pR, ↓c_per_pZ, ↓c_thi_th, ↓c_thi_gI, ↓c_thi_gJ, ↓c_thi_pI, ↓c_thi_pJ, ↓c_plan_th, ↓c_plan_gI, ↓c_plan_pI, ↓c_plan_pR, ↓c_plan_pZ, ↓c_ahd_th, ↓c_ahd_gI, ↓c_ahd_pI, ↓c_ahd_pR, ↓c_then_th, ↓c_then_gI, ↓c_then_gJ, ↓c_then_pI, ↓c_then_pJ, ↓c_sig_th, ↓c_sig_gI, ↓c_sig_pI, ↓c_sig_pR, ↓c_kee_th, ↓c_kee_gI, ↓c_kee_pI, ↓c_kee_pR, ↓c_gam_th, ↓c_gam_gI, ↓c_gam_pI, ↓c_gam_pR, ↓c_brd_th, ↓c_brd_gI, ↓c_brd_gJ, ↓c_brd_pI, ↓c_brd_pJ, ↓c_nums_a, ↓c_nums_t, ↓c_bytes_a, ↓c_bytes_t, ↓c_lov_a, ↓c_lov_t, ↓c_parr_a, ↓c_parr_t, ↓c_plps_a, ↓c_plps_t, ↓c_mkd_a, ↓c_sav_a, ↓c_sav_t, ↓c_wut_a, ↓c_wut_t, ↓c_wut_a0, ↓c_wut_t0, ↓c_fits_a, ↓c_fits_t, ↓c_wsum_a, ↓c_wsum_t, ↓c_wsum_a0, ↓c_wsum_t0, ↓c_ckp_a, ↓c_ckp_t, ↓c_ckr_a, ↓c_ckr_t, ↓c_cas_a, ↓c_cas_t, ↓c_cmb_a, ↓c_cmb_t, ↓c_clb_a, ↓c_clb_t, ↓c_clb_a0, ↓c_clb_t0, ↓c_glv_a, ↓c_glv_t, ↓c_clv_a, ↓c_clv_t, ↓c_clv_a0, ↓c_clv_t0, ↓c_clv_a1, ↓c_clv_t1, ↓c_clv_a2, ↓c_clv_t2, ↓c_clv_a3, ↓c_clv_t3, ↓c_clv_a4, ↓c_clv_t4, ↓bd_bd, ↓bd_rt, c_main_thb, c_tray_thb, c_text_thb, c_fam_thb, c_per_thb, c_thi_thb, c_plan_thb, c_ahd_thb, c_then_thb, c_sig_thb, c_kee_thb, c_gam_thb, c_brd_thb, c_main_r3, c_main_r4, c_main_r8, c_main_r10, c_main_r11, c_main_r12, c_main_r13, c_main_r14, c_text_r0, c_ahd_r1, c_ahd_r2, c_ahd_r3, c_sig_r0, c_sig_r1, c_kee_r0, c_kee_r1, c_kee_r2, c_kee_r3, c_kee_r5, c_gam_r1, c_gam_r2, c_trays_r, c_tray_r2, c_brds_r, c_brds_r0, c_brds_r1, c_fam_r7, c_fam_r8, c_pers_r, c_per_r4, c_itm_r, c_plan_r2, c_plan_r3, c_plan_r4, c_plan_r5, c_plan_r6, c_plan_r11, c_plan_r12, c_main_R5, c_main_R6, c_main_R7, c_fam_R9, c_main_th, c_main_gI, c_main_gJ, c_main_pI, c_main_pJ, c_main_pR, c_main_pZ, c_tray_th, c_tray_gI, c_tray_pI, c_tray_pR, c_text_th, c_text_gI, c_text_gJ, c_text_pI, c_text_pJ, c_text_pR, c_fam_th, c_fam_gI, c_fam_pI, c_fam_pR, c_per_th, c_per_gI, c_per_gJ, c_per_pI, c_per_pJ, c_per_pR, c_per_pZ, c_thi_th, c_thi_gI, c_thi_gJ, c_thi_pI, c_thi_pJ, c_plan_th, c_plan_gI, c_plan_pI, c_plan_pR, c_plan_pZ, c_ahd_th, c_ahd_gI, c_ahd_pI, c_ahd_pR, c_then_th, c_then_gI, c_then_gJ, c_then_pI, c_then_pJ, c_sig_th, c_sig_gI, c_sig_pI, c_sig_pR, c_kee_th, c_kee_gI, c_kee_pI, c_kee_pR, c_gam_th, c_gam_gI, c_gam_pI, c_gam_pR, c_brd_th, c_brd_gI, c_brd_gJ, c_brd_pI, c_brd_pJ, c_nums_a, c_nums_t, c_bytes_a, c_bytes_t, c_lov_a, c_lov_t, c_parr_a, c_parr_t, c_plps_a, c_plps_t, c_mkd_a, c_sav_a, c_sav_t, c_wut_a, c_wut_t, c_wut_a0, c_wut_t0, c_fits_a, c_fits_t, c_wsum_a, c_wsum_t, c_wsum_a0, c_wsum_t0, c_ckp_a, c_ckp_t, c_ckr_a, c_ckr_t, c_cas_a, c_cas_t, c_cmb_a, c_cmb_t, c_clb_a, c_clb_t, c_clb_a0, c_clb_t0, c_glv_a, c_glv_t, c_clv_a, c_clv_t, c_clv_a0, c_clv_t0, c_clv_a1, c_clv_t1, c_clv_a2, c_clv_t2, c_clv_a3, c_clv_t3, c_clv_a4, c_clv_t4, ↓reduceIte, ↓ap_ite, ↓bd_ite, bd_bd, bd_rt, ap_rt, ite_some, nI_add, nI_1, R_sI, R_sJ, nz_1, nz_2, nz_3, nz_4, nz_5, nz_6, nz_7, nz_8, nz_9, nz_10, nz_11, nz_12, nz_m1, z_eq, if_true, if_false, e_some, ite_self, hge, hs (j + 1) (by omega), hs (bst s j) (by omega), hc, q']
      rw [bst, if_neg q]
  · unfold fn_Ah_takeMostSaving_l4
    rw [show n - 1 + 1 = n by omega]
    simp only [↓bd_bd, ↓bd_rt, ↓reduceIte, ↓ap_ite, ↓bd_ite, bd_bd, bd_rt, ap_rt, ite_some, nz_1, nz_2, nz_3, nz_4, nz_5, nz_6, nz_7, nz_8, nz_9, nz_10, nz_11, nz_12, nz_m1, z_eq, if_true, if_false, e_some, ite_self, Int32.le_refl (nI n)]
set_option maxHeartbeats 200000 in
theorem k_greedy {n : Nat} (hn8 : n ≤ 8) : ∀ (k : Nat) (F j : Nat) (μ : mM) (z : Int) (s : Nat → Nat), ClsP μ → j + k = n → k < F → -90000 < z → z < 90000 → (∀ i, i < n → m_I μ (18, 0, 0) i = nI (s i)) → (∀ i, i < n → s i < 2000) → m_e (m_lp (fn_Ah_fewestJars_l134 (some (17, 0, 0)) (nI n)) F (zI z, nI j) μ) (fun a μ' => sm (fun x _ _ _ => x = 18) μ μ' ∧ ∃ q, q ≤ k ∧ a = (zI (z - gsum (fun s => bst s (n - 1)) q s), nI (j + q)) ∧ (∀ q', q' < q → (0 : Int) < z - gsum (fun s => bst s (n - 1)) q' s) ∧ (q = k ∨ z - gsum (fun s => bst s (n - 1)) q s ≤ 0) ∧ gsum (fun s => bst s (n - 1)) q s ≤ 2000 * q)
  | k, F, j, μ, z, s, hC, hjk, hF, hz1, hz2, hs, hb => by
    obtain ⟨F', rfl⟩ : ∃ F', F = F' + 1 := ⟨F - 1, by omega⟩
    rw [lp_s]
    by_cases hjn : n ≤ j
    · have hle := nI_le hjn (show j < 2 ^ 31 by omega)
      have h1 : fn_Ah_fewestJars_l134 (some (17, 0, 0)) (nI n) (zI z, nI j) μ = some (.inr (zI z, nI j), μ) := by
        unfold fn_Ah_fewestJars_l134
        simp only [↓bd_bd, ↓bd_rt, ↓reduceIte, ↓ap_ite, ↓bd_ite, bd_bd, bd_rt, ap_rt, ite_some, nz_1, nz_2, nz_3, nz_4, nz_5, nz_6, nz_7, nz_8, nz_9, nz_10, nz_11, nz_12, nz_m1, z_eq, if_true, if_false, e_some, ite_self, hle]
      rw [bd_of h1]
      refine ⟨_, _, rfl, sm_rf, 0, by omega, ?_, fun q' hq' => by omega, .inl (by omega), by show 0 ≤ _; omega⟩
      show _ = (zI (z - (0 : Nat)), nI (j + 0))
      rw [Int.natCast_zero, Int.sub_zero, Nat.add_zero]
    · have hge := nI_ge (show j < n by omega) (show n < 2 ^ 31 by omega)
      have hz0 := zI_le0 (z := z) (by omega) (by omega)
      by_cases hzz : z ≤ 0
      · have h1 : fn_Ah_fewestJars_l134 (some (17, 0, 0)) (nI n) (zI z, nI j) μ = some (.inr (zI z, nI j), μ) := by
          unfold fn_Ah_fewestJars_l134
          simp only [↓bd_bd, ↓bd_rt, ↓reduceIte, ↓ap_ite, ↓bd_ite, bd_bd, bd_rt, ap_rt, ite_some, nz_1, nz_2, nz_3, nz_4, nz_5, nz_6, nz_7, nz_8, nz_9, nz_10, nz_11, nz_12, nz_m1, z_eq, if_true, if_false, e_some, ite_self, hge, hz0, hzz]
        rw [bd_of h1]
        refine ⟨_, _, rfl, sm_rf, 0, by omega, ?_, fun q' hq' => by omega, .inr ?_, by show 0 ≤ _; omega⟩
        · show _ = (zI (z - (0 : Nat)), nI (j + 0))
          rw [Int.natCast_zero, Int.sub_zero, Nat.add_zero]
        · show z - (0 : Nat) ≤ 0
          omega
      · obtain ⟨k', rfl⟩ : ∃ k', k = k' + 1 := ⟨k - 1, by omega⟩
        have hbk := (bst_ok s (n - 1)).1
        have hsb := hb (bst s (n - 1)) (by omega)
        have htk := k_takeMost (s := s) hC (show 1 ≤ n by omega) hn8 hs (fun i hi => by have := hb i hi; omega)
        have h1 : fn_Ah_fewestJars_l134 (some (17, 0, 0)) (nI n) (zI z, nI j) μ = some (.inl (zI (z - s (bst s (n - 1))), nI (j + 1)), m_sI μ (18, 0, 0) (bst s (n - 1)) 0) := by
          unfold fn_Ah_fewestJars_l134
          simp only [↓bd_bd, ↓bd_rt, ↓reduceIte, ↓ap_ite, ↓bd_ite, bd_bd, bd_rt, ap_rt, ite_some, nz_1, nz_2, nz_3, nz_4, nz_5, nz_6, nz_7, nz_8, nz_9, nz_10, nz_11, nz_12, nz_m1, z_eq, if_true, if_false, e_some, ite_self, hge, hz0, hzz, ↓bd_of htk, zI_sub (z := z) (by omega) (by omega) (show s (bst s (n - 1)) < 10000 by omega), nI_1]
        rw [bd_of h1]
        refine e_mono (k_greedy hn8 k' F' (j + 1) (m_sI μ (18, 0, 0) (bst s (n - 1)) 0) (z - s (bst s (n - 1))) (fun i => if i = bst s (n - 1) then 0 else s i) hC (by omega) (by omega) (by omega) (by omega) (fun i hi => ?_) (fun i hi => ?_)) ?_
        · rw [I_row]
          unfold ud
          split
          · rfl
          · exact hs i hi
        · split
          · omega
          · exact hb i hi
        · rintro a μ' ⟨a1, q, hq, rfl, a2, a3, a4⟩
          have hg : ∀ q, gsum (fun s => bst s (n - 1)) (q + 1) s = s (bst s (n - 1)) + gsum (fun s => bst s (n - 1)) q (fun i => if i = bst s (n - 1) then 0 else s i) := fun q => rfl
          refine ⟨sm_tr (sm_sI sm_rf _ rfl) a1, q + 1, by omega, ?_, fun q' hq' => ?_, ?_, ?_⟩
          · rw [hg, show j + 1 + q = j + (q + 1) by omega]
            congr 2
            omega
          · rcases q' with _ | q'
            · show (0 : Int) < z - (0 : Nat)
              omega
            · have := a2 q' (by omega)
              rw [hg]
              omega
          · rcases a3 with a3 | a3
            · exact .inl (by omega)
            · refine .inr ?_
              rw [hg]
              omega
          · rw [hg]
            omega
end KJ
