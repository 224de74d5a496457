/-! Part 69zzzg: the invariant at the begin -/
def m_mu0 : mM := (0, fun _ _ => 0, fun _ _ => 0, fun _ _ => none)
def m_both : mP (mA × mA) :=
  m_bd (m_new 0) fun a1 =>
  m_bd (fn_C_init a1) fun _ =>
  m_bd (m_new 11) fun a2 =>
  m_bd (fn_M_init a2) fun _ =>
  m_rt (a1, a2)
set_option maxHeartbeats 200000 in
theorem z_cls : clsR 129 (lk none gC27) := by
  unfold clsR
  refine ⟨by decide, ?_⟩
  repeat' apply And.intro
  all_goals first
    | decide +kernel
    | (intro i hi
       obtain rfl | rfl | rfl | rfl : i = 0 ∨ i = 1 ∨ i = 2 ∨ i = 3 := by omega
       all_goals decide +kernel)
    | (intro i hi
       obtain rfl | rfl | rfl | rfl | rfl | rfl | rfl | rfl | rfl | rfl : i = 0 ∨ i = 1 ∨ i = 2 ∨ i = 3 ∨ i = 4 ∨ i = 5 ∨ i = 6 ∨ i = 7 ∨ i = 8 ∨ i = 9 := by omega
       all_goals decide +kernel)
set_option maxHeartbeats 200000 in
theorem z_fam {f : Nat} (hf : f = 0 ∨ f = 1) : famR 129 (lk none gC27) f := by
  obtain rfl | rfl := hf
  all_goals
    unfold famR
    refine ⟨by decide, by decide, ?_⟩
    repeat' apply And.intro
    all_goals first
      | decide +kernel
      | (intro i hi
         obtain rfl | rfl | rfl | rfl | rfl | rfl : i = 0 ∨ i = 1 ∨ i = 2 ∨ i = 3 ∨ i = 4 ∨ i = 5 := by omega
         all_goals decide +kernel)
      | (intro i hi
         obtain rfl | rfl | rfl | rfl | rfl | rfl | rfl | rfl : i = 0 ∨ i = 1 ∨ i = 2 ∨ i = 3 ∨ i = 4 ∨ i = 5 ∨ i = 6 ∨ i = 7 := by omega
         all_goals decide +kernel)
set_option maxHeartbeats 200000 in
theorem z_pla {g : Nat} (hg : g = 0 ∨ g = 1 ∨ g = 5) : planR 129 (lk none gC27) g := by
  obtain rfl | rfl | rfl := hg
  all_goals
    unfold planR
    refine ⟨by decide, by decide, ?_⟩
    repeat' apply And.intro
    all_goals decide +kernel
set_option maxHeartbeats 200000 in
theorem z_ptr : PtrQ 129 (lk none gC27) 0 (fun j => j) (fun j => if j = 0 then 5 else j - 1) := by
  refine ⟨z_cls, gR_ok, by omega, rfl, fun j hj => ?_, fun i j _ _ q => q, fun i j hi hj q => ?_, by decide +kernel, by decide +kernel, by decide +kernel, z_pla (.inr (.inr rfl)), fun i hi => absurd hi (Nat.not_lt_zero i), fun i _ hi => ?_⟩
  · obtain rfl | rfl : j = 0 ∨ j = 1 := by omega
    · exact ⟨by omega, z_fam (.inl rfl), by decide +kernel, z_pla (.inl rfl)⟩
    · exact ⟨by omega, z_fam (.inr rfl), by decide +kernel, z_pla (.inr (.inl rfl))⟩
  · dsimp only at q
    split at q <;> split at q <;> omega
  · obtain rfl | rfl | rfl : i = 0 ∨ i = 1 ∨ i = 2 := by omega
    all_goals decide +kernel
set_option maxHeartbeats 200000 in
theorem m_begin : m_e (m_both m_mu0) (fun r μ => r = ((1, 0, 0), (40, 0, 0)) ∧ OK μ) := by
  have e0 : m_mu0 = Dn 0 gA0 gB0 gC0 := rfl
  rw [e0]
  unfold m_both
  refine y_new (1, 0, 0) (by decide +kernel) (by decide +kernel) ?_
  refine sg_C ?_
  refine y_new (40, 0, 0) (by decide +kernel) (by decide +kernel) ?_
  refine sg_M (fun μ s e1 => ?_)
  refine ⟨_, _, rfl, rfl, 0, 0, fun j => j, fun j => if j = 0 then 5 else j - 1, 0, 0, ?_⟩
  have hp : PtrQ μ.1 (m_R μ) 0 (fun j => j) (fun j => if j = 0 then 5 else j - 1) := by
    rw [s.1, s.2.1]
    exact z_ptr
  have hI : ∀ {x k : Nat} {y z : Nat} {v : Int32}, x ≠ 45 → lk 0 gA27 (x, y, z) k = v → m_I μ (x, y, z) k = v := fun hx h => (sm_I s (fun q => hx q.1)).trans h
  have hJ : ∀ {x k : Nat} {y z : Nat} {v : Int64}, x ≠ 45 → lk 0 gB27 (x, y, z) k = v → m_J μ (x, y, z) k = v := fun hx h => (sm_J s (fun q => hx q.1)).trans h
  have e2 : ∀ k, k < 377 → m_I μ (45, 0, 0) k = c00 k := fun k hk => by
    have := e1 k hk
    rw [show 377 * 0 + k = k by omega] at this
    exact this
  have hc : ∀ k, k < 377 → cR μ k = c00 k := e2
  have s1 : m_I μ (1, 0, 0) 0 = 0 := hI (by decide) (by decide +kernel)
  have s2 : m_I μ (40, 0, 0) 0 = 0 := hI (by decide) (by decide +kernel)
  have s3 : m_J μ (1, 0, 0) 1 = 0 := hJ (by decide) (by decide +kernel)
  have s4 : m_J μ (40, 0, 0) 2 = 0 := hJ (by decide) (by decide +kernel)
  have s5 : m_J μ (1, 0, 0) 2 = 1 := hJ (by decide) (by decide +kernel)
  have s6 : m_J μ (40, 0, 0) 3 = 1 := hJ (by decide) (by decide +kernel)
  have s8 : m_I μ (5, 0, 0) 1 = 0 := hI (by decide) (by decide +kernel)
  have s9 : m_I μ (40, 0, 0) 8 = 0 := hI (by decide) (by decide +kernel)
  have s10 : m_I μ (5, 0, 0) 10 = -1 := hI (by decide) (by decide +kernel)
  have s11 : m_I μ (40, 0, 0) 10 = -1 := hI (by decide) (by decide +kernel)
  have s12 : m_I μ (5, 0, 0) 11 = -1 := hI (by decide) (by decide +kernel)
  have s13 : m_I μ (40, 0, 0) 11 = -1 := hI (by decide) (by decide +kernel)
  have s14 : m_I μ (1, 0, 0) 15 = 0 := hI (by decide) (by decide +kernel)
  have s15 : m_I μ (40, 0, 0) 43 = 0 := hI (by decide) (by decide +kernel)
  have t2 : m_I μ (13, 0, 0) 0 = 0 := hI (by decide) (by decide +kernel)
  have t4 : m_I μ (13, 0, 0) 1 = 0 := hI (by decide) (by decide +kernel)
  have t5 : m_I μ (1, 0, 0) 9 = 0 := hI (by decide) (by decide +kernel)
  have t6 : m_I μ (40, 0, 0) 24 = 0 := hI (by decide) (by decide +kernel)
  have t3 : cR μ 105 = 0 := (hc 105 (by omega)).trans rfl
  refine ⟨⟨hp, Nat.le_refl _⟩, ?_, ?_, fun i hi => .inl ?_, ⟨0, by omega, s8, s9, fun k hk => absurd hk (Nat.not_lt_zero k)⟩, ⟨by rw [s10, s11], by rw [s12, s13]⟩, ⟨by rw [s14, s15], .inl s15⟩, ⟨?_, ?_, ?_⟩, .inl ⟨t2, t3, t4⟩, t5, t6, fun i hi => absurd hi (Nat.not_lt_zero i)⟩
  · show m_I μ (1, 0, 0) 0 = m_I μ (40, 0, 0) 0
    rw [s1, s2]
  · exact ⟨by rw [s3, s4], by rw [s5, s6]⟩
  · obtain rfl | rfl | rfl | rfl : i = 0 ∨ i = 1 ∨ i = 2 ∨ i = 3 := by omega
    all_goals exact ⟨hI (by decide) (by decide +kernel), hI (by decide) (by decide +kernel)⟩
  · refine ⟨fun k hk => ?_, fun p hp => absurd hp (Nat.not_lt_zero p), fun t ht => absurd ht (Nat.not_lt_zero t)⟩
    show m_I μ (7, 0, 0) k = cR μ k
    rw [hc k (by omega)]
    obtain rfl | rfl | rfl | rfl | rfl | rfl | rfl : k = 0 ∨ k = 1 ∨ k = 2 ∨ k = 3 ∨ k = 4 ∨ k = 5 ∨ k = 6 := by omega
    all_goals exact hI (by decide) (by decide +kernel)
  · exact ⟨(hc 0 (by omega)).trans rfl, (hc 1 (by omega)).trans rfl, by omega, by omega⟩
  · refine ⟨⟨?_, ?_, ?_, ?_, ?_⟩, fun p hp => absurd hp (Nat.not_lt_zero p), fun t ht => absurd ht (Nat.not_lt_zero t)⟩
    · rw [hc 2 (by omega)]
      exact ⟨40, by omega, rfl⟩
    · rw [hc 3 (by omega)]
      exact ⟨70, by omega, by omega, rfl⟩
    · rw [hc 4 (by omega)]
      exact ⟨4, by omega, rfl⟩
    · rw [hc 5 (by omega)]
      exact ⟨3, by omega, rfl⟩
    · rw [hc 6 (by omega)]
      exact ⟨0, by omega, rfl⟩
