/-! Part 69zx: what is taken from a text, as functions; the class takes it -/
/-- a fault: which, where -/
abbrev Fl : Type := Nat × Nat
def am (u : Nat → Nat) (L p : Nat) : Fl := (if tK u L p = 4 then 1 else 2, tS u L p)
def tV (u : Nat → Nat) (L p : Nat) : Nat := nv u (tS u L p) (tE u L p - tS u L p)
def nmd (u : Nat → Nat) (L p : Nat) : Bool := decide (tK u L p = 1) && (decide (tE u L p - tS u L p ≤ 8) && !kept u L p)
def pNum (u : Nat → Nat) (L p a b : Nat) : Fl ⊕ Nat := if tK u L p = 2 then (if a ≤ tV u L p ∧ tV u L p ≤ b then .inr (tE u L p) else .inl (4, tS u L p)) else .inl (am u L p)
def pEnd (u : Nat → Nat) (L p : Nat) : Fl ⊕ Nat := if tK u L p = 3 ∧ u (tS u L p) = 59 then .inr (tE u L p) else .inl (am u L p)
def pName (u : Nat → Nat) (L p : Nat) (fine : Bool) : Fl ⊕ Nat := if nmd u L p = true then (if fine = true then .inr (tE u L p) else .inl (3, tS u L p)) else .inl (am u L p)
def pWord (u : Nat → Nat) (L p j : Nat) : Fl ⊕ Nat := if isW u L p j = true then .inr (tE u L p) else .inl (am u L p)
set_option maxHeartbeats 200000 in
theorem nv_lt2 {u : Nat → Nat} {s : Nat} : ∀ n, (∀ i, i < n → isDig (u (s + i)) = true) → nv u s n < 10 ^ n
  | 0, _ => Nat.zero_lt_one
  | n + 1, h => by
    have ih := nv_lt2 n (fun i hi => h i (by omega))
    have h1 : 48 ≤ u (s + n) ∧ u (s + n) ≤ 57 := by
      have := h n (by omega)
      unfold isDig at this
      simp at this
      exact this
    have h2 : nv u s (n + 1) = nv u s n * 10 + (u (s + n) - 48) := rfl
    rw [h2, Nat.pow_succ]
    omega
set_option maxHeartbeats 200000 in
theorem w_in_n {v a b : Nat} (hv : v < 2 ^ 31) (ha : a < 2 ^ 31) (hb : b < 2 ^ 31) : w_in (nI v) (nI a) (nI b) = if a ≤ v ∧ v ≤ b then 1 else 0 := by
  unfold w_in
  by_cases y : a ≤ v
  · by_cases x : v ≤ b
    · rw [if_neg (Int32.not_lt.mpr (nI_le y (by omega))), if_neg (Int32.not_lt.mpr (nI_le x (by omega))), if_pos ⟨y, x⟩]
    · rw [if_neg (Int32.not_lt.mpr (nI_le y (by omega))), if_pos (nI_lt (by omega) (by omega)), if_neg (fun q => x q.2)]
  · rw [if_pos (nI_lt (by omega) (by omega)), if_neg (fun q => y q.1)]
section TA
variable {μ : mM} {B : Nat → Int32} {u : Nat → Nat} {L p : Nat}
set_option maxHeartbeats 200000 in
theorem tK_le : tK u L p ≤ 4 := by
  unfold tK
  repeat' split
  all_goals omega
set_option maxHeartbeats 200000 in
theorem tV_lt (h : tK u L p = 2) : tV u L p < 10000 := by
  unfold tK at h
  by_cases z : L ≤ tS u L p
  · rw [if_pos z] at h
    exact absurd h (by decide)
  · rw [if_neg z] at h
    by_cases y : isLet (u (tS u L p)) = true
    · rw [if_pos y] at h
      exact absurd h (by decide)
    · rw [if_neg y] at h
      by_cases x : isDig (u (tS u L p)) = true
      · rw [if_pos x] at h
        have eE : tE u L p = fwd isDig u L (tS u L p) := by
          unfold tE
          rw [if_neg z, if_neg y, if_pos x]
        by_cases v : tE u L p - tS u L p ≤ 4
        · have h1 := nv_lt2 (u := u) (s := tS u L p) (tE u L p - tS u L p) (fun i hi => fwd_all _ (tS u L p) rfl _ (by omega) (by rw [← eE]; omega))
          have h2 : 10 ^ (tE u L p - tS u L p) ≤ 10 ^ 4 := Nat.pow_le_pow_right (by omega) v
          have h3 : (10 : Nat) ^ 4 = 10000 := by decide
          unfold tV
          omega
        · rw [if_neg v] at h
          exact absurd h (by decide)
      · rw [if_neg x] at h
        split at h <;> exact absurd h (by decide)
/-- a fault told -/
def FtC (μ : mM) (f : Fl) : Prop := m_I μ (5, 0, 0) 10 = nI f.1 ∧ m_I μ (5, 0, 0) 11 = nI f.2
/-- what becomes of the class's text -/
def OutC (μ μ' : mM) (u : Nat → Nat) (L : Nat) (res : Fl ⊕ Nat) (r : Int32) : Prop := sm (fun x _ _ k => x = 5 ∧ 3 ≤ k ∧ k ≠ 9) μ μ' ∧ (∀ p', res = .inr p' → r = 1 ∧ TkC μ' u L p' ∧ p' ≤ L ∧ m_I μ' (5, 0, 0) 10 = m_I μ (5, 0, 0) 10 ∧ m_I μ' (5, 0, 0) 11 = m_I μ (5, 0, 0) 11) ∧ ∀ f, res = .inl f → r = 0 ∧ FtC μ' f
set_option maxHeartbeats 200000 in
theorem k_refuse (hC : ClsP μ) (hk : TkC μ u L p) (x : Nat) : fn_Tx_refuse (some (5, 0, 0)) (nI x) μ = some (0, m_sI (m_sI μ (5, 0, 0) 10 (nI (if tK u L p = 4 then 1 else x))) (5, 0, 0) 11 (nI (tS u L p))) := by
  have h4 := tK_le (u := u) (L := L) (p := p)
  obtain ⟨k3, k4, k5, -⟩ := hk
  unfold fn_Tx_refuse
  rw [c_text_th hC, c_text_gI hC, k4, bd_ite]
  by_cases z : tK u L p = 4
  · rw [if_pos (by rw [z]; rfl), if_pos z, bd_rt, c_text_pI hC, c_text_gI (show ClsP (m_sI μ (5, 0, 0) 10 1) from hC), I_row, ud_ne (by decide), k5, c_text_pI (show ClsP (m_sI μ (5, 0, 0) 10 1) from hC)]
    rfl
  · rw [if_neg (show ¬ nI (tK u L p) = 4 from fun q => z ((nI_eq (b := 4) (by omega) (by omega)).mp q)), if_neg z, bd_rt, c_text_pI hC, c_text_gI (show ClsP (m_sI μ (5, 0, 0) 10 (nI x)) from hC), I_row, ud_ne (by decide), k5, c_text_pI (show ClsP (m_sI μ (5, 0, 0) 10 (nI x)) from hC)]
    rfl
set_option maxHeartbeats 200000 in
theorem k_ref0 (hC : ClsP μ) (hk : TkC μ u L p) (x : Nat) (f : Fl) (hf : f = (if tK u L p = 4 then 1 else x, tS u L p)) : m_e (m_bd (fn_Tx_refuse (some (5, 0, 0)) (nI x)) (fun v => m_bd (m_cz v) fun _ => m_rt v) μ) (fun r μ' => OutC μ μ' u L (.inl f) r) := by
  rw [bd_of (k_refuse hC hk x), bd_cz (.inl rfl)]
  refine ⟨_, _, rfl, sm_sI (sm_sI sm_rf _ (by omega)) _ (by omega), fun p' q => (by cases q), fun f' q => ?_⟩
  cases q
  subst hf
  exact ⟨rfl, by rw [I_row, ud_ne (by decide), I_row, ud_at], by rw [I_row, ud_at]⟩
set_option maxHeartbeats 200000 in
theorem k_adv1 (hC : ClsP μ) (hT : TxB μ B L) (hB : Byt B u L) (hk : TkC μ u L p) (hp : p ≤ L) : m_e (m_bd (fn_Tx_advance (some (5, 0, 0))) (fun _ => m_rt (1 : Int32)) μ) (fun r μ' => OutC μ μ' u L (.inr (tE u L p)) r) := by
  obtain ⟨h1, h2⟩ := tE_le (u := u) hp
  refine e_bd (k_advance hC hT hB h2 hk.1) ?_
  rintro - μ' ⟨g1, g2⟩
  refine ⟨_, _, rfl, sm_mono g2 (by omega), fun p' q => ?_, fun f q => by cases q⟩
  cases q
  exact ⟨rfl, g1, h2, by rw [sm_I g2 (by omega)], by rw [sm_I g2 (by omega)]⟩
set_option maxHeartbeats 200000 in
theorem k_takeNumber (hC : ClsP μ) (hT : TxB μ B L) (hB : Byt B u L) (hk : TkC μ u L p) (hp : p ≤ L) {a b : Nat} (ha : a < 2 ^ 31) (hb : b < 2 ^ 31) : m_e (fn_Tx_takeNumber (some (5, 0, 0)) (nI a) (nI b) μ) (fun r μ' => (∀ f, pNum u L p a b = .inl f → OutC μ μ' u L (.inl f) r) ∧ ∀ p', pNum u L p a b = .inr p' → OutC (m_sI μ (5, 0, 0) 9 (nI (tV u L p))) μ' u L (.inr p') r) := by
  have h4 := tK_le (u := u) (L := L) (p := p)
  obtain ⟨k3, k4, k5, k6, k7, k8⟩ := id hk
  obtain ⟨h1, h2⟩ := tE_le (u := u) hp
  unfold fn_Tx_takeNumber
  rw [c_text_th hC, c_text_gI hC, k4, ap_ite]
  by_cases z : tK u L p = 2
  · have hv := tV_lt z
    have e8 : m_I μ (5, 0, 0) 8 = nI (tV u L p) := k7 z
    rw [if_pos (by rw [z]; rfl), c_text_gI hC, e8, bd_within, w_in_n (by omega) ha hb, ap_ite]
    by_cases y : a ≤ tV u L p ∧ tV u L p ≤ b
    · have hr : pNum u L p a b = .inr (tE u L p) := by
        unfold pNum
        rw [if_pos z, if_pos y]
      rw [if_pos y, if_neg (by decide), c_text_gI hC, e8, c_text_pI hC, hr]
      have s1 : sm (fun x _ _ k => x = 5 ∧ k = 9) μ (m_sI μ (5, 0, 0) 9 (nI (tV u L p))) := sm_sI sm_rf _ ⟨rfl, rfl⟩
      refine e_bd (k_advance (sm_C s1 hC) (TxB_sm hT s1 (by omega) (by omega)) hB h2 (by rw [sm_I s1 (by omega), k3])) ?_
      rintro - μ' ⟨g1, g2⟩
      refine ⟨_, _, rfl, fun f q => (by cases q), fun p' q => ?_⟩
      cases q
      refine ⟨sm_mono g2 (by omega), fun p' q => ?_, fun f q => (by cases q)⟩
      cases q
      exact ⟨rfl, g1, h2, by rw [sm_I g2 (by omega)], by rw [sm_I g2 (by omega)]⟩
    · have hr : pNum u L p a b = .inl (4, tS u L p) := by
        unfold pNum
        rw [if_pos z, if_neg y]
      rw [if_neg y, if_pos rfl, hr]
      exact e_mono (k_ref0 hC hk 4 _ (by rw [if_neg (by omega)])) (fun r μ' h => ⟨fun f q => (by cases q; exact h), fun p' q => (by cases q)⟩)
  · have hr : pNum u L p a b = .inl (am u L p) := by
      unfold pNum
      rw [if_neg z]
    rw [if_neg (show ¬ nI (tK u L p) = 2 from fun q => z ((nI_eq (b := 2) (by omega) (by omega)).mp q)), hr]
    exact e_mono (k_ref0 hC hk 2 _ rfl) (fun r μ' h => ⟨fun f q => (by cases q; exact h), fun p' q => (by cases q)⟩)
set_option maxHeartbeats 200000 in
theorem k_takeEndSign (hC : ClsP μ) (hT : TxB μ B L) (hB : Byt B u L) (hk : TkC μ u L p) (hp : p ≤ L) : m_e (fn_Tx_takeEndSign (some (5, 0, 0)) μ) (fun r μ' => OutC μ μ' u L (pEnd u L p) r) := by
  have h4 := tK_le (u := u) (L := L) (p := p)
  obtain ⟨k3, k4, k5, k6, k7, k8⟩ := id hk
  unfold fn_Tx_takeEndSign pEnd
  rw [c_text_th hC, c_text_gI hC, k4, ap_ite]
  by_cases z : tK u L p = 3
  · have hs : u (tS u L p) < 256 := by
      refine (hB.2 _ ?_).1
      unfold tK at z
      by_cases y : L ≤ tS u L p
      · rw [if_pos y] at z
        exact absurd z (by decide)
      · omega
    rw [if_pos (by rw [z]; rfl), c_text_gI hC, k8 z, ap_ite]
    by_cases y : u (tS u L p) = 59
    · rw [if_pos (by rw [y]; rfl), if_pos ⟨z, y⟩]
      exact k_adv1 hC hT hB hk hp
    · rw [if_neg (show ¬ nI (u (tS u L p)) = 59 from fun q => y ((nI_eq (b := 59) (by omega) (by omega)).mp q)), if_neg (fun q => y q.2)]
      exact k_ref0 hC hk 2 _ rfl
  · rw [if_neg (show ¬ nI (tK u L p) = 3 from fun q => z ((nI_eq (b := 3) (by omega) (by omega)).mp q)), if_neg (fun q => z q.1)]
    exact k_ref0 hC hk 2 _ rfl
set_option maxHeartbeats 200000 in
theorem k_takeName (hC : ClsP μ) (hT : TxB μ B L) (hB : Byt B u L) (hk : TkC μ u L p) (hp : p ≤ L) {fine : Bool} : m_e (fn_Tx_takeName (some (5, 0, 0)) (if fine = true then 1 else 0) μ) (fun r μ' => OutC μ μ' u L (pName u L p fine) r) := by
  have h4 := tK_le (u := u) (L := L) (p := p)
  have hL := hB.1
  obtain ⟨k3, k4, k5, k6, k7, k8⟩ := id hk
  obtain ⟨h1, h2⟩ := tE_le (u := u) hp
  unfold fn_Tx_takeName
  rw [c_text_th hC, c_text_gI hC, k4, ap_ite]
  by_cases z : tK u L p = 1
  · rw [if_pos (by rw [z]; rfl), c_text_gI hC, (k6 z).1, ap_ite]
    by_cases y : tE u L p - tS u L p ≤ 8
    · rw [if_neg (show ¬ (8 : Int32) < nI (tE u L p - tS u L p) from Int32.not_lt.mpr (nI_le (b := 8) y (by omega))), bd_of (k_isReserved hC hT hB hk), ap_ite]
      by_cases x : kept u L p = true
      · have hr : pName u L p fine = .inl (am u L p) := by
          unfold pName nmd
          rw [if_neg (by simp [x])]
        rw [if_pos x, if_neg (by decide), hr]
        exact k_ref0 hC hk 2 _ rfl
      · have hn : nmd u L p = true := by
          unfold nmd
          simp [z, y, x]
        rw [if_neg x, if_pos rfl, ap_ite]
        unfold pName
        rw [if_pos hn]
        cases fine
        · rw [if_pos (show (if false = true then (1 : Int32) else 0) = 0 from rfl), if_neg (show ¬ false = true by decide)]
          exact k_ref0 hC hk 3 _ (by rw [if_neg (by omega)])
        · rw [if_neg (show ¬ (if true = true then (1 : Int32) else 0) = 0 by decide), if_pos rfl]
          exact k_adv1 hC hT hB hk hp
    · have hr : pName u L p fine = .inl (am u L p) := by
        unfold pName nmd
        rw [if_neg (by simp [y])]
      rw [if_pos (show (8 : Int32) < nI (tE u L p - tS u L p) from nI_lt (a := 8) (by omega) (by omega)), hr]
      exact k_ref0 hC hk 2 _ rfl
  · have hr : pName u L p fine = .inl (am u L p) := by
      unfold pName nmd
      rw [if_neg (by simp [z])]
    rw [if_neg (show ¬ nI (tK u L p) = 1 from fun q => z ((nI_eq (b := 1) (by omega) (by omega)).mp q)), hr]
    exact k_ref0 hC hk 2 _ rfl
set_option maxHeartbeats 200000 in
theorem k_takeWord (hC : ClsP μ) (hT : TxB μ B L) (hB : Byt B u L) (hk : TkC μ u L p) (hp : p ≤ L) {j : Nat} (hj : j < 21) : m_e (fn_Tx_takeWord (some (5, 0, 0)) (some (0, j, 0)) μ) (fun r μ' => OutC μ μ' u L (pWord u L p j) r) := by
  unfold fn_Tx_takeWord pWord
  rw [c_text_th hC, bd_of (k_is hC hT hB hk hj), ap_ite, iw_ite]
  by_cases z : isW u L p j = true
  · rw [if_pos z, if_pos z]
    exact k_adv1 hC hT hB hk hp
  · rw [if_neg z, if_neg z]
    exact k_ref0 hC hk 2 _ rfl
end TA
