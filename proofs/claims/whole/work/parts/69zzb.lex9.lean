/-! Part 69zzb: a new name, on the reference's side -/
section RW
variable {ν : mM} {B : Nat → Int32} {u : Nat → Nat} {L p : Nat}
/-- the names that the reference has read -/
def NmR (ν : mM) (P T : Nat) (w : Nat → Int64) : Prop := m_I ν (45, 0, 0) 1508 = nI P ∧ m_I ν (45, 0, 0) 1509 = nI T ∧ P ≤ 6 ∧ T ≤ 8 ∧ (∀ i, i < P → m_J ν (48, 0, 0) (56 + i) = w i) ∧ ∀ i, i < T → m_J ν (48, 0, 0) (62 + i) = w (6 + i)
set_option maxHeartbeats 200000 in
theorem NmR_sm {K : Nat → Nat → Nat → Nat → Prop} {ν' : mM} {P T : Nat} {w : Nat → Int64} (h : NmR ν P T w) (hs : sm K ν ν') (h1 : ¬ K 45 0 0 1508) (h2 : ¬ K 45 0 0 1509) (h3 : ∀ k, ¬ K 48 0 0 k) : NmR ν' P T w := by
  unfold NmR at h ⊢
  rw [sm_I hs h1, sm_I hs h2, sm_Jr hs h3]
  exact h
def nw (u : Nat → Nat) (L p : Nat) (w : Nat → Int64) (P T : Nat) : Bool := decide (fnd w (xw u L p) P 0 = -1) && decide (fnd (fun i => w (6 + i)) (xw u L p) T 0 = -1)
def pNew (u : Nat → Nat) (L p : Nat) (w : Nat → Int64) (P T N mx : Nat) : Fl ⊕ Nat := if N = mx then .inl (6, tS u L p) else pName u L (tE u L p) (nw u L (tE u L p) w P T)
set_option maxHeartbeats 200000 in
theorem r_readNewE (hR : RefP ν) {f : Fl} (h : Er ν f) {j N mx : Nat} (hj : j ≤ 1) (hN : m_I ν (45, 0, 0) (1508 + j) = nI N) (hN8 : N < 2 ^ 31) (hm : mx < 2 ^ 31) (hne : N ≠ mx) : fn_M_readNew (some (40, 0, 0)) (nI j) (nI mx) ν = some (0, ν) := by
  obtain ⟨h1, h2, h3⟩ := Er_0 h
  unfold fn_M_readNew
  rw [r_th hR, r_g45 hR, show (1508 : Int32) = nI 1508 from rfl, nI_add, r_a45 hR (by omega), hN, bd_ite, if_neg (fun q => hne ((nI_eq hN8 hm).mp q)), bd_rt, r_gI hR, ap_ite, if_neg h2]
  rfl
set_option maxHeartbeats 200000 in
theorem fnd_m1 {w : Nat → Int64} {x : Int64} {N : Nat} (hN : N ≤ 8) : (0 ≤ fnd w x N 0 ↔ ¬ fnd w x N 0 = -1) ∧ (fnd w x N 0 < 0 ↔ fnd w x N 0 = -1) := by
  rcases fnd_is (w := w) (x := x) N 0 with q | ⟨i, -, hi, q⟩
  · rw [q]
    decide
  · have h1 : (0 : Int32) ≤ nI i := nI_le (a := 0) (by omega) (by omega)
    have h2 : ¬ nI i < 0 := nI_pos (by omega)
    have h3 : ¬ nI i = -1 := fun e => by
      rw [e] at h1
      exact absurd h1 (by decide)
    rw [q]
    exact ⟨⟨fun _ => h3, fun _ => h1⟩, ⟨fun e => absurd e h2, fun e => absurd e h3⟩⟩
set_option maxHeartbeats 200000 in
theorem r_readNew0 (hR : RefP ν) (hT : RxB ν B L) (hB : Byt B u L) (hk : TkR ν u L p) (hp : p ≤ L) (h0 : m_I ν (40, 0, 0) 12 = 0) {P T j N mx : Nat} {w : Nat → Int64} (hj : j ≤ 1) (hNm : NmR ν P T w) (hN : m_I ν (45, 0, 0) (1508 + j) = nI N) (hNx : N ≤ mx) (hm : mx ≤ 8) (hjN : 56 + 6 * j + N < 70 ∨ N = mx) : m_e (fn_M_readNew (some (40, 0, 0)) (nI j) (nI mx) ν) (fun v ν' => sm (fun x _ _ k => (x = 40 ∧ 12 ≤ k ∧ k ≤ 19) ∨ (x = 48 ∧ k = 56 + 6 * j + N)) ν ν' ∧ (∀ p', pNew u L p w P T N mx = .inr p' → v = nI N ∧ m_I ν' (40, 0, 0) 12 = 0 ∧ TkR ν' u L p' ∧ p' ≤ L ∧ m_J ν' (48, 0, 0) (56 + 6 * j + N) = xw u L (tE u L p)) ∧ ∀ f, pNew u L p w P T N mx = .inl f → v = 0 ∧ Er ν' f) := by
  obtain ⟨k3, k4, k5, k6, k7, k8⟩ := id hk
  obtain ⟨h1, h2⟩ := tE_le (u := u) hp
  unfold fn_M_readNew
  rw [r_th hR, r_g45 hR, show (1508 : Int32) = nI 1508 from rfl, nI_add, r_a45 hR (by omega), hN, bd_ite]
  by_cases z : N = mx
  · have hr : pNew u L p w P T N mx = .inl (6, tS u L p) := if_pos z
    have hE : Er (m_sI (m_sI ν (40, 0, 0) 12 6) (40, 0, 0) 13 (nI (tS u L p))) (6, tS u L p) := ⟨by rw [I_row, ud_ne (by decide), I_row, ud_at]; rfl, by rw [I_row, ud_at], by show 1 ≤ 6; omega, by show 6 ≤ 9; omega⟩
    have hR2 : RefP (m_sI (m_sI ν (40, 0, 0) 12 6) (40, 0, 0) 13 (nI (tS u L p))) := hR
    rw [if_pos (by rw [z]), bd_bd, r_gI hR, k5, bd_bd, bd_of (r_fail0 hR h0 _ _), bd_rt, r_gI hR2, ap_ite, if_neg (Er_0 hE).2.1, hr]
    exact ⟨_, _, rfl, sm_sI (sm_sI sm_rf _ (by omega)) _ (by omega), fun p' q => (by cases q), fun f q => by cases q; exact ⟨rfl, hE⟩⟩
  · have hr : pNew u L p w P T N mx = pName u L (tE u L p) (nw u L (tE u L p) w P T) := if_neg z
    rw [if_neg (fun q => z ((nI_eq (by omega) (by omega)).mp q)), bd_rt, r_gI hR, h0, ap_ite, if_pos (show (0 : Int32) ≤ 0 by decide), hr]
    refine e_bd (r_adv1 hR hT hB hk hp h0) ?_
    rintro - ν1 ⟨s1, g1, -⟩
    obtain ⟨e0, ek, ep⟩ := g1 _ rfl
    have hR1 := sm_R s1 hR
    have hNm1 := NmR_sm hNm s1 (by omega) (by omega) (by omega)
    obtain ⟨n1, n2, n3, n4, n5, n6⟩ := hNm1
    have s1' : sm (fun x _ _ k => (x = 40 ∧ 12 ≤ k ∧ k ≤ 19) ∨ (x = 48 ∧ k = 56 + 6 * j + N)) ν ν1 := sm_mono s1 (by omega)
    have hfin : ∀ (f : Fl), Er (m_sI (m_sI ν1 (40, 0, 0) 12 (nI f.1)) (40, 0, 0) 13 (nI f.2)) f → pName u L (tE u L p) (nw u L (tE u L p) w P T) = .inl f → m_e (m_bd (m_gI 11 12 (some (40, 0, 0))) (fun v14 => if v14 ≤ 0 then m_bd (m_gR 11 23 (some (40, 0, 0))) fun v15 => m_bd (m_gJ 11 19 (some (40, 0, 0))) fun v16 => m_bd (m_tJ v15 ((56 + (6 * nI j)) + nI N) v16) fun _ => m_bd (fn_M_advance (some (40, 0, 0))) fun _ => m_rt (nI N) else m_rt 0) (m_sI (m_sI ν1 (40, 0, 0) 12 (nI f.1)) (40, 0, 0) 13 (nI f.2))) (fun v ν' => sm (fun x _ _ k => (x = 40 ∧ 12 ≤ k ∧ k ≤ 19) ∨ (x = 48 ∧ k = 56 + 6 * j + N)) ν ν' ∧ (∀ p', pName u L (tE u L p) (nw u L (tE u L p) w P T) = .inr p' → v = nI N ∧ m_I ν' (40, 0, 0) 12 = 0 ∧ TkR ν' u L p' ∧ p' ≤ L ∧ m_J ν' (48, 0, 0) (56 + 6 * j + N) = xw u L (tE u L p)) ∧ ∀ f, pName u L (tE u L p) (nw u L (tE u L p) w P T) = .inl f → v = 0 ∧ Er ν' f) := by
      intro f hE hq
      have hR2 : RefP (m_sI (m_sI ν1 (40, 0, 0) 12 (nI f.1)) (40, 0, 0) 13 (nI f.2)) := hR1
      rw [r_gI hR2, ap_ite, if_neg (Er_0 hE).2.1, hq]
      exact ⟨_, _, rfl, sm_sI (sm_sI s1' _ (by omega)) _ (by omega), fun p' q => (by cases q), fun f q => by cases q; exact ⟨rfl, hE⟩⟩
    have hEr : ∀ (f : Fl), 1 ≤ f.1 ∧ f.1 ≤ 9 → Er (m_sI (m_sI ν1 (40, 0, 0) 12 (nI f.1)) (40, 0, 0) 13 (nI f.2)) f := fun f hf => ⟨by rw [I_row, ud_ne (by decide), I_row, ud_at], by rw [I_row, ud_at], hf⟩
    rw [bd_of (r_isName hR1 hB ek ep), bd_ite]
    by_cases y : nmd u L (tE u L p) = true
    · have h19 := r_19 ek y
      have na := r_named (k := 4) (j := 0) (N := P) (w := w) hR1 (by omega) (by omega) n1 (by omega) n5
      have nb := r_named (k := 4) (j := 1) (N := T) (w := fun i => w (6 + i)) hR1 (by omega) (by omega) n2 n4 (fun i hi => n6 i hi)
      rw [h19] at na nb
      have na' : fn_M_named (some (40, 0, 0)) 4 0 ν1 = some (fnd w (xw u L (tE u L p)) P 0, ν1) := na
      have nb' : fn_M_named (some (40, 0, 0)) 4 1 ν1 = some (fnd (fun i => w (6 + i)) (xw u L (tE u L p)) T 0, ν1) := nb
      have m1 := fnd_m1 (w := w) (x := xw u L (tE u L p)) (N := P) (by omega)
      have m2 := fnd_m1 (w := fun i => w (6 + i)) (x := xw u L (tE u L p)) (N := T) n4
      have k5' := ek.2.2.1
      have hq3 : ¬ nw u L (tE u L p) w P T = true → pName u L (tE u L p) (nw u L (tE u L p) w P T) = .inl (3, tS u L (tE u L p)) := fun hn => by
        unfold pName
        rw [if_pos y, if_neg hn]
      rw [if_pos y, if_neg (by decide), bd_rt, r_gI hR1, e0, bd_ite, if_pos rfl, bd_bd, bd_of na', bd_ite]
      by_cases x1 : fnd w (xw u L (tE u L p)) P 0 = -1
      · rw [if_neg (fun q => m1.1.mp q x1), bd_bd, bd_of nb', bd_ite]
        by_cases x2 : fnd (fun i => w (6 + i)) (xw u L (tE u L p)) T 0 = -1
        · have hnw : nw u L (tE u L p) w P T = true := by
            unfold nw
            simp [x1, x2]
          have hq : pName u L (tE u L p) (nw u L (tE u L p) w P T) = .inr (tE u L (tE u L p)) := by
            unfold pName
            rw [if_pos y, if_pos hnw]
          have e14 : (56 : Int32) + 6 * nI j + nI N = nI (56 + 6 * j + N) := by
            rw [show (6 : Int32) = nI 6 from rfl, pk_mul, show (56 : Int32) = nI 56 from rfl, nI_add, nI_add]
          rw [if_pos (m2.2.mpr x2), bd_rt, r_gI hR1, e0, ap_ite, if_pos (show (0 : Int32) ≤ 0 by decide), r_g48 hR1, r_gJ hR1, h19, e14, r_t48 hR1 (by omega), hq]
          have s2 : sm (fun x _ _ k => x = 48 ∧ k = 56 + 6 * j + N) ν1 (m_sJ ν1 (48, 0, 0) (56 + 6 * j + N) (xw u L (tE u L p))) := sm_sJ sm_rf _ ⟨rfl, rfl⟩
          have hR2 := sm_R s2 hR1
          have ek2 : TkR (m_sJ ν1 (48, 0, 0) (56 + 6 * j + N) (xw u L (tE u L p))) u L (tE u L p) := by
            unfold TkR at ek ⊢
            rw [sm_I s2 (by omega), sm_I s2 (by omega), sm_I s2 (by omega), sm_I s2 (by omega), sm_I s2 (by omega), sm_J s2 (by omega)]
            exact ek
          refine e_bd (r_adv1 hR2 (RxB_sm (RxB_sm hT s1 (by omega) (by omega)) s2 (by omega) (by omega)) hB ek2 ep (by rw [sm_I s2 (by omega), e0])) ?_
          rintro - ν2 ⟨s3, g3, -⟩
          obtain ⟨a0, ak, ap⟩ := g3 _ rfl
          refine ⟨_, _, rfl, sm_tr (sm_tr s1' (sm_mono s2 (by omega))) (sm_mono s3 (by omega)), fun p' q => ?_, fun f q => (by cases q)⟩
          cases q
          exact ⟨rfl, a0, ak, ap, by rw [sm_J s3 (by omega), J_row, ud_at]⟩
        · rw [if_neg (fun q => x2 (m2.2.mp q)), bd_bd, r_gI hR1, k5', bd_bd, bd_of (r_fail0 hR1 e0 _ _), bd_rt]
          exact hfin (3, tS u L (tE u L p)) (hEr (3, tS u L (tE u L p)) ⟨by show 1 ≤ 3; omega, by show 3 ≤ 9; omega⟩) (hq3 (by unfold nw; simp [x2]))
      · rw [if_pos (m1.1.mpr x1), bd_bd, r_gI hR1, k5', bd_bd, bd_of (r_fail0 hR1 e0 _ _), bd_rt]
        exact hfin (3, tS u L (tE u L p)) (hEr (3, tS u L (tE u L p)) ⟨by show 1 ≤ 3; omega, by show 3 ≤ 9; omega⟩) (hq3 (by unfold nw; simp [x1]))
    · have hq : pName u L (tE u L p) (nw u L (tE u L p) w P T) = .inl (am u L (tE u L p)) := by
        unfold pName
        rw [if_neg y]
      have hE := hEr (am u L (tE u L p)) am_b
      have hR2 : RefP (m_sI (m_sI ν1 (40, 0, 0) 12 (nI (am u L (tE u L p)).1)) (40, 0, 0) 13 (nI (am u L (tE u L p)).2)) := hR1
      rw [if_neg y, if_pos rfl, bd_bd, bd_of (r_amiss0 hR1 e0 ek), bd_rt, r_gI hR2, bd_ite, if_neg (Er_0 hE).1, bd_rt]
      exact hfin _ hE hq
end RW
