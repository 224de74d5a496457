/-! Part 69zzi: the reference reads a person, a thing, a love, a rule -/
section RF
variable {ν ν0 ν' : mM} {B : Nat → Int32} {u : Nat → Nat} {L p P T M : Nat} {c : Nat → Int32} {w : Nat → Int64}
/-- the spare block -/
def FmR (ν : mM) (c : Nat → Int32) (w : Nat → Int64) : Prop := (∀ k, k < 377 → m_I ν (45, 0, 0) (1508 + k) = c k) ∧ ∀ k, k < 14 → m_J ν (48, 0, 0) (56 + k) = w k
set_option maxHeartbeats 200000 in
theorem FmR_sm {K : Nat → Nat → Nat → Nat → Prop} (h : FmR ν c w) (hs : sm K ν ν') (h1 : ∀ k, ¬ K 45 0 0 k) (h2 : ∀ k, ¬ K 48 0 0 k) : FmR ν' c w := by
  unfold FmR at h ⊢
  rw [sm_Ir hs h1, sm_Jr hs h2]
  exact h
set_option maxHeartbeats 200000 in
theorem FmR_upd (h : FmR ν c w) (a : Nat) (v : Int32) : FmR (m_sI ν (45, 0, 0) (1508 + a) v) (ud c a v) w := by
  refine ⟨fun k hk => ?_, h.2⟩
  rw [I_row]
  unfold ud
  by_cases z : k = a
  · rw [z, if_pos rfl, if_pos rfl]
  · rw [if_neg (by omega), if_neg z, h.1 k hk]
set_option maxHeartbeats 200000 in
theorem FmR_w {a : Nat} {x : Int64} (h : FmR ν c w) (hs : sm (fun x _ _ k => (x = 40 ∧ 12 ≤ k ∧ k ≤ 19) ∨ (x = 48 ∧ k = 56 + a)) ν ν') (hx : m_J ν' (48, 0, 0) (56 + a) = x) : FmR ν' c (ud w a x) := by
  refine ⟨fun k hk => ?_, fun k hk => ?_⟩
  · rw [sm_I hs (by omega), h.1 k hk]
  · unfold ud
    by_cases z : k = a
    · rw [z, if_pos rfl, hx]
    · rw [if_neg z, sm_J hs (by omega), h.2 k hk]
set_option maxHeartbeats 200000 in
theorem FmR_N (h : FmR ν c w) (hD : Dim c P T) : NmR ν P T w := ⟨by rw [h.1 0 (by omega), hD.1], by rw [h.1 1 (by omega), hD.2.1], hD.2.2.1, hD.2.2.2, fun i hi => h.2 i (by have := hD.2.2.1; omega), fun i hi => by
  have := hD.2.2.2
  rw [← h.2 (6 + i) (by omega)]
  congr 1
  omega⟩
set_option maxHeartbeats 200000 in
/-- a word that is asked for in spite of a fault -/
theorem r_isWE (hR : RefP ν) (x : Int64) : ∃ v, (v = 0 ∨ v = 1) ∧ fn_M_isWord (some (40, 0, 0)) x ν = some (v, ν) := by
  unfold fn_M_isWord
  rw [r_th hR, r_gI hR, ap_ite]
  by_cases z : m_I ν (40, 0, 0) 14 = 1
  · rw [if_pos z, r_gJ hR, ap_ite]
    by_cases y : lg_cmp (m_J ν (40, 0, 0) 19) x = 0
    · rw [if_pos y]
      exact ⟨1, .inr rfl, rfl⟩
    · rw [if_neg y]
      exact ⟨0, .inl rfl, rfl⟩
  · rw [if_neg z]
    exact ⟨0, .inl rfl, rfl⟩
set_option maxHeartbeats 200000 in
theorem r_ageE (hR : RefP ν) : ∃ v, fn_M_isAge (some (40, 0, 0)) ν = some (v, ν) := by
  obtain ⟨v, hv, h⟩ := r_isWE hR (lN (wn 5))
  refine ⟨v, ?_⟩
  unfold fn_M_isAge
  rw [r_th hR, bd_of sp_5, bd_of h, bd_cz hv]
  rfl
set_option maxHeartbeats 200000 in
theorem r_ofE (hR : RefP ν) : ∃ v, fn_M_isOf (some (40, 0, 0)) ν = some (v, ν) := by
  obtain ⟨v, hv, h⟩ := r_isWE hR (lN (wn 6))
  refine ⟨v, ?_⟩
  unfold fn_M_isOf
  rw [r_th hR, bd_of sp_6, bd_of h, bd_cz hv]
  rfl
set_option maxHeartbeats 200000 in
theorem r_thickE (hR : RefP ν) : ∃ v, fn_M_isThick (some (40, 0, 0)) ν = some (v, ν) := by
  obtain ⟨v, hv, h⟩ := r_isWE hR (lN (wn 8))
  refine ⟨v, ?_⟩
  unfold fn_M_isThick
  rw [r_th hR, bd_of sp_8, bd_of h, bd_cz hv]
  rfl
set_option maxHeartbeats 200000 in
theorem r_coatE (hR : RefP ν) : ∃ v, fn_M_isCoat (some (40, 0, 0)) ν = some (v, ν) := by
  obtain ⟨v, hv, h⟩ := r_isWE hR (lN (wn 9))
  refine ⟨v, ?_⟩
  unfold fn_M_isCoat
  rw [r_th hR, bd_of sp_9, bd_of h, bd_cz hv]
  rfl
set_option maxHeartbeats 200000 in
theorem r_endE (hR : RefP ν) : ∃ v, fn_M_isEnd (some (40, 0, 0)) ν = some (v, ν) := by
  obtain ⟨v, hv, h⟩ := r_isWE hR (lN (wn 19))
  refine ⟨v, ?_⟩
  unfold fn_M_isEnd
  rw [r_th hR, bd_of sp_19, bd_of h, bd_cz hv]
  rfl
set_option maxHeartbeats 200000 in
theorem r_signE (hR : RefP ν) (x : Int32) : ∃ v, fn_M_isSign (some (40, 0, 0)) x ν = some (v, ν) := by
  unfold fn_M_isSign
  rw [r_th hR, r_gI hR, ap_ite]
  by_cases z : m_I ν (40, 0, 0) 14 = 3
  · rw [if_pos z, r_gI hR, ap_ite]
    by_cases y : m_I ν (40, 0, 0) 17 = x
    · rw [if_pos y]
      exact ⟨1, rfl⟩
    · rw [if_neg y]
      exact ⟨0, rfl⟩
  · rw [if_neg z]
    exact ⟨0, rfl⟩
def KG (x _y _z k : Nat) : Prop := (x = 40 ∧ (12 ≤ k ∧ k ≤ 19 ∨ k = 25)) ∨ (x = 45 ∧ 1508 ≤ k) ∨ (x = 48 ∧ 56 ≤ k)
/-- what becomes of a clause, on the reference's side -/
def QG {α : Type} (ν0 : mM) (u : Nat → Nat) (L : Nat) (res : Fl ⊕ (Nat × α)) (S : α → mM → Prop) (_ : Unit) (ν' : mM) : Prop := sm KG ν0 ν' ∧ (∀ p' a, res = .inr (p', a) → m_I ν' (40, 0, 0) 12 = 0 ∧ TkR ν' u L p' ∧ p' ≤ L ∧ S a ν') ∧ ∀ fl, res = .inl fl → Er ν' fl
set_option maxHeartbeats 200000 in
theorem QG_E {α : Type} {S : α → mM → Prop} {fl : Fl} (h : sm KG ν0 ν') (hE : Er ν' fl) : QG ν0 u L (.inl fl) S () ν' := ⟨h, fun p' a q => (by cases q), fun fl' q => by cases q; exact hE⟩
def EvR (ν : mM) (B : Nat → Int32) (u : Nat → Nat) (L : Nat) (c : Nat → Int32) (w : Nat → Int64) (P T M : Nat) : Prop := RefP ν ∧ RxB ν B L ∧ Byt B u L ∧ FmR ν c w ∧ Dim c P T ∧ m_I ν (40, 0, 0) 25 = nI M ∧ M < 64 ∧ m_I ν (40, 0, 0) 12 = 0
def SR (s : FS) (ν' : mM) : Prop := FmR ν' s.2.2.2.1 s.2.2.2.2 ∧ m_I ν' (40, 0, 0) 25 = nI s.2.2.1
set_option maxHeartbeats 200000 in
theorem TkR_sm {K : Nat → Nat → Nat → Nat → Prop} (h : TkR ν u L p) (hs : sm K ν ν') (hk : ∀ k, 14 ≤ k → k ≤ 19 → ¬ K 40 0 0 k) : TkR ν' u L p := by
  unfold TkR at h ⊢
  rw [sm_I hs (hk 16 (by omega) (by omega)), sm_I hs (hk 14 (by omega) (by omega)), sm_I hs (hk 15 (by omega) (by omega)), sm_I hs (hk 18 (by omega) (by omega)), sm_I hs (hk 17 (by omega) (by omega)), sm_J hs (hk 19 (by omega) (by omega))]
  exact h
set_option maxHeartbeats 200000 in
theorem r_readPerson (h : EvR ν B u L c w P T M) (hk : TkR ν u L p) (hp : p ≤ L) : m_e (fn_M_readPerson (some (40, 0, 0)) ν) (QG ν u L (gPer u L p P T M c w) SR) := by
  obtain ⟨hR, hT, hB, hF, hD, h25, hM, h0⟩ := id h
  obtain ⟨hD1, hD2, hP6, hT8⟩ := id hD
  unfold fn_M_readPerson gPer
  rw [r_th hR]
  refine e_bd (r_readNew0 (j := 0) (N := P) (mx := 6) hR hT hB hk hp h0 (by omega) (FmR_N hF hD) (by rw [hF.1 0 (by omega), hD1]) hP6 (by omega) (by omega)) ?_
  rintro v1 ν1 ⟨s1, g1, g2⟩
  have hR1 := sm_R s1 hR
  have hT1 := RxB_sm hT s1 (by omega) (by omega)
  have t1 : sm KG ν ν1 := sm_mono s1 (by unfold KG; omega)
  cases hr : pNew u L p w P T P 6 with
  | inl fl =>
    obtain ⟨rfl, hE⟩ := g2 fl hr
    obtain ⟨x1, e1⟩ := r_ageE hR1
    obtain ⟨x2, e2⟩ := r_ofE hR1
    rw [bd_of e1, bd_of (r_behindE hR1 hE x1 0 119), bd_of e2, bd_of (r_perhapsE hR1 hE x2), r_gI hR1, ap_ite, if_neg (Er_0 hE).2.1]
    exact ⟨_, _, rfl, QG_E t1 hE⟩
  | inr p1 =>
    obtain ⟨rfl, z1, k1, l1, x1⟩ := g1 p1 hr
    rw [bG_r, bd_of (r_isAge hR1 k1)]
    refine e_bd (r_behind0 (a := 0) (b := 119) hR1 hT1 hB k1 l1 z1 (isW u L p1 5) (by omega) (by omega)) ?_
    rintro v3 ν2 ⟨⟨s2, b1, b2⟩, b3, b4⟩
    have hR2 := sm_R s2 hR1
    have hT2 := RxB_sm hT1 s2 (by omega) (by omega)
    have t2 : sm KG ν ν2 := sm_tr t1 (sm_mono s2 (by unfold KG; omega))
    cases hr2 : pBeh u L p1 (isW u L p1 5) 0 119 with
    | inl fl =>
      have hE := b2 fl hr2
      obtain ⟨x2, e2⟩ := r_ofE hR2
      rw [bd_of e2, bd_of (r_perhapsE hR2 hE x2), r_gI hR2, ap_ite, if_neg (Er_0 hE).2.1]
      exact ⟨_, _, rfl, QG_E t2 hE⟩
    | inr p2 =>
      obtain ⟨z2, k2, l2⟩ := b1 p2 hr2
      have ev := b3 p2 hr2
      rw [bG_r, bd_of (r_isOf hR2 k2)]
      refine e_bd (r_perhaps0 hR2 hT2 hB k2 l2 z2 (isW u L p2 6)) ?_
      rintro v5 ν3 ⟨⟨s3, d1, -⟩, ev5⟩
      obtain ⟨z3, k3, l3⟩ := d1 _ rfl
      have hR3 := sm_R s3 hR2
      have t3 : sm KG ν ν3 := sm_tr t2 (sm_mono s3 (by unfold KG; omega))
      have f1 : FmR ν1 c (ud w P (xw u L (tE u L p))) := FmR_w (a := P) hF (sm_mono s1 (by omega)) x1
      have f3 : FmR ν3 c (ud w P (xw u L (tE u L p))) := FmR_sm (FmR_sm f1 s2 (by omega) (by omega)) s3 (by omega) (by omega)
      have f4 := FmR_upd f3 (7 + P) v3
      have f5 := FmR_upd f4 (13 + P) v5
      have f6 := FmR_upd f5 (19 + P) 1
      have e12 : m_I (m_sI (m_sI (m_sI ν3 (45, 0, 0) (1508 + (7 + P)) v3) (45, 0, 0) (1508 + (13 + P)) v5) (45, 0, 0) (1508 + (19 + P)) 1) (45, 0, 0) 1508 = nI P := by
        have := f6.1 0 (by omega)
        rw [ud_ne (by omega), ud_ne (by omega), ud_ne (by omega), hD1] at this
        exact this
      have f7 := FmR_upd f6 0 (nI (P + 1))
      have t4 : sm (fun x _ _ k => x = 45 ∧ 1508 ≤ k) ν3 (m_sI (m_sI (m_sI (m_sI ν3 (45, 0, 0) (1508 + (7 + P)) v3) (45, 0, 0) (1508 + (13 + P)) v5) (45, 0, 0) (1508 + (19 + P)) 1) (45, 0, 0) (1508 + 0) (nI (P + 1))) := sm_sI (sm_sI (sm_sI (sm_sI sm_rf _ (by omega)) _ (by omega)) _ (by omega)) _ (by omega)
      have i5 : (if v5 = 0 then (0 : Int32) else 1) = v5 := by
        rw [ev5]
        cases isW u L p2 6 <;> rfl
      have n1 : (1515 : Int32) + nI P = nI (1508 + (7 + P)) := by rw [show (1515 : Int32) = nI 1515 from rfl, nI_add]; congr 1; omega
      have n2 : (1521 : Int32) + nI P = nI (1508 + (13 + P)) := by rw [show (1521 : Int32) = nI 1521 from rfl, nI_add]; congr 1; omega
      have n3 : (1527 : Int32) + nI P = nI (1508 + (19 + P)) := by rw [show (1527 : Int32) = nI 1527 from rfl, nI_add]; congr 1; omega
      have hR4 : RefP (m_sI ν3 (45, 0, 0) (1508 + (7 + P)) v3) := hR3
      have hR5 : RefP (m_sI (m_sI ν3 (45, 0, 0) (1508 + (7 + P)) v3) (45, 0, 0) (1508 + (13 + P)) v5) := hR3
      have hR6 : RefP (m_sI (m_sI (m_sI ν3 (45, 0, 0) (1508 + (7 + P)) v3) (45, 0, 0) (1508 + (13 + P)) v5) (45, 0, 0) (1508 + (19 + P)) 1) := hR3
      have hw5 : ∀ {K : Int32 → mP Unit} {ν : mM}, m_bd (if v5 = 0 then m_rt 0 else m_rt 1) K ν = K v5 ν := fun {K ν} => by
        rw [bd_ite, bd_rt, bd_rt]
        conv => rhs; rw [← i5]
        split <;> rfl
      rw [r_gI hR3, z3, ap_ite, if_pos (show (0 : Int32) ≤ 0 by decide), r_g45 hR3, n1, r_t45 hR3 (by omega), r_g45 hR4, hw5, n2, r_t45 hR4 (by omega), r_g45 hR5, n3, r_t45 hR5 (by omega), r_g45 hR6, show (1508 : Int32) = nI 1508 from rfl, r_a45 hR6 (by omega), e12, nI_1, r_t45 hR6 (by omega)]
      refine ⟨_, _, rfl, sm_tr t3 (sm_mono t4 (by unfold KG; omega)), fun p' a q => ?_, fun fl q => (by cases q)⟩
      cases q
      refine ⟨?_, TkR_sm k3 t4 (by omega), l3, ?_, ?_⟩
      · show m_I (m_sI (m_sI (m_sI (m_sI ν3 (45, 0, 0) (1508 + (7 + P)) v3) (45, 0, 0) (1508 + (13 + P)) v5) (45, 0, 0) (1508 + (19 + P)) 1) (45, 0, 0) (1508 + 0) (nI (P + 1))) (40, 0, 0) 12 = 0
        rw [sm_I t4 (by omega), z3]
      · show FmR _ (cPer c P (tV u L (tE u L p1)) (isW u L p2 6)) _
        unfold cPer
        rw [← ev, ← ev5]
        exact f7
      · show m_I (m_sI (m_sI (m_sI (m_sI ν3 (45, 0, 0) (1508 + (7 + P)) v3) (45, 0, 0) (1508 + (13 + P)) v5) (45, 0, 0) (1508 + (19 + P)) 1) (45, 0, 0) (1508 + 0) (nI (P + 1))) (40, 0, 0) 25 = nI M
        rw [sm_I t4 (by omega), sm_I s3 (by omega), sm_I s2 (by omega), sm_I s1 (by omega), h25]
set_option maxHeartbeats 200000 in
theorem r_readThing (h : EvR ν B u L c w P T M) (hk : TkR ν u L p) (hp : p ≤ L) : m_e (fn_M_readThing (some (40, 0, 0)) ν) (QG ν u L (gThi u L p P T M c w) SR) := by
  obtain ⟨hR, hT, hB, hF, hD, h25, hM, h0⟩ := id h
  obtain ⟨hD1, hD2, hP6, hT8⟩ := id hD
  unfold fn_M_readThing gThi
  rw [r_th hR]
  refine e_bd (r_readNew0 (j := 1) (N := T) (mx := 8) hR hT hB hk hp h0 (by omega) (FmR_N hF hD) (by rw [hF.1 1 (by omega), hD2]) hT8 (by omega) (by omega)) ?_
  rintro v1 ν1 ⟨s1, g1, g2⟩
  have hR1 := sm_R s1 hR
  have hT1 := RxB_sm hT s1 (by omega) (by omega)
  have t1 : sm KG ν ν1 := sm_mono s1 (by unfold KG; omega)
  cases hr : pNew u L p w P T T 8 with
  | inl fl =>
    obtain ⟨rfl, hE⟩ := g2 fl hr
    obtain ⟨x1, e1⟩ := r_thickE hR1
    obtain ⟨x2, e2⟩ := r_coatE hR1
    rw [bd_of e1, bd_of (r_behindE hR1 hE x1 1 999), bd_of e2, bd_of (r_perhapsE hR1 hE x2), bd_ite, if_pos rfl, bd_rt, r_gI hR1, ap_ite, if_neg (Er_0 hE).2.1]
    exact ⟨_, _, rfl, QG_E t1 hE⟩
  | inr p1 =>
    obtain ⟨rfl, z1, k1, l1, x1⟩ := g1 p1 hr
    rw [bG_r, bd_of (r_isThick hR1 k1)]
    refine e_bd (r_behind0 (a := 1) (b := 999) hR1 hT1 hB k1 l1 z1 (isW u L p1 8) (by omega) (by omega)) ?_
    rintro v3 ν2 ⟨⟨s2, b1, b2⟩, b3, b4⟩
    have hR2 := sm_R s2 hR1
    have hT2 := RxB_sm hT1 s2 (by omega) (by omega)
    have t2 : sm KG ν ν2 := sm_tr t1 (sm_mono s2 (by unfold KG; omega))
    cases hr2 : pBeh u L p1 (isW u L p1 8) 1 999 with
    | inl fl =>
      have hE := b2 fl hr2
      obtain ⟨x2, e2⟩ := r_coatE hR2
      rw [bd_of e2, bd_of (r_perhapsE hR2 hE x2), bd_ite, if_pos rfl, bd_rt, r_gI hR2, ap_ite, if_neg (Er_0 hE).2.1]
      exact ⟨_, _, rfl, QG_E t2 hE⟩
    | inr p2 =>
      obtain ⟨z2, k2, l2⟩ := b1 p2 hr2
      have ev := b3 p2 hr2
      rw [bG_r, bd_of (r_isCoat hR2 k2)]
      refine e_bd (r_perhaps0 hR2 hT2 hB k2 l2 z2 (isW u L p2 9)) ?_
      rintro v5 ν3 ⟨⟨s3, d1, -⟩, ev5⟩
      obtain ⟨z3, k3, l3⟩ := d1 _ rfl
      have hR3 := sm_R s3 hR2
      have hT3 := RxB_sm hT2 s3 (by omega) (by omega)
      have t3 : sm KG ν ν3 := sm_tr t2 (sm_mono s3 (by unfold KG; omega))
      have f1 : FmR ν1 c (ud w (6 + T) (xw u L (tE u L p))) := FmR_w (a := 6 + T) hF (sm_mono s1 (by omega)) (by rw [← x1]; congr 1; omega)
      have f3 : FmR ν3 c (ud w (6 + T) (xw u L (tE u L p))) := FmR_sm (FmR_sm f1 s2 (by omega) (by omega)) s3 (by omega) (by omega)
      have e25 : m_I ν3 (40, 0, 0) 25 = nI M := by rw [sm_I s3 (by omega), sm_I s2 (by omega), sm_I s1 (by omega), h25]
      have fin : ∀ ν4 p4 ct, sm (fun x _ _ k => x = 40 ∧ 12 ≤ k ∧ k ≤ 19) ν3 ν4 → TkR ν4 u L p4 → p4 ≤ L → m_I ν4 (40, 0, 0) 12 = 0 → m_e ((m_bd (m_gI 11 12 (some (40, 0, 0))) fun v8 => if v8 ≤ 0 then m_bd (m_gR 11 20 (some (40, 0, 0))) fun v9 => m_bd (m_tI 0 v9 (1533 + nI T) v3) fun _ => m_bd (m_gR 11 20 (some (40, 0, 0))) fun v10 => m_bd (m_tI 0 v10 (1541 + nI T) (nI ct)) fun _ => m_bd (m_gR 11 20 (some (40, 0, 0))) fun v11 => m_bd (m_aI 0 v11 1509) fun v12 => m_bd (m_tI 0 v11 1509 (v12 + 1)) fun _ => m_rt () else m_rt ()) ν4) (QG ν u L (.inr (p4, (P, T + 1, M, cThi c T (tV u L (tE u L p1)) ct, ud w (6 + T) (xw u L (tE u L p))))) SR) := by
        intro ν4 p4 ct s4 k4 l4 z4
        have hR4 := sm_R s4 hR3
        have f4 := FmR_upd (FmR_sm f3 s4 (by omega) (by omega)) (25 + T) v3
        have f5 := FmR_upd f4 (33 + T) (nI ct)
        have e12 : m_I (m_sI (m_sI ν4 (45, 0, 0) (1508 + (25 + T)) v3) (45, 0, 0) (1508 + (33 + T)) (nI ct)) (45, 0, 0) 1509 = nI T := by
          have := f5.1 1 (by omega)
          rw [ud_ne (by omega), ud_ne (by omega), hD2] at this
          exact this
        have f7 := FmR_upd f5 1 (nI (T + 1))
        have t4 : sm (fun x _ _ k => x = 45 ∧ 1508 ≤ k) ν4 (m_sI (m_sI (m_sI ν4 (45, 0, 0) (1508 + (25 + T)) v3) (45, 0, 0) (1508 + (33 + T)) (nI ct)) (45, 0, 0) (1508 + 1) (nI (T + 1))) := sm_sI (sm_sI (sm_sI sm_rf _ (by omega)) _ (by omega)) _ (by omega)
        have n1 : (1533 : Int32) + nI T = nI (1508 + (25 + T)) := by rw [show (1533 : Int32) = nI 1533 from rfl, nI_add]; congr 1; omega
        have n2 : (1541 : Int32) + nI T = nI (1508 + (33 + T)) := by rw [show (1541 : Int32) = nI 1541 from rfl, nI_add]; congr 1; omega
        have hR5 : RefP (m_sI ν4 (45, 0, 0) (1508 + (25 + T)) v3) := hR4
        have hR6 : RefP (m_sI (m_sI ν4 (45, 0, 0) (1508 + (25 + T)) v3) (45, 0, 0) (1508 + (33 + T)) (nI ct)) := hR4
        rw [r_gI hR4, z4, ap_ite, if_pos (show (0 : Int32) ≤ 0 by decide), r_g45 hR4, n1, r_t45 hR4 (by omega), r_g45 hR5, n2, r_t45 hR5 (by omega), r_g45 hR6, show (1509 : Int32) = nI 1509 from rfl, r_a45 hR6 (by omega), e12, nI_1, r_t45 hR6 (by omega)]
        refine ⟨_, _, rfl, sm_tr (sm_tr t3 (sm_mono s4 (by unfold KG; omega))) (sm_mono t4 (by unfold KG; omega)), fun p' a q => ?_, fun fl q => (by cases q)⟩
        cases q
        refine ⟨?_, TkR_sm k4 t4 (by omega), l4, ?_, ?_⟩
        · show m_I (m_sI (m_sI (m_sI ν4 (45, 0, 0) (1508 + (25 + T)) v3) (45, 0, 0) (1508 + (33 + T)) (nI ct)) (45, 0, 0) (1508 + 1) (nI (T + 1))) (40, 0, 0) 12 = 0
          rw [sm_I t4 (by omega), z4]
        · show FmR _ (cThi c T (tV u L (tE u L p1)) ct) _
          unfold cThi
          rw [← ev]
          exact f7
        · show m_I (m_sI (m_sI (m_sI ν4 (45, 0, 0) (1508 + (25 + T)) v3) (45, 0, 0) (1508 + (33 + T)) (nI ct)) (45, 0, 0) (1508 + 1) (nI (T + 1))) (40, 0, 0) 25 = nI M
          rw [sm_I t4 (by omega), sm_I s4 (by omega), e25]
      rw [ev5, bd_ite]
      by_cases y : isW u L p2 9 = true
      · rw [if_pos y] at k3 l3
        rw [if_pos y, if_pos y, if_neg (by decide), bd_bd]
        refine e_bd (r_count0 (a := 0) (b := 999) hR3 hT3 hB k3 l3 z3 (by omega) (by omega)) ?_
        rintro v6 ν4 ⟨⟨s4, c1, c2⟩, c3, c4⟩
        rw [bd_rt]
        cases hr3 : pNum u L (tE u L p2) 0 999 with
        | inl fl =>
          have hE := c2 fl hr3
          have hR4 := sm_R s4 hR3
          rw [r_gI hR4, ap_ite, if_neg (Er_0 hE).2.1]
          exact ⟨_, _, rfl, QG_E (sm_tr t3 (sm_mono s4 (by unfold KG; omega))) hE⟩
        | inr p3 =>
          obtain ⟨z4, k4, l4⟩ := c1 p3 hr3
          rw [c3 p3 hr3, bG_r]
          exact fin ν4 p3 _ s4 k4 l4 z4
      · rw [if_neg y] at k3 l3
        rw [if_neg y, if_neg y, if_pos rfl, bd_rt]
        exact fin ν3 p2 0 sm_rf k3 l3 z3
end RF
