/-! Part 69zzk: what all clauses keep -/
def dfl (k : Nat) : Int32 := if k = 2 then 40 else if k = 3 then 70 else if k = 4 then 4 else 3
def ZF (P T M : Nat) (c : Nat → Int32) : Prop := Dim c P T ∧ Okc c P T ∧ M < 64 ∧ c 6 = 0 ∧ (∀ t, T ≤ t → t < 8 → c (41 + t) = 0 ∧ c (49 + t) = 0) ∧ (∀ p, P ≤ p → p < 6 → ∀ t, t < 8 → c (57 + 8 * p + t) = 0) ∧ (∀ k, 105 ≤ k → k < 377 → c k = 0) ∧ ∀ k, 2 ≤ k → k < 6 → ¬ M.testBit k = true → c k = dfl k
set_option maxHeartbeats 200000 in
theorem bG_inr {α β : Type} {r : Fl ⊕ α} {g : α → Fl ⊕ β} {y : β} (h : bG r g = .inr y) : ∃ a, r = .inr a ∧ g a = .inr y := by
  cases r with
  | inl f => cases h
  | inr a => exact ⟨a, rfl, h⟩
section PU
variable {u : Nat → Nat} {L p p' P T M : Nat} {c : Nat → Int32} {w : Nat → Int64}
set_option maxHeartbeats 200000 in
theorem tE_mono (hp : p ≤ L) : p ≤ tE u L p ∧ tE u L p ≤ L := by
  have h1 := tS_le (u := u) hp
  have h2 := tE_le (u := u) hp
  omega
set_option maxHeartbeats 200000 in
theorem fwd_gt {pr : Nat → Bool} {q : Nat} (h : q < L) (h1 : pr (u q) = true) : q < fwd pr u L q := by
  rw [fwd_go h h1]
  have := fwd_le (pr := pr) (u := u) (L := L) _ (q + 1) rfl (by omega)
  omega
set_option maxHeartbeats 200000 in
theorem tE_gt (hp : p ≤ L) (h : ¬ tK u L p = 0) : p < tE u L p := by
  have h1 := tS_le (u := u) hp
  unfold tK at h
  by_cases z : L ≤ tS u L p
  · rw [if_pos z] at h
    exact absurd rfl h
  · have h2 : tS u L p < tE u L p := by
      unfold tE
      rw [if_neg z]
      by_cases y : isLet (u (tS u L p)) = true
      · rw [if_pos y]
        exact fwd_gt (by omega) y
      · rw [if_neg y]
        by_cases x : isDig (u (tS u L p)) = true
        · rw [if_pos x]
          exact fwd_gt (by omega) x
        · rw [if_neg x]
          omega
    omega
set_option maxHeartbeats 200000 in
theorem pNum_i {a b : Nat} (h : pNum u L p a b = .inr p') : tK u L p = 2 ∧ a ≤ tV u L p ∧ tV u L p ≤ b ∧ p' = tE u L p := by
  unfold pNum at h
  by_cases z : tK u L p = 2
  · rw [if_pos z] at h
    by_cases y : a ≤ tV u L p ∧ tV u L p ≤ b
    · rw [if_pos y] at h
      cases h
      exact ⟨z, y.1, y.2, rfl⟩
    · rw [if_neg y] at h
      cases h
  · rw [if_neg z] at h
    cases h
set_option maxHeartbeats 200000 in
theorem pEnd_i (h : pEnd u L p = .inr p') : tK u L p = 3 ∧ p' = tE u L p := by
  unfold pEnd at h
  split at h
  · rename_i q
    cases h
    exact ⟨q.1, rfl⟩
  · cases h
set_option maxHeartbeats 200000 in
theorem pTold_i {N : Nat} (h : pTold u L p w N = .inr p') : p' = tE u L p ∧ ∃ j, j < N ∧ fnd w (xw u L p) N 0 = nI j := by
  obtain ⟨-, h2, h3⟩ := pName_n h
  refine ⟨h3, ?_⟩
  rcases fnd_is (w := w) (x := xw u L p) N 0 with e | ⟨j, -, hj, e⟩
  · rw [e] at h2
    exact absurd h2 (by decide)
  · exact ⟨j, by omega, e⟩
set_option maxHeartbeats 200000 in
theorem pNew_i {N mx : Nat} (h : pNew u L p w P T N mx = .inr p') : N ≠ mx ∧ p' = tE u L (tE u L p) := by
  unfold pNew at h
  by_cases z : N = mx
  · rw [if_pos z] at h
    cases h
  · rw [if_neg z] at h
    exact ⟨z, (pName_n h).2.2⟩
set_option maxHeartbeats 200000 in
theorem pBeh_i {k : Bool} {a b : Nat} (h : pBeh u L p k a b = .inr p') : a ≤ tV u L (tE u L p) ∧ tV u L (tE u L p) ≤ b ∧ p' = tE u L (tE u L p) := by
  unfold pBeh at h
  split at h
  · exact (pNum_i h).2
  · cases h
set_option maxHeartbeats 200000 in
theorem cPer_ne {k age : Nat} {of : Bool} (h1 : k ≠ 7 + P) (h2 : k ≠ 13 + P) (h3 : k ≠ 19 + P) (h4 : k ≠ 0) : cPer c P age of k = c k := by
  unfold cPer
  rw [ud_ne h4, ud_ne h3, ud_ne h2, ud_ne h1]
set_option maxHeartbeats 200000 in
theorem cThi_ne {k a b : Nat} (h1 : k ≠ 25 + T) (h2 : k ≠ 33 + T) (h3 : k ≠ 1) : cThi c T a b k = c k := by
  unfold cThi
  rw [ud_ne h3, ud_ne h2, ud_ne h1]
set_option maxHeartbeats 200000 in
theorem ZF_per {age : Nat} {of : Bool} (h : ZF P T M c) (hP : P ≠ 6) (ha : age ≤ 119) : ZF (P + 1) T M (cPer c P age of) := by
  obtain ⟨⟨d1, d2, d3, d4⟩, ⟨⟨o1, o2, o3, o4, o5⟩, o6, o7⟩, hM, h6, z1, z2, z3, z4⟩ := h
  refine ⟨⟨?_, ?_, by omega, d4⟩, ⟨⟨?_, ?_, ?_, ?_, ?_⟩, fun p hp => ?_, fun t ht => ?_⟩, hM, ?_, fun t t1 t2 => ?_, fun p p1 p2 t ht => ?_, fun k k1 k2 => ?_, fun k k1 k2 hk => ?_⟩
  · unfold cPer
    rw [ud_at]
  · rw [cPer_ne (by omega) (by omega) (by omega) (by omega), d2]
  · rw [cPer_ne (by omega) (by omega) (by omega) (by omega)]; exact o1
  · rw [cPer_ne (by omega) (by omega) (by omega) (by omega)]; exact o2
  · rw [cPer_ne (by omega) (by omega) (by omega) (by omega)]; exact o3
  · rw [cPer_ne (by omega) (by omega) (by omega) (by omega)]; exact o4
  · rw [cPer_ne (by omega) (by omega) (by omega) (by omega)]; exact o5
  · by_cases z : p = P
    · subst z
      have e1 : cPer c p age of (7 + p) = nI age := by
        unfold cPer
        rw [ud_ne (by omega), ud_ne (by omega), ud_ne (by omega), ud_at]
      have e2 : cPer c p age of (13 + p) = if of = true then 1 else 0 := by
        unfold cPer
        rw [ud_ne (by omega), ud_ne (by omega), ud_at]
      have e3 : cPer c p age of (19 + p) = 1 := by
        unfold cPer
        rw [ud_ne (by omega), ud_at]
      rw [e1, e2, e3]
      refine ⟨⟨⟨age, by omega, rfl⟩, ?_, ⟨1, by omega, rfl⟩, .inr ⟨age, by omega, rfl⟩⟩, fun t ht => ?_⟩
      · cases of
        · exact ⟨0, by omega, rfl⟩
        · exact ⟨1, by omega, rfl⟩
      · rw [cPer_ne (by omega) (by omega) (by omega) (by omega), z2 p (by omega) (by omega) t ht]
        exact ⟨⟨0, by omega, rfl⟩, fun _ => rfl⟩
    · obtain ⟨q1, q2⟩ := o6 p (by omega)
      refine ⟨?_, fun t ht => ?_⟩
      · rw [cPer_ne (by omega) (by omega) (by omega) (by omega), cPer_ne (by omega) (by omega) (by omega) (by omega), cPer_ne (by omega) (by omega) (by omega) (by omega)]
        exact q1
      · rw [cPer_ne (by omega) (by omega) (by omega) (by omega)]
        exact q2 t ht
  · rw [cPer_ne (by omega) (by omega) (by omega) (by omega), cPer_ne (by omega) (by omega) (by omega) (by omega), cPer_ne (by omega) (by omega) (by omega) (by omega), cPer_ne (by omega) (by omega) (by omega) (by omega)]
    exact o7 t ht
  · rw [cPer_ne (by omega) (by omega) (by omega) (by omega), h6]
  · rw [cPer_ne (by omega) (by omega) (by omega) (by omega), cPer_ne (by omega) (by omega) (by omega) (by omega)]
    exact z1 t t1 t2
  · rw [cPer_ne (by omega) (by omega) (by omega) (by omega)]
    exact z2 p (by omega) p2 t ht
  · rw [cPer_ne (by omega) (by omega) (by omega) (by omega)]
    exact z3 k k1 k2
  · rw [cPer_ne (by omega) (by omega) (by omega) (by omega)]
    exact z4 k k1 k2 hk
set_option maxHeartbeats 200000 in
theorem ZF_thi {a b : Nat} (h : ZF P T M c) (hT : T ≠ 8) (ha : 1 ≤ a) (ha' : a ≤ 999) (hb : b ≤ 999) : ZF P (T + 1) M (cThi c T a b) := by
  obtain ⟨⟨d1, d2, d3, d4⟩, ⟨⟨o1, o2, o3, o4, o5⟩, o6, o7⟩, hM, h6, z1, z2, z3, z4⟩ := h
  refine ⟨⟨?_, ?_, d3, by omega⟩, ⟨⟨?_, ?_, ?_, ?_, ?_⟩, fun p hp => ?_, fun t ht => ?_⟩, hM, ?_, fun t t1 t2 => ?_, fun p p1 p2 t ht => ?_, fun k k1 k2 => ?_, fun k k1 k2 hk => ?_⟩
  · rw [cThi_ne (by omega) (by omega) (by omega), d1]
  · unfold cThi
    rw [ud_at]
  · rw [cThi_ne (by omega) (by omega) (by omega)]; exact o1
  · rw [cThi_ne (by omega) (by omega) (by omega)]; exact o2
  · rw [cThi_ne (by omega) (by omega) (by omega)]; exact o3
  · rw [cThi_ne (by omega) (by omega) (by omega)]; exact o4
  · rw [cThi_ne (by omega) (by omega) (by omega)]; exact o5
  · obtain ⟨q1, q2⟩ := o6 p hp
    refine ⟨?_, fun t ht => ?_⟩
    · rw [cThi_ne (by omega) (by omega) (by omega), cThi_ne (by omega) (by omega) (by omega), cThi_ne (by omega) (by omega) (by omega)]
      exact q1
    · rw [cThi_ne (by omega) (by omega) (by omega)]
      exact ⟨(q2 t ht).1, fun k => (q2 t ht).2 (by omega)⟩
  · by_cases z : t = T
    · subst z
      have e1 : cThi c t a b (25 + t) = nI a := by
        unfold cThi
        rw [ud_ne (by omega), ud_ne (by omega), ud_at]
      have e2 : cThi c t a b (33 + t) = nI b := by
        unfold cThi
        rw [ud_ne (by omega), ud_at]
      rw [e1, e2, cThi_ne (by omega) (by omega) (by omega), cThi_ne (by omega) (by omega) (by omega), (z1 t (by omega) (by omega)).1, (z1 t (by omega) (by omega)).2]
      exact ⟨⟨a, ha, ha', rfl⟩, ⟨b, hb, rfl⟩, ⟨0, by omega, rfl⟩, ⟨0, by omega, rfl⟩⟩
    · rw [cThi_ne (by omega) (by omega) (by omega), cThi_ne (by omega) (by omega) (by omega), cThi_ne (by omega) (by omega) (by omega), cThi_ne (by omega) (by omega) (by omega)]
      exact o7 t (by omega)
  · rw [cThi_ne (by omega) (by omega) (by omega), h6]
  · rw [cThi_ne (by omega) (by omega) (by omega), cThi_ne (by omega) (by omega) (by omega)]
    exact z1 t (by omega) t2
  · rw [cThi_ne (by omega) (by omega) (by omega)]
    exact z2 p p1 p2 t ht
  · rw [cThi_ne (by omega) (by omega) (by omega)]
    exact z3 k k1 k2
  · rw [cThi_ne (by omega) (by omega) (by omega)]
    exact z4 k k1 k2 hk
set_option maxHeartbeats 200000 in
theorem ZF_lov {i j v : Nat} (h : ZF P T M c) (hj : j < P) (hi : i < T) (hv : v ≤ 9) : ZF P T M (ud c (57 + 8 * j + i) (nI v)) := by
  obtain ⟨⟨d1, d2, d3, d4⟩, ⟨⟨o1, o2, o3, o4, o5⟩, o6, o7⟩, hM, h6, z1, z2, z3, z4⟩ := h
  refine ⟨⟨?_, ?_, d3, d4⟩, ⟨⟨?_, ?_, ?_, ?_, ?_⟩, fun p hp => ?_, fun t ht => ?_⟩, hM, ?_, fun t t1 t2 => ?_, fun p p1 p2 t ht => ?_, fun k k1 k2 => ?_, fun k k1 k2 hk => ?_⟩
  · rw [ud_ne (by omega), d1]
  · rw [ud_ne (by omega), d2]
  · rw [ud_ne (by omega)]; exact o1
  · rw [ud_ne (by omega)]; exact o2
  · rw [ud_ne (by omega)]; exact o3
  · rw [ud_ne (by omega)]; exact o4
  · rw [ud_ne (by omega)]; exact o5
  · obtain ⟨q1, q2⟩ := o6 p hp
    refine ⟨?_, fun t ht => ?_⟩
    · rw [ud_ne (by omega), ud_ne (by omega), ud_ne (by omega)]
      exact q1
    · by_cases z : p = j ∧ t = i
      · rw [z.1, z.2, ud_at]
        exact ⟨⟨v, hv, rfl⟩, fun k => by omega⟩
      · rw [ud_ne (by omega)]
        exact q2 t ht
  · rw [ud_ne (by omega), ud_ne (by omega), ud_ne (by omega), ud_ne (by omega)]
    exact o7 t ht
  · rw [ud_ne (by omega), h6]
  · rw [ud_ne (by omega), ud_ne (by omega)]
    exact z1 t t1 t2
  · rw [ud_ne (by omega)]
    exact z2 p p1 p2 t ht
  · rw [ud_ne (by omega)]
    exact z3 k k1 k2
  · rw [ud_ne (by omega)]
    exact z4 k k1 k2 hk
set_option maxHeartbeats 200000 in
theorem ZF_rul {j v : Nat} (h : ZF P T M c) (hj : 2 ≤ j) (hj6 : j < 6) (hv : (j = 2 ∧ v ≤ 99) ∨ (j = 3 ∧ 1 ≤ v ∧ v ≤ 120) ∨ (j = 4 ∧ v ≤ 9) ∨ (j = 5 ∧ v ≤ 99)) : ZF P T (M ||| 2 ^ j) (ud c j (nI v)) := by
  obtain ⟨⟨d1, d2, d3, d4⟩, ⟨⟨o1, o2, o3, o4, o5⟩, o6, o7⟩, hM, h6, z1, z2, z3, z4⟩ := h
  refine ⟨⟨?_, ?_, d3, d4⟩, ⟨⟨?_, ?_, ?_, ?_, ?_⟩, fun p hp => ?_, fun t ht => ?_⟩, (or_n M hM j hj6).2, ?_, fun t t1 t2 => ?_, fun p p1 p2 t ht => ?_, fun k k1 k2 => ?_, fun k k1 k2 hk => ?_⟩
  · rw [ud_ne (by omega), d1]
  · rw [ud_ne (by omega), d2]
  · by_cases z : j = 2
    · subst z
      rw [ud_at]
      exact ⟨v, by omega, rfl⟩
    · rw [ud_ne (by omega)]; exact o1
  · by_cases z : j = 3
    · subst z
      rw [ud_at]
      exact ⟨v, by omega, by omega, rfl⟩
    · rw [ud_ne (by omega)]; exact o2
  · by_cases z : j = 4
    · subst z
      rw [ud_at]
      exact ⟨v, by omega, rfl⟩
    · rw [ud_ne (by omega)]; exact o3
  · by_cases z : j = 5
    · subst z
      rw [ud_at]
      exact ⟨v, by omega, rfl⟩
    · rw [ud_ne (by omega)]; exact o4
  · rw [ud_ne (by omega)]; exact o5
  · obtain ⟨q1, q2⟩ := o6 p hp
    refine ⟨?_, fun t ht => ?_⟩
    · rw [ud_ne (by omega), ud_ne (by omega), ud_ne (by omega)]
      exact q1
    · rw [ud_ne (by omega)]
      exact q2 t ht
  · rw [ud_ne (by omega), ud_ne (by omega), ud_ne (by omega), ud_ne (by omega)]
    exact o7 t ht
  · rw [ud_ne (by omega), h6]
  · rw [ud_ne (by omega), ud_ne (by omega)]
    exact z1 t t1 t2
  · rw [ud_ne (by omega)]
    exact z2 p p1 p2 t ht
  · rw [ud_ne (by omega)]
    exact z3 k k1 k2
  · by_cases z : k = j
    · subst z
      exact absurd (by rw [Nat.testBit_or, Nat.testBit_two_pow_self, Bool.or_true]) hk
    · rw [ud_ne z]
      refine z4 k k1 k2 (fun q => hk ?_)
      rw [Nat.testBit_or, q, Bool.true_or]
def ZS (s : FS) : Prop := ZF s.1 s.2.1 s.2.2.1 s.2.2.2.1
set_option maxHeartbeats 200000 in
theorem gRul_Z {j a b : Nat} {s : FS} (h : ZF P T M c) (hp : p ≤ L) (hj : 2 ≤ j) (hj6 : j < 6) (hv : ∀ v, a ≤ v → v ≤ b → (j = 2 ∧ v ≤ 99) ∨ (j = 3 ∧ 1 ≤ v ∧ v ≤ 120) ∨ (j = 4 ∧ v ≤ 9) ∨ (j = 5 ∧ v ≤ 99)) (he : gRul u L p P T M c w j a b = .inr (p', s)) : tE u L p ≤ p' ∧ p' ≤ L ∧ ZS s := by
  obtain ⟨p1, e1, e2⟩ := bG_inr he
  cases e2
  unfold pOnce at e1
  split at e1
  · cases e1
  · obtain ⟨n1, n2, n3, n4⟩ := pNum_i e1
    have m1 := tE_mono (u := u) hp
    have m2 := tE_mono (u := u) (p := tE u L p) m1.2
    exact ⟨by omega, by omega, ZF_rul h hj hj6 (hv _ n2 n3)⟩
set_option maxHeartbeats 200000 in
theorem gCl_Z {s : FS} (h : ZF P T M c) (hp : p ≤ L) (he : gCl u L p P T M c w = .inr (p', s)) : p < p' ∧ p' ≤ L ∧ ZS s := by
  have m1 := tE_mono (u := u) hp
  have m2 := tE_mono (u := u) (p := tE u L p) m1.2
  have hne : ∀ {j : Nat}, isW u L p j = true → p < tE u L p := fun q => tE_gt hp (fun e => by
    rw [isW_K q] at e
    exact absurd e (by decide))
  have key : ∀ {j : Nat}, isW u L p j = true → tE u L p ≤ p' ∧ p' ≤ L ∧ ZS s → p < p' ∧ p' ≤ L ∧ ZS s := fun q h => ⟨by have := hne q; omega, h.2⟩
  unfold gCl at he
  by_cases h0 : isW u L p 0 = true
  · rw [if_pos h0] at he
    obtain ⟨p1, e1, he⟩ := bG_inr he
    obtain ⟨p2, e2, he⟩ := bG_inr he
    obtain ⟨n1, rfl⟩ := pNew_i e1
    obtain ⟨n2, n3, rfl⟩ := pBeh_i e2
    have m3 := tE_mono (u := u) (p := tE u L (tE u L p)) m2.2
    have m4 := tE_mono (u := u) (p := tE u L (tE u L (tE u L p))) m3.2
    have m5 := tE_mono (u := u) (p := tE u L (tE u L (tE u L (tE u L p)))) m4.2
    cases he
    refine key h0 ⟨?_, ?_, ZF_per h n1 n3⟩
    · split <;> omega
    · split <;> omega
  rw [if_neg h0] at he
  by_cases h7 : isW u L p 7 = true
  · rw [if_pos h7] at he
    obtain ⟨p1, e1, he⟩ := bG_inr he
    obtain ⟨p2, e2, he⟩ := bG_inr he
    obtain ⟨n1, rfl⟩ := pNew_i e1
    obtain ⟨n2, n3, rfl⟩ := pBeh_i e2
    have m3 := tE_mono (u := u) (p := tE u L (tE u L p)) m2.2
    have m4 := tE_mono (u := u) (p := tE u L (tE u L (tE u L p))) m3.2
    have m5 := tE_mono (u := u) (p := tE u L (tE u L (tE u L (tE u L p)))) m4.2
    have m6 := tE_mono (u := u) (p := tE u L (tE u L (tE u L (tE u L (tE u L p))))) m5.2
    split at he
    · obtain ⟨p3, e3, he⟩ := bG_inr he
      obtain ⟨k1, k2, k3, rfl⟩ := pNum_i e3
      cases he
      exact key h7 ⟨by omega, by omega, ZF_thi h n1 n2 n3 k3⟩
    · cases he
      exact key h7 ⟨by omega, by omega, ZF_thi h n1 n2 n3 (by omega)⟩
  rw [if_neg h7] at he
  by_cases h10 : isW u L p 10 = true
  · rw [if_pos h10] at he
    obtain ⟨p1, e1, he⟩ := bG_inr he
    obtain ⟨p2, e2, he⟩ := bG_inr he
    obtain ⟨p3, e3, he⟩ := bG_inr he
    obtain ⟨rfl, j, hj, ej⟩ := pTold_i e1
    obtain ⟨rfl, i, hi, ei⟩ := pTold_i e2
    obtain ⟨k1, k2, k3, rfl⟩ := pNum_i e3
    have m3 := tE_mono (u := u) (p := tE u L (tE u L p)) m2.2
    have m4 := tE_mono (u := u) (p := tE u L (tE u L (tE u L p))) m3.2
    cases he
    refine key h10 ⟨by omega, by omega, ?_⟩
    have hP := h.1.2.2.1
    have hT := h.1.2.2.2
    show ZF P T M (ud c (57 + 8 * iN (fnd w (xw u L (tE u L p)) P 0) + iN (fnd (fun i => w (6 + i)) (xw u L (tE u L (tE u L p))) T 0)) (nI (tV u L (tE u L (tE u L (tE u L p))))))
    rw [ej, ei, iN_n (by omega), iN_n (by omega)]
    exact ZF_lov h hj hi k3
  rw [if_neg h10] at he
  by_cases h1 : isW u L p 1 = true
  · rw [if_pos h1] at he
    exact key h1 (gRul_Z h hp (by omega) (by omega) (fun v _ _ => by omega) he)
  rw [if_neg h1] at he
  by_cases h2 : isW u L p 2 = true
  · rw [if_pos h2] at he
    exact key h2 (gRul_Z h hp (by omega) (by omega) (fun v _ _ => by omega) he)
  rw [if_neg h2] at he
  by_cases h3 : isW u L p 3 = true
  · rw [if_pos h3] at he
    exact key h3 (gRul_Z h hp (by omega) (by omega) (fun v _ _ => by omega) he)
  rw [if_neg h3] at he
  by_cases h4 : isW u L p 4 = true
  · rw [if_pos h4] at he
    exact key h4 (gRul_Z h hp (by omega) (by omega) (fun v _ _ => by omega) he)
  rw [if_neg h4] at he
  cases he
set_option maxHeartbeats 200000 in
theorem gE_Z {s : FS} (h : ZF P T M c) (hp : p ≤ L) (he : bG (gCl u L p P T M c w) (wE u L) = .inr (p', s)) : p < p' ∧ p' ≤ L ∧ ZS s := by
  obtain ⟨⟨p1, s1⟩, e1, e2⟩ := bG_inr he
  obtain ⟨p2, e3, e4⟩ := bG_inr e2
  cases e4
  obtain ⟨z1, z2, z3⟩ := gCl_Z h hp e1
  obtain ⟨-, rfl⟩ := pEnd_i e3
  have := tE_mono (u := u) z2
  exact ⟨by show p < tE u L p1; omega, this.2, z3⟩
/-- all clauses -/
def gIt (u : Nat → Nat) (L : Nat) : Nat → Nat × FS → Fl ⊕ (Nat × FS)
  | 0, q => .inr q
  | n + 1, q => if tK u L q.1 = 0 then .inr q else bG (bG (gCl u L q.1 q.2.1 q.2.2.1 q.2.2.2.1 q.2.2.2.2.1 q.2.2.2.2.2) (wE u L)) (gIt u L n)
set_option maxHeartbeats 200000 in
theorem gIt_Z : ∀ n (q q' : Nat × FS), ZS q.2 → q.1 ≤ L → gIt u L n q = .inr q' → ZS q'.2
  | 0, q, q', h, hp, he => by
    cases he
    exact h
  | n + 1, q, q', h, hp, he => by
    unfold gIt at he
    split at he
    · cases he
      exact h
    · obtain ⟨⟨p1, s1⟩, e1, e2⟩ := bG_inr he
      obtain ⟨z1, z2, z3⟩ := gE_Z h hp e1
      exact gIt_Z n (p1, s1) q' z3 z2 e2
end PU
