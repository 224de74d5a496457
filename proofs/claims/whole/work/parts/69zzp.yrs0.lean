/-! Part 69zzp: years as lines -/
/-- a step: its kind as the class has it, person, thing, much -/
abbrev Row : Type := Nat × Nat × Nat × Nat
/-- how many steps, which, where they end, which are open -/
abbrev YS : Type := Nat × (Nat → Row) × (Nat → Nat) × List Nat
def kdN (u : Nat → Nat) (L p : Nat) : Nat := if isW u L p 11 = true then 0 else if isW u L p 12 = true then 1 else if isW u L p 10 = true then 2 else if isW u L p 3 = true then 3 else if isW u L p 9 = true then 4 else if isW u L p 13 = true then 5 else if isW u L p 14 = true then 6 else if isW u L p 15 = true then 9 else if isW u L p 18 = true then 8 else if isW u L p 20 = true then 7 else 99
/-- the reference's number of a kind -/
def rk (k : Nat) : Nat := if k = 7 then 9 else if 9 ≤ k then 7 else k
def uP (k : Nat) : Prop := k = 2 ∨ k = 10
def uT (k : Nat) : Prop := k = 1 ∨ k = 2 ∨ k = 4 ∨ k = 5 ∨ k = 9 ∨ 11 ≤ k
def uM (k : Nat) : Prop := k = 0 ∨ k = 2 ∨ k = 3 ∨ k = 4 ∨ k = 8 ∨ 11 ≤ k
def RwOk (r : Row) (P T : Nat) : Prop := r.1 ≤ 13 ∧ (uP r.1 → r.2.1 < P) ∧ (uT r.1 → r.2.2.1 < T) ∧ (r.1 = 0 → 1 ≤ r.2.2.2 ∧ r.2.2.2 ≤ 20) ∧ (r.1 = 2 ∨ r.1 = 3 → r.2.2.2 ≤ 9) ∧ (r.1 = 4 ∨ r.1 = 8 → 1 ≤ r.2.2.2 ∧ r.2.2.2 ≤ 99) ∧ (11 ≤ r.1 → r.2.2.2 ≤ 999)
def pCmp (u : Nat → Nat) (L p : Nat) : Fl ⊕ Nat := if tK u L p = 3 ∧ u (tS u L p) ≠ 59 then .inr (tE u L p) else .inl (am u L p)
def kCmp (u : Nat → Nat) (L p : Nat) : Nat := if u (tS u L p) = 60 then 11 else if u (tS u L p) = 62 then 12 else 13
def iF (u : Nat → Nat) (L p : Nat) (w : Nat → Int64) (N : Nat) : Nat := iN (fnd w (xw u L p) N 0)
/-- the names of things -/
def wT (w : Nat → Int64) (i : Nat) : Int64 := w (6 + i)
/-- what stands behind a step's word -/
def gRow (u : Nat → Nat) (L : Nat) (w : Nat → Int64) (P T k p : Nat) : Fl ⊕ (Nat × Row) :=
  if k = 0 then bG (pNum u L p 1 20) fun p1 => .inr (p1, (0, 0, 0, tV u L p))
  else if k = 1 then bG (pTold u L p (wT w) T) fun p1 => .inr (p1, (1, 0, iF u L p (wT w) T, 0))
  else if k = 2 then bG (pTold u L p w P) fun p1 => bG (pTold u L p1 (wT w) T) fun p2 => bG (pNum u L p2 0 9) fun p3 => .inr (p3, (2, iF u L p w P, iF u L p1 (wT w) T, tV u L p2))
  else if k = 3 then bG (pNum u L p 0 9) fun p1 => .inr (p1, (3, 0, 0, tV u L p))
  else if k = 4 then bG (pTold u L p (wT w) T) fun p1 => bG (pNum u L p1 1 99) fun p2 => .inr (p2, (4, 0, iF u L p (wT w) T, tV u L p1))
  else if k = 5 then bG (pTold u L p (wT w) T) fun p1 => .inr (p1, (5, 0, iF u L p (wT w) T, 0))
  else if k = 8 then bG (pNum u L p 1 99) fun p1 => .inr (p1, (8, 0, 0, tV u L p))
  else if k = 9 then
    if isW u L p 16 = true then bG (pTold u L (tE u L p) (wT w) T) fun p1 => .inr (p1, (9, 0, iF u L (tE u L p) (wT w) T, 0))
    else if isW u L p 1 = true then bG (pTold u L (tE u L p) w P) fun p1 => .inr (p1, (10, iF u L (tE u L p) w P, 0, 0))
    else if isW u L p 17 = true then bG (pTold u L (tE u L p) (wT w) T) fun p1 => bG (pCmp u L p1) fun p2 => bG (pNum u L p2 0 999) fun p3 => .inr (p3, (kCmp u L p1, 0, iF u L (tE u L p) (wT w) T, tV u L p2))
    else .inl (am u L p)
  else .inr (p, (k, 0, 0, 0))
/-- a step's line, but for its end sign -/
def yHd (u : Nat → Nat) (L : Nat) (w : Nat → Int64) (P T p : Nat) (y : YS) : Fl ⊕ (Nat × YS) :=
  if kdN u L p = 99 then .inl (am u L p) else if y.1 = 30 then .inl (6, tS u L p) else if 8 ≤ kdN u L p ∧ 3 ≤ y.2.2.2.length then .inl (7, tS u L p)
  else bG (gRow u L w P T (kdN u L p) (tE u L p)) fun q => .inr (q.1, (y.1 + 1, ud y.2.1 y.1 q.2, if 8 ≤ kdN u L p then y.2.2.1 else ud y.2.2.1 y.1 (y.1 + 1), if 8 ≤ kdN u L p then y.1 :: y.2.2.2 else y.2.2.2))
/-- an end, but for its sign -/
def yCl (u : Nat → Nat) (L p : Nat) (y : YS) : Fl ⊕ (Nat × YS) := match y.2.2.2 with
  | [] => .inl (am u L p)
  | o :: l => .inr (tE u L p, (y.1, y.2.1, ud y.2.2.1 o y.1, l))
def yE (u : Nat → Nat) (L : Nat) (q : Nat × YS) : Fl ⊕ (Nat × YS) := bG (pEnd u L q.1) fun p' => .inr (p', q.2)
def yLn (u : Nat → Nat) (L : Nat) (w : Nat → Int64) (P T p : Nat) (y : YS) : Fl ⊕ (Nat × YS) := bG (if isW u L p 19 = true then yCl u L p y else yHd u L w P T p y) (yE u L)
def yIt (u : Nat → Nat) (L : Nat) (w : Nat → Int64) (P T : Nat) : Nat → Nat × YS → Fl ⊕ (Nat × YS)
  | 0, q => .inr q
  | n + 1, q => if tK u L q.1 = 0 ∧ q.2.2.2.2 = [] then .inr q else bG (yLn u L w P T q.1 q.2) (yIt u L w P T n)
def Srt : List Nat → Nat → Prop
  | [], _ => True
  | o :: l, b => o < b ∧ Srt l o
set_option maxHeartbeats 200000 in
theorem Srt_mono : ∀ {l : List Nat} {a b : Nat}, a ≤ b → Srt l a → Srt l b
  | [], _, _, _, _ => trivial
  | _ :: _, _, _, h, q => ⟨by have := q.1; omega, q.2⟩
set_option maxHeartbeats 200000 in
theorem Srt_lt : ∀ {l : List Nat} {b i : Nat}, Srt l b → i ∈ l → i < b
  | o :: l, b, i, h, q => by
    rcases List.mem_cons.mp q with rfl | q
    · exact h.1
    · have := Srt_lt h.2 q
      have := h.1
      omega
def YI (y : YS) (P T : Nat) : Prop := y.1 ≤ 30 ∧ Srt y.2.2.2 y.1 ∧ y.2.2.2.length ≤ 3 ∧ (∀ i, i < y.1 → RwOk (y.2.1 i) P T) ∧ ∀ i, i < y.1 → i ∉ y.2.2.2 → i < y.2.2.1 i ∧ y.2.2.1 i ≤ y.1
section YP
variable {u : Nat → Nat} {L p p' P T : Nat} {w : Nat → Int64} {y y' : YS}
set_option maxHeartbeats 200000 in
theorem pTold_f {N : Nat} (hN : N < 2 ^ 31) (h : pTold u L p w N = .inr p') : p' = tE u L p ∧ iF u L p w N < N ∧ fnd w (xw u L p) N 0 = nI (iF u L p w N) := by
  obtain ⟨h1, j, hj, e⟩ := pTold_i h
  have : iF u L p w N = j := by
    unfold iF
    rw [e, iN_n (by omega)]
  rw [this]
  exact ⟨h1, hj, e⟩
set_option maxHeartbeats 200000 in
theorem pCmp_i (h : pCmp u L p = .inr p') : tK u L p = 3 ∧ u (tS u L p) ≠ 59 ∧ p' = tE u L p := by
  unfold pCmp at h
  split at h
  · rename_i q
    cases h
    exact ⟨q.1, q.2, rfl⟩
  · cases h
set_option maxHeartbeats 200000 in
theorem kdN_K (h : kdN u L p ≠ 99) : tK u L p = 1 := by
  unfold kdN at h
  repeat' split at h
  all_goals first | (rename_i q; exact isW_K q) | exact absurd rfl h
set_option maxHeartbeats 200000 in
theorem kdN_le : kdN u L p = 99 ∨ kdN u L p ≤ 9 := by
  unfold kdN
  repeat' split
  all_goals omega
set_option maxHeartbeats 200000 in
theorem kCmp_b : 11 ≤ kCmp u L p ∧ kCmp u L p ≤ 13 := by
  unfold kCmp
  repeat' split
  all_goals omega
set_option maxHeartbeats 200000 in
theorem gRow_i {k : Nat} {r : Row} (hk : k ≤ 9) (hP : P ≤ 6) (hT : T ≤ 8) (hp : p ≤ L) (h : gRow u L w P T k p = .inr (p', r)) : p ≤ p' ∧ p' ≤ L ∧ RwOk r P T ∧ (k ≤ 8 → r.1 = k) ∧ (k = 9 → 9 ≤ r.1) := by
  have m1 := tE_mono (u := u) hp
  have m2 := tE_mono (u := u) (p := tE u L p) m1.2
  have m3 := tE_mono (u := u) (p := tE u L (tE u L p)) m2.2
  have m4 := tE_mono (u := u) (p := tE u L (tE u L (tE u L p))) m3.2
  unfold gRow at h
  by_cases h0 : k = 0
  · rw [if_pos h0] at h
    obtain ⟨p1, e1, h⟩ := bG_inr h
    obtain ⟨-, n1, n2, rfl⟩ := pNum_i e1
    cases h
    refine ⟨m1.1, m1.2, ?_, by omega, by omega⟩
    unfold RwOk uP uT
    dsimp only
    omega
  rw [if_neg h0] at h
  by_cases h1 : k = 1
  · rw [if_pos h1] at h
    obtain ⟨p1, e1, h⟩ := bG_inr h
    obtain ⟨rfl, n1, -⟩ := pTold_f (by omega) e1
    cases h
    refine ⟨m1.1, m1.2, ?_, by omega, by omega⟩
    unfold RwOk uP uT
    dsimp only
    omega
  rw [if_neg h1] at h
  by_cases h2 : k = 2
  · rw [if_pos h2] at h
    obtain ⟨p1, e1, h⟩ := bG_inr h
    obtain ⟨p2, e2, h⟩ := bG_inr h
    obtain ⟨p3, e3, h⟩ := bG_inr h
    obtain ⟨rfl, n1, -⟩ := pTold_f (by omega) e1
    obtain ⟨rfl, n2, -⟩ := pTold_f (by omega) e2
    obtain ⟨-, n3, n4, rfl⟩ := pNum_i e3
    cases h
    refine ⟨by omega, by omega, ?_, by omega, by omega⟩
    unfold RwOk uP uT
    dsimp only
    omega
  rw [if_neg h2] at h
  by_cases h3 : k = 3
  · rw [if_pos h3] at h
    obtain ⟨p1, e1, h⟩ := bG_inr h
    obtain ⟨-, n1, n2, rfl⟩ := pNum_i e1
    cases h
    refine ⟨m1.1, m1.2, ?_, by omega, by omega⟩
    unfold RwOk uP uT
    dsimp only
    omega
  rw [if_neg h3] at h
  by_cases h4 : k = 4
  · rw [if_pos h4] at h
    obtain ⟨p1, e1, h⟩ := bG_inr h
    obtain ⟨p2, e2, h⟩ := bG_inr h
    obtain ⟨rfl, n1, -⟩ := pTold_f (by omega) e1
    obtain ⟨-, n2, n3, rfl⟩ := pNum_i e2
    cases h
    refine ⟨by omega, by omega, ?_, by omega, by omega⟩
    unfold RwOk uP uT
    dsimp only
    omega
  rw [if_neg h4] at h
  by_cases h5 : k = 5
  · rw [if_pos h5] at h
    obtain ⟨p1, e1, h⟩ := bG_inr h
    obtain ⟨rfl, n1, -⟩ := pTold_f (by omega) e1
    cases h
    refine ⟨m1.1, m1.2, ?_, by omega, by omega⟩
    unfold RwOk uP uT
    dsimp only
    omega
  rw [if_neg h5] at h
  by_cases h8 : k = 8
  · rw [if_pos h8] at h
    obtain ⟨p1, e1, h⟩ := bG_inr h
    obtain ⟨-, n1, n2, rfl⟩ := pNum_i e1
    cases h
    refine ⟨m1.1, m1.2, ?_, by omega, by omega⟩
    unfold RwOk uP uT
    dsimp only
    omega
  rw [if_neg h8] at h
  by_cases h9 : k = 9
  · rw [if_pos h9] at h
    by_cases j1 : isW u L p 16 = true
    · rw [if_pos j1] at h
      obtain ⟨p1, e1, h⟩ := bG_inr h
      obtain ⟨rfl, n1, -⟩ := pTold_f (by omega) e1
      cases h
      refine ⟨by omega, by omega, ?_, by omega, fun _ => by dsimp only; omega⟩
      unfold RwOk uP uT
      dsimp only
      omega
    rw [if_neg j1] at h
    by_cases j2 : isW u L p 1 = true
    · rw [if_pos j2] at h
      obtain ⟨p1, e1, h⟩ := bG_inr h
      obtain ⟨rfl, n1, -⟩ := pTold_f (by omega) e1
      cases h
      refine ⟨by omega, by omega, ?_, by omega, fun _ => by dsimp only; omega⟩
      unfold RwOk uP uT
      dsimp only
      omega
    rw [if_neg j2] at h
    by_cases j3 : isW u L p 17 = true
    · rw [if_pos j3] at h
      obtain ⟨p1, e1, h⟩ := bG_inr h
      obtain ⟨p2, e2, h⟩ := bG_inr h
      obtain ⟨p3, e3, h⟩ := bG_inr h
      obtain ⟨rfl, n1, -⟩ := pTold_f (by omega) e1
      obtain ⟨-, -, rfl⟩ := pCmp_i e2
      obtain ⟨-, n3, n4, rfl⟩ := pNum_i e3
      have hb := kCmp_b (u := u) (L := L) (p := tE u L (tE u L p))
      cases h
      refine ⟨by omega, by omega, ?_, by omega, fun _ => by dsimp only; omega⟩
      unfold RwOk uP uT
      dsimp only
      omega
    rw [if_neg j3] at h
    cases h
  rw [if_neg h9] at h
  cases h
  refine ⟨Nat.le_refl _, hp, ?_, fun _ => rfl, by omega⟩
  unfold RwOk uP uT
  dsimp only
  omega
set_option maxHeartbeats 200000 in
theorem yHd_Z (hP : P ≤ 6) (hT : T ≤ 8) (hp : p ≤ L) (hy : YI y P T) (h : yHd u L w P T p y = .inr (p', y')) : p < p' ∧ p' ≤ L ∧ YI y' P T := by
  obtain ⟨y1, y2, y3, y4, y5⟩ := hy
  have hkl := kdN_le (u := u) (L := L) (p := p)
  unfold yHd at h
  by_cases h0 : kdN u L p = 99
  · rw [if_pos h0] at h
    cases h
  rw [if_neg h0] at h
  by_cases h1 : y.1 = 30
  · rw [if_pos h1] at h
    cases h
  rw [if_neg h1] at h
  by_cases h2 : 8 ≤ kdN u L p ∧ 3 ≤ y.2.2.2.length
  · rw [if_pos h2] at h
    cases h
  rw [if_neg h2] at h
  obtain ⟨⟨p1, r⟩, e1, h⟩ := bG_inr h
  have g0 := tE_gt (u := u) hp (by rw [kdN_K h0]; decide)
  obtain ⟨g1, g2, g3, -, -⟩ := gRow_i (by omega) hP hT (tE_mono hp).2 e1
  cases h
  refine ⟨by show p < p1; omega, g2, by show y.1 + 1 ≤ 30; omega, ?_, ?_, fun i hi => ?_, fun i hi hn => ?_⟩
  · show Srt (if 8 ≤ kdN u L p then y.1 :: y.2.2.2 else y.2.2.2) (y.1 + 1)
    split
    · exact ⟨Nat.lt_succ_self _, y2⟩
    · exact Srt_mono (Nat.le_succ _) y2
  · show (if 8 ≤ kdN u L p then y.1 :: y.2.2.2 else y.2.2.2).length ≤ 3
    split
    · show y.2.2.2.length + 1 ≤ 3
      omega
    · exact y3
  · show RwOk (ud y.2.1 y.1 r i) P T
    have hi' : i < y.1 + 1 := hi
    by_cases z : i = y.1
    · rw [z, ud_at]
      exact g3
    · rw [ud_ne z]
      exact y4 i (by omega)
  · have hi' : i < y.1 + 1 := hi
    show i < (if 8 ≤ kdN u L p then y.2.2.1 else ud y.2.2.1 y.1 (y.1 + 1)) i ∧ (if 8 ≤ kdN u L p then y.2.2.1 else ud y.2.2.1 y.1 (y.1 + 1)) i ≤ y.1 + 1
    have hn' : i ∉ (if 8 ≤ kdN u L p then y.1 :: y.2.2.2 else y.2.2.2) := hn
    by_cases z : 8 ≤ kdN u L p
    · rw [if_pos z] at hn' ⊢
      have h3 : i ≠ y.1 := fun q => hn' (by rw [q]; exact List.mem_cons_self)
      have := y5 i (by omega) (fun q => hn' (List.mem_cons_of_mem _ q))
      omega
    · rw [if_neg z] at hn' ⊢
      by_cases x : i = y.1
      · rw [x, ud_at]
        omega
      · rw [ud_ne x]
        have := y5 i (by omega) hn'
        omega
set_option maxHeartbeats 200000 in
theorem yCl_Z (hp : p ≤ L) (hK : tK u L p ≠ 0) (hy : YI y P T) (h : yCl u L p y = .inr (p', y')) : p < p' ∧ p' ≤ L ∧ YI y' P T := by
  obtain ⟨y1, y2, y3, y4, y5⟩ := hy
  obtain ⟨s, rows, e, op⟩ := y
  cases op with
  | nil => cases h
  | cons o l =>
    cases h
    refine ⟨tE_gt hp hK, (tE_mono hp).2, y1, Srt_mono (Nat.le_of_lt y2.1) y2.2, Nat.le_of_succ_le y3, y4, fun i hi hn => ?_⟩
    show i < ud e o s i ∧ ud e o s i ≤ s
    by_cases z : i = o
    · rw [z, ud_at]
      exact ⟨y2.1, Nat.le_refl _⟩
    · rw [ud_ne z]
      exact y5 i hi (fun q => (List.mem_cons.mp q).elim z hn)
set_option maxHeartbeats 200000 in
theorem yLn_Z (hP : P ≤ 6) (hT : T ≤ 8) (hp : p ≤ L) (hy : YI y P T) (h : yLn u L w P T p y = .inr (p', y')) : p < p' ∧ p' ≤ L ∧ YI y' P T := by
  unfold yLn at h
  obtain ⟨⟨p1, y1⟩, e1, h⟩ := bG_inr h
  obtain ⟨p2, e2, h⟩ := bG_inr h
  cases h
  have key : p < p1 ∧ p1 ≤ L ∧ YI y1 P T := by
    split at e1
    · rename_i q
      exact yCl_Z hp (by rw [isW_K q]; decide) hy e1
    · exact yHd_Z hP hT hp hy e1
  obtain ⟨-, rfl⟩ := pEnd_i e2
  have := tE_mono (u := u) key.2.1
  exact ⟨by have := key.1; show p < tE u L p1; omega, this.2, key.2.2⟩
set_option maxHeartbeats 200000 in
/-- at the text's end there is no line -/
theorem yLn_0 (h : tK u L p = 0) : yLn u L w P T p y = .inl (am u L p) := by
  have h1 : ¬ isW u L p 19 = true := fun q => by
    rw [isW_K q] at h
    exact absurd h (by decide)
  have h2 : kdN u L p = 99 := by
    by_cases z : kdN u L p = 99
    · exact z
    · rw [kdN_K z] at h
      exact absurd h (by decide)
  unfold yLn yHd
  rw [if_neg h1, if_pos h2]
  rfl
set_option maxHeartbeats 200000 in
theorem yIt_a : ∀ a b (q : Nat × YS), yIt u L w P T (a + b) q = bG (yIt u L w P T a q) (yIt u L w P T b)
  | 0, b, q => by rw [Nat.zero_add]; rfl
  | a + 1, b, q => by
    rw [show a + 1 + b = (a + b) + 1 by omega]
    unfold yIt
    by_cases z : tK u L q.1 = 0 ∧ q.2.2.2.2 = []
    · rw [if_pos z, if_pos z, bG_r]
      cases b with
      | zero => rfl
      | succ b =>
        unfold yIt
        rw [if_pos z]
    · rw [if_neg z, if_neg z, bG_bG]
      congr 1
      exact funext fun q' => yIt_a a b q'
set_option maxHeartbeats 200000 in
theorem yIt_s (hP : P ≤ 6) (hT : T ≤ 8) : ∀ n m (q : Nat × YS), q.1 ≤ L → YI q.2 P T → L - q.1 < n → n ≤ m → yIt u L w P T m q = yIt u L w P T n q
  | 0, m, q, _, _, h, _ => absurd h (Nat.not_lt_zero _)
  | n + 1, 0, q, _, _, _, h => absurd h (by omega)
  | n + 1, m + 1, q, hq, hy, h, hm => by
    unfold yIt
    by_cases z : tK u L q.1 = 0 ∧ q.2.2.2.2 = []
    · rw [if_pos z, if_pos z]
    · rw [if_neg z, if_neg z]
      cases hr : yLn u L w P T q.1 q.2 with
      | inl fl => rfl
      | inr q' =>
        obtain ⟨p', y'⟩ := q'
        obtain ⟨z1, z2, z3⟩ := yLn_Z hP hT hq hy hr
        exact yIt_s hP hT n m (p', y') z2 z3 (by show L - p' < n; omega) (by omega)
set_option maxHeartbeats 200000 in
theorem yIt_Z (hP : P ≤ 6) (hT : T ≤ 8) : ∀ n (q q' : Nat × YS), q.1 ≤ L → YI q.2 P T → yIt u L w P T n q = .inr q' → q.1 ≤ q'.1 ∧ q'.1 ≤ L ∧ YI q'.2 P T
  | 0, q, q', hq, hy, h => by
    cases h
    exact ⟨Nat.le_refl _, hq, hy⟩
  | n + 1, q, q', hq, hy, h => by
    unfold yIt at h
    by_cases z : tK u L q.1 = 0 ∧ q.2.2.2.2 = []
    · rw [if_pos z] at h
      cases h
      exact ⟨Nat.le_refl _, hq, hy⟩
    · rw [if_neg z] at h
      obtain ⟨⟨p1, y1⟩, e1, h⟩ := bG_inr h
      obtain ⟨z1, z2, z3⟩ := yLn_Z hP hT hq hy e1
      have := yIt_Z hP hT n (p1, y1) q' z2 z3 h
      exact ⟨by have := this.1; dsimp only at this; omega, this.2⟩
end YP
