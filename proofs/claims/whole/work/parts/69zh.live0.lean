/-! Part 69zh: years that are lived, as functions -/
def drw (s : Int32) : Int32 := iR ((s * 2971) + 10831) 65536
/-- a breath on t by what was drawn -/
def anyB (c : Nat → Int32) (t : Nat) (rnd : Int32) : (Nat → Int32) × Int32 × Bool := if i_thr c t = 0 then (ud c (41 + t) (iMin 999 (c (41 + t) + c 5)), rnd, true) else (c, rnd, false)
def becB (c : Nat → Int32) (k : Nat) (v rnd : Int32) : (Nat → Int32) × Int32 × Bool := if c k = v then (c, rnd, false) else (ud c k v, rnd, true)
/-- a step that is no when, loop, stop: what becomes, whether it could be -/
def act2 (P T : Nat) (b : Nat → Int32) (c : Nat → Int32) (rnd : Int32) : (Nat → Int32) × Int32 × Bool :=
  if b 0 = 0 then (if c 6 + b 1 ≤ 9999 then (y_yrs c P T (b 1).toNatClampNeg, rnd, true) else (c, rnd, false))
  else if b 0 = 2 then becB c (57 + 8 * (b 1).toNatClampNeg + (b 2).toNatClampNeg) (b 3) rnd
  else if b 0 = 3 then becB c 4 (b 1) rnd
  else if b 0 = 6 then (if T = 0 then (c, rnd, false) else anyB (ud c 4 (iR (drw rnd / 8) 10)) (iR (drw (drw rnd) / 8) (nI T)).toNatClampNeg (drw (drw rnd)))
  else if i_thr c (b 1).toNatClampNeg = 0 then (if b 0 = 1 then ud c (49 + (b 1).toNatClampNeg) 3 else if b 0 = 4 then ud c (33 + (b 1).toNatClampNeg) (iMin 999 (c (33 + (b 1).toNatClampNeg) + b 2)) else ud c (41 + (b 1).toNatClampNeg) (c (41 + (b 1).toNatClampNeg) / 2), rnd, true) else (c, rnd, false)
def soW (b : Nat → Int32) (c : Nat → Int32) : Bool :=
  if b 6 = 0 then decide (i_thr c (b 1).toNatClampNeg ≠ 0) else if b 6 = 2 then decide (i_sho c (b 1).toNatClampNeg ≠ 0)
  else if b 7 = 60 then decide (c (41 + (b 1).toNatClampNeg) < b 2) else if b 7 = 62 then decide (b 2 < c (41 + (b 1).toNatClampNeg)) else decide (c (41 + (b 1).toNatClampNeg) = b 2)
/-- the world: the block, what was drawn, what was missed -/
abbrev wL : Type := (Nat → Int32) × Int32 × Int32
def actW (P T : Nat) (b : Nat → Int32) (W : wL) : wL := ((act2 P T b W.1 W.2.1).1, (act2 P T b W.1 W.2.1).2.1, if (act2 P T b W.1 W.2.1).2.2 = true then W.2.2 else W.2.2 + 1)
abbrev stL : Type := List (Nat × Nat)
/-- at the ends of loops -/
def Nz (e : Nat → Nat) (at' : Nat) : stL → Nat × stL
  | [] => (at', [])
  | (s, r) :: k => if e s = at' then (if 1 < r then (s + 1, (s, r - 1) :: k) else Nz e at' k) else (at', (s, r) :: k)
/-- a step -/
def exs (P T S : Nat) (e : Nat → Nat) (b : Nat → Nat → Int32) (a : Nat) (stk : stL) (W : wL) : Nat × stL × wL :=
  if b a 0 = 9 then (S, [], W)
  else if b a 0 = 8 then (if e a ≤ a + 1 then (a + 1, stk, W) else if 3 ≤ stk.length then (a + 1, stk, W) else (a + 1, (a, (b a 1).toNatClampNeg) :: stk, W))
  else if b a 0 = 7 then (if soW (b a) W.1 = true then (a + 1, stk, W) else (e a, stk, W))
  else (a + 1, stk, actW P T (b a) W)
/-- all of them, r at most: the world, how many were not used, whether one was left -/
def runL (P T S : Nat) (e : Nat → Nat) (b : Nat → Nat → Int32) : Nat → Nat → stL → wL → wL × Nat × Bool
  | 0, a, stk, W => (W, 0, decide ((Nz e a stk).1 < S))
  | r + 1, a, stk, W => if S ≤ (Nz e a stk).1 then (W, r + 1, false) else runL P T S e b r (exs P T S e b (Nz e a stk).1 (Nz e a stk).2 W).1 (exs P T S e b (Nz e a stk).1 (Nz e a stk).2 W).2.1 (exs P T S e b (Nz e a stk).1 (Nz e a stk).2 W).2.2
/-- loops that can stand open -/
def okS (S : Nat) (e : Nat → Nat) (stk : stL) : Prop := stk.length ≤ 3 ∧ ∀ q ∈ stk, q.1 < S ∧ q.1 + 1 < e q.1 ∧ 1 ≤ q.2 ∧ q.2 ≤ 99
set_option maxHeartbeats 200000 in
theorem Nz_ok {S : Nat} {e : Nat → Nat} {a : Nat} : ∀ {stk : stL}, okS S e stk → okS S e (Nz e a stk).2
  | [], h => h
  | (s, r) :: k, h => by
    have hk : okS S e k := ⟨by have := h.1; simp at this; omega, fun q hq => h.2 q (List.mem_cons_of_mem _ hq)⟩
    unfold Nz
    split
    · split
      · refine ⟨h.1, fun q hq => ?_⟩
        rcases List.mem_cons.mp hq with rfl | hq
        · have := h.2 (s, r) List.mem_cons_self
          simp only at this ⊢
          omega
        · exact h.2 q (List.mem_cons_of_mem _ hq)
      · exact Nz_ok hk
    · exact h
set_option maxHeartbeats 200000 in
theorem Nz_Nz {S : Nat} {e : Nat → Nat} {a : Nat} : ∀ {stk : stL}, okS S e stk → Nz e (Nz e a stk).1 (Nz e a stk).2 = Nz e a stk
  | [], _ => rfl
  | (s, r) :: k, h => by
    have hk : okS S e k := ⟨by have := h.1; simp at this; omega, fun q hq => h.2 q (List.mem_cons_of_mem _ hq)⟩
    by_cases z : e s = a
    · by_cases y : 1 < r
      · have e1 : Nz e a ((s, r) :: k) = (s + 1, (s, r - 1) :: k) := by
          show (if e s = a then (if 1 < r then (s + 1, (s, r - 1) :: k) else Nz e a k) else (a, (s, r) :: k)) = _
          rw [if_pos z, if_pos y]
        have h1 := (h.2 (s, r) List.mem_cons_self).2.1
        simp only at h1
        rw [e1]
        show (if e s = s + 1 then _ else _) = _
        rw [if_neg (by omega)]
      · have e1 : Nz e a ((s, r) :: k) = Nz e a k := by
          show (if e s = a then (if 1 < r then (s + 1, (s, r - 1) :: k) else Nz e a k) else (a, (s, r) :: k)) = _
          rw [if_pos z, if_neg y]
        rw [e1]
        exact Nz_Nz hk
    · have e1 : Nz e a ((s, r) :: k) = (a, (s, r) :: k) := if_neg z
      rw [e1]
      exact e1
set_option maxHeartbeats 200000 in
theorem runL_Nz {P T S : Nat} {e : Nat → Nat} {b : Nat → Nat → Int32} {r a : Nat} {stk : stL} {W : wL} (h : okS S e stk) : runL P T S e b r (Nz e a stk).1 (Nz e a stk).2 W = runL P T S e b r a stk W := by
  cases r with
  | zero =>
    unfold runL
    rw [Nz_Nz h]
  | succ r =>
    unfold runL
    rw [Nz_Nz h]
/-- the innermost loop's end is not ahead of hi -/
def topL (e : Nat → Nat) (hi : Nat) : stL → Prop
  | [] => True
  | q :: _ => hi ≤ e q.1
set_option maxHeartbeats 200000 in
theorem Nz_top {e : Nat → Nat} {a hi : Nat} {stk : stL} (h : topL e hi stk) (ha : a < hi) : Nz e a stk = (a, stk) := by
  cases stk with
  | nil => rfl
  | cons q k =>
    obtain ⟨s, r⟩ := q
    have h' : hi ≤ e s := h
    exact if_neg (by omega)
set_option maxHeartbeats 200000 in
theorem wf_le {e : Nat → Nat} {bl : Nat → Prop} (he : ∀ s, ¬ bl s → e s = s + 1) : ∀ n d lo hi, wf e bl n d lo hi → ∀ s, lo ≤ s → s < hi → e s ≤ hi
  | 0, d, lo, hi, h, s, h1, h2 => by
    have : lo = hi := h
    omega
  | n + 1, d, lo, hi, h, s, h1, h2 => by
    rcases h with h | ⟨g1, g2, g3, g4, g5⟩
    · omega
    · by_cases z : s = lo
      · rw [z]
        exact g3
      · by_cases y : s < e lo
        · by_cases x : bl lo
          · have := wf_le he n (d - 1) (lo + 1) (e lo) (g4 x).2 s (by omega) y
            omega
          · have := he lo x
            omega
        · exact wf_le he n d (e lo) hi g5 s (by omega) h2
-- numbers that were drawn
set_option maxHeartbeats 200000 in
theorem drw_n {s : Nat} (hs : s ≤ 65535) : drw (nI s) = nI ((s * 2971 + 10831) % 65536) := by
  unfold drw iR
  rw [show (2971 : Int32) = nI 2971 from rfl, show (10831 : Int32) = nI 10831 from rfl, show (65536 : Int32) = nI 65536 from rfl, pk_mul, nI_add, pk_rem (by omega) (by omega) (by omega)]
set_option maxHeartbeats 200000 in
theorem bn_drw {s : Int32} (h : bn s 65535) : bn (drw s) 65535 := by
  obtain ⟨n, hn, rfl⟩ := h
  rw [drw_n hn]
  exact ⟨_, by omega, rfl⟩
set_option maxHeartbeats 200000 in
theorem drw_by {s : Int32} (h : bn s 65535) {m : Nat} (h1 : 0 < m) (h2 : m < 1000) : ∃ j, j < m ∧ iR (s / 8) (nI m) = nI j := by
  obtain ⟨n, hn, rfl⟩ := h
  unfold iR
  rw [show (8 : Int32) = nI 8 from rfl, pk_div (by omega) (by omega) (by omega), pk_rem (by omega) (by omega) (by omega)]
  exact ⟨_, Nat.mod_lt _ h1, rfl⟩
-- how many are through, how many live
set_option maxHeartbeats 200000 in
theorem dif_n {x y : Nat} (hx : x < 256) : nI x &&& (nI y ^^^ (-1)) = nI (x &&& (255 ^^^ y)) := by
  apply Int32.toBitVec_inj.mp
  apply BitVec.eq_of_getLsbD_eq
  intro i hi
  have e1 : (-1 : Int32).toBitVec = BitVec.allOnes 32 := by decide
  have e2 : ∀ n, (nI n).toBitVec = BitVec.ofNat 32 n := fun n => rfl
  rw [Int32.toBitVec_and, Int32.toBitVec_xor, e1, e2, e2, e2, BitVec.getLsbD_and, BitVec.getLsbD_xor, BitVec.getLsbD_ofNat, BitVec.getLsbD_ofNat, BitVec.getLsbD_ofNat, BitVec.getLsbD_allOnes, Nat.testBit_and, Nat.testBit_xor]
  by_cases h8 : i < 8
  · have : Nat.testBit 255 i = true := by
      obtain rfl | rfl | rfl | rfl | rfl | rfl | rfl | rfl : i = 0 ∨ i = 1 ∨ i = 2 ∨ i = 3 ∨ i = 4 ∨ i = 5 ∨ i = 6 ∨ i = 7 := by omega
      all_goals rfl
    rw [this]
    simp [hi]
  · rw [tb_top (n := 8) hx (by omega)]
    simp
set_option maxHeartbeats 200000 in
theorem set_dif {b b' : Nat → Int32} {n : Nat} (hn : n ≤ 8) : i_set b' n &&& (i_set b n ^^^ (-1)) = nI (n_set (fun k => if b k = 0 then b' k else 0) n) := by
  have h1 := n_set_256 b hn
  have h2 := n_set_256 b' hn
  rw [i_set_n b n hn, i_set_n b' n hn, dif_n h2]
  congr 1
  apply Nat.eq_of_testBit_eq
  intro k
  rw [Nat.testBit_and, Nat.testBit_xor, n_set_bit, n_set_bit, n_set_bit]
  by_cases hk : k < n
  · have : Nat.testBit 255 k = true := by
      obtain rfl | rfl | rfl | rfl | rfl | rfl | rfl | rfl : k = 0 ∨ k = 1 ∨ k = 2 ∨ k = 3 ∨ k = 4 ∨ k = 5 ∨ k = 6 ∨ k = 7 := by omega
      all_goals rfl
    rw [this]
    by_cases z : b k = 0
    · simp [hk, z]
    · simp [hk, z]
  · simp [hk]
set_option maxHeartbeats 200000 in
theorem cnt_set {b : Nat → Int32} {n : Nat} (hn : n ≤ 8) : cnt (n_set b n).testBit 8 = cnt (fun k => decide (b k ≠ 0)) n := by
  rw [cnt_bits (n_set_lt b n) hn]
  exact cnt_c n fun k hk => by rw [n_set_bit, decide_eq_true hk, Bool.true_and]
set_option maxHeartbeats 200000 in
theorem cnt_dif {b b' : Nat → Int32} : ∀ n, (∀ k, k < n → b k ≠ 0 → b' k ≠ 0) → cnt (fun k => decide ((if b k = 0 then b' k else 0) ≠ 0)) n + cnt (fun k => decide (b k ≠ 0)) n = cnt (fun k => decide (b' k ≠ 0)) n
  | 0, _ => rfl
  | n + 1, h => by
    have ih := cnt_dif n (fun k hk => h k (by omega))
    have h1 := h n (by omega)
    rw [cnt_s, cnt_s, cnt_s]
    by_cases z : b n = 0
    · rw [show decide ((if b n = 0 then b' n else 0) ≠ 0) = decide (b' n ≠ 0) by rw [if_pos z], show decide (b n ≠ 0) = false from decide_eq_false (fun q => q z), if_neg (show ¬ false = true by decide)]
      omega
    · rw [show decide ((if b n = 0 then b' n else 0) ≠ 0) = false from decide_eq_false (by rw [if_neg z]; exact fun q => q rfl), show decide (b n ≠ 0) = true from decide_eq_true z, show decide (b' n ≠ 0) = true from decide_eq_true (h1 z), if_neg (show ¬ false = true by decide), if_pos rfl]
      omega
def nTh (c : Nat → Int32) (T : Nat) : Nat := cnt (fun t => decide (i_thr c t ≠ 0)) T
def nLi (c : Nat → Int32) (P : Nat) : Nat := cnt (fun p => decide (c (19 + p) ≠ 0)) P
/-- what is through stays so, who is dead, too -/
def Mo (P T : Nat) (c c' : Nat → Int32) : Prop := (∀ t, t < T → i_thr c t ≠ 0 → i_thr c' t ≠ 0) ∧ ∀ p, p < P → c' (19 + p) ≠ 0 → c (19 + p) ≠ 0
set_option maxHeartbeats 200000 in
theorem Mo_tr {P T : Nat} {c c' c'' : Nat → Int32} (h : Mo P T c c') (h' : Mo P T c' c'') : Mo P T c c'' := ⟨fun t ht q => h'.1 t ht (h.1 t ht q), fun p hp q => h.2 p hp (h'.2 p hp q)⟩
set_option maxHeartbeats 200000 in
theorem Mo_le {P T : Nat} {c c' : Nat → Int32} (h : Mo P T c c') : nTh c T ≤ nTh c' T ∧ nLi c' P ≤ nLi c P := by
  have h1 := cnt_dif (b := i_thr c) (b' := i_thr c') T (fun t ht => h.1 t ht)
  have h2 := cnt_dif (b := fun p => c' (19 + p)) (b' := fun p => c (19 + p)) P (fun p hp => h.2 p hp)
  unfold nTh nLi
  omega
