/-! Part 69zzze: a memory that is a list of what was written, and programs over it -/
def lk {α : Type} (z : α) : List (mA × Nat × α) → mA → Nat → α
  | [] => fun _ _ => z
  | q :: l => m_u (lk z l) q.1 q.2.1 q.2.2
def Dn (N : Nat) (A : List (mA × Nat × Int32)) (B : List (mA × Nat × Int64)) (C : List (mA × Nat × Option mA)) : mM := (N, lk 0 A, lk 0 B, lk none C)
set_option maxHeartbeats 200000 in
theorem lk_row {α : Type} {z : α} {a : mA} : ∀ l : List (mA × Nat × α), (l.all fun q => decide (q.1 ≠ a)) = true → m_row (lk z l) a (fun _ => z) = lk z l
  | [], _ => by
    funext b k
    show (if b = a then (fun _ => z) else fun _ => z) k = z
    rw [ite_self]
  | q :: l, h => by
    rw [List.all_cons, Bool.and_eq_true] at h
    have h1 := of_decide_eq_true h.1
    have ih := lk_row (z := z) l h.2
    funext b k
    have ih' := congrFun (congrFun ih b) k
    by_cases hb : b = a
    · have e1 : m_row (lk z (q :: l)) a (fun _ => z) b k = z := congrFun (if_pos hb) k
      have e2 : m_row (lk z l) a (fun _ => z) b k = z := congrFun (if_pos hb) k
      have e3 : lk z (q :: l) b k = lk z l b k := if_neg (fun w => h1 (w.1.symm.trans hb))
      rw [e1, e3, ← ih', e2]
    · exact congrFun (if_neg hb) k
section Y
variable {N ci k t n i : Nat} {A : List (mA × Nat × Int32)} {B : List (mA × Nat × Int64)} {C : List (mA × Nat × Option mA)} {α β : Type} {Q : α → mM → Prop} {a b : mA}
def frs (A : List (mA × Nat × Int32)) (B : List (mA × Nat × Int64)) (C : List (mA × Nat × Option mA)) (a : mA) : Bool := (A.all fun q => decide (q.1 ≠ a)) && ((B.all fun q => decide (q.1 ≠ a)) && (C.all fun q => decide (q.1 ≠ a)))
set_option maxHeartbeats 200000 in
theorem Dn_zero (h : frs A B C a = true) : m_zero (Dn N A B C) a = Dn (N + 1) A B C := by
  unfold frs at h
  rw [Bool.and_eq_true, Bool.and_eq_true] at h
  show ((N + 1, m_row (lk 0 A) a (fun _ => 0), m_row (lk 0 B) a (fun _ => 0), m_row (lk none C) a (fun _ => none)) : mM) = _
  rw [lk_row A h.1, lk_row B h.2.1, lk_row C h.2.2]
  rfl
def nwd (N : Nat) (s : Nat ⊕ (Nat × Nat)) (a : mA) : Bool := decide (m_pl N = a) && (decide (m_shp a.1 = some s) && decide (a.1 ≠ 0))
set_option maxHeartbeats 200000 in
theorem y_new {K : mA → mP α} (a : mA) (h : nwd N (.inl ci) a = true) (hf : frs A B C a = true) (hk : m_e (K a (Dn (N + 1) A B C)) Q) : m_e (m_bd (m_new ci) K (Dn N A B C)) Q := by
  unfold nwd at h
  simp only [Bool.and_eq_true, decide_eq_true_eq] at h
  have e : m_new ci (Dn N A B C) = some (a, Dn (N + 1) A B C) := by
    show (if m_shp (m_pl N).1 = some (.inl ci) ∧ (m_pl N).1 ≠ 0 then some (m_pl N, m_zero (Dn N A B C) (m_pl N)) else none) = _
    rw [h.1, if_pos ⟨h.2.1, h.2.2⟩, Dn_zero hf]
  rw [bd_of e]
  exact hk
set_option maxHeartbeats 200000 in
theorem y_nea {K : mA → mP α} (a : mA) (h : nwd N (.inr (t, n)) a = true) (hf : frs A B C a = true) (hk : m_e (K a (Dn (N + 1) A B C)) Q) : m_e (m_bd (m_nea t n) K (Dn N A B C)) Q := by
  unfold nwd at h
  simp only [Bool.and_eq_true, decide_eq_true_eq] at h
  have e : m_nea t n (Dn N A B C) = some (a, Dn (N + 1) A B C) := by
    show (if m_shp (m_pl N).1 = some (.inr (t, n)) ∧ (m_pl N).1 ≠ 0 then some (m_pl N, m_zero (Dn N A B C) (m_pl N)) else none) = _
    rw [h.1, if_pos ⟨h.2.1, h.2.2⟩, Dn_zero hf]
  rw [bd_of e]
  exact hk
def okd (N : Nat) (s : Nat ⊕ (Nat × Nat)) (a : mA) : Bool := decide (m_shp a.1 = some s) && (decide (a.1 ≠ 0) && (decide (m_pl (m_idx a) = a) && decide (m_idx a < N)))
set_option maxHeartbeats 200000 in
theorem okd_O (h : okd N (.inl ci) a = true) : oO (Dn N A B C) ci a := by
  unfold okd at h
  simp only [Bool.and_eq_true, decide_eq_true_eq] at h
  refine ⟨h.1, ?_⟩
  simp only [m_ok, Bool.and_eq_true, decide_eq_true_eq]
  exact ⟨h.2.1, h.2.2.1, h.2.2.2⟩
set_option maxHeartbeats 200000 in
theorem okd_A (h : okd N (.inr (t, n)) a = true) : oA (Dn N A B C) t n a := by
  unfold okd at h
  simp only [Bool.and_eq_true, decide_eq_true_eq] at h
  refine ⟨h.1, ?_⟩
  simp only [m_ok, Bool.and_eq_true, decide_eq_true_eq]
  exact ⟨h.2.1, h.2.2.1, h.2.2.2⟩
set_option maxHeartbeats 200000 in
theorem y_pI {K : Unit → mP α} {v : Int32} (h : okd N (.inl ci) a = true) (hk : m_e (K () (Dn N ((a, k, v) :: A) B C)) Q) : m_e (m_bd (m_pI ci k (some a) v) K (Dn N A B C)) Q := by
  rw [bd_pI (okd_O h)]
  exact hk
set_option maxHeartbeats 200000 in
theorem y_pZ {K : Unit → mP α} {v : Int32} (h : okd N (.inl ci) a = true) (hv : v = 0 ∨ v = 1) (hk : m_e (K () (Dn N ((a, k, v) :: A) B C)) Q) : m_e (m_bd (m_pZ ci k (some a) v) K (Dn N A B C)) Q := by
  rw [bd_pZ (okd_O h) hv]
  exact hk
set_option maxHeartbeats 200000 in
theorem y_pJ {K : Unit → mP α} {v : Int64} (h : okd N (.inl ci) a = true) (hk : m_e (K () (Dn N A ((a, k, v) :: B) C)) Q) : m_e (m_bd (m_pJ ci k (some a) v) K (Dn N A B C)) Q := by
  rw [bd_pJ (okd_O h)]
  exact hk
set_option maxHeartbeats 200000 in
theorem y_pR {K : Unit → mP α} (h : okd N (.inl ci) a = true) (hk : m_e (K () (Dn N A B ((a, k, some b) :: C))) Q) : m_e (m_bd (m_pR ci k (some a) (some b)) K (Dn N A B C)) Q := by
  rw [bd_pR (okd_O h)]
  exact hk
set_option maxHeartbeats 200000 in
theorem y_gR {K : Option mA → mP α} (b : mA) (h : okd N (.inl ci) a = true) (hF : lk none C a k = some b) (hk : m_e (K (some b) (Dn N A B C)) Q) : m_e (m_bd (m_gR ci k (some a)) K (Dn N A B C)) Q := by
  rw [bd_gR (okd_O h), show m_R (Dn N A B C) a k = some b from hF]
  exact hk
set_option maxHeartbeats 200000 in
theorem y_tR {K : Unit → mP α} (h : okd N (.inr (t, n)) a = true) (hb : okd N (.inl ci) b = true) (hi : i < n) (hn : n < 2147483648) (hk : m_e (K () (Dn N A B ((a, i, some b) :: C))) Q) : m_e (m_bd (m_tR t ci (some a) (nI i) (some b)) K (Dn N A B C)) Q := by
  rw [bd_tR (okd_A h) hi hn (okd_O hb)]
  exact hk
set_option maxHeartbeats 200000 in
theorem y_tI {K : Unit → mP α} {v : Int32} (h : okd N (.inr (0, n)) a = true) (hi : i < n) (hn : n < 2147483648) (hk : m_e (K () (Dn N ((a, i, v) :: A) B C)) Q) : m_e (m_bd (m_tI 0 (some a) (nI i) v) K (Dn N A B C)) Q := by
  rw [bd_tI (okd_A h) hi hn]
  exact hk
set_option maxHeartbeats 200000 in
theorem y_lk {K : Unit → mP α} (h : okd N (.inr (t, n)) a = true) (hk : m_e (K () (Dn N A B C)) Q) : m_e (m_bd (m_lk (some a) n) K (Dn N A B C)) Q := by
  have h' := okd_A (A := A) (B := B) (C := C) h
  have e : m_lk (some a) n (Dn N A B C) = some ((), Dn N A B C) := by
    unfold m_lk m_ln
    simp only [h'.1, h'.2, if_true]
  rw [bd_of e]
  exact hk
set_option maxHeartbeats 200000 in
theorem y_thb {T : mP β} {K : β → mP α} (h : okd N (.inl ci) a = true) (hk : m_e (m_bd T K (Dn N A B C)) Q) : m_e (m_bd (m_th ci (some a) T) K (Dn N A B C)) Q := by
  rw [bd_thb (okd_O h)]
  exact hk
end Y
