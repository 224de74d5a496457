/-! Part 69zzf: a family's clauses as functions; the class's chains -/
def bG {α β : Type} (r : Fl ⊕ α) (g : α → Fl ⊕ β) : Fl ⊕ β := match r with
  | .inl f => .inl f
  | .inr a => g a
set_option maxHeartbeats 200000 in
theorem bG_l {α β : Type} {f : Fl} {g : α → Fl ⊕ β} : bG (.inl f) g = .inl f := rfl
set_option maxHeartbeats 200000 in
theorem bG_r {α β : Type} {a : α} {g : α → Fl ⊕ β} : bG (.inr a) g = g a := rfl
set_option maxHeartbeats 200000 in
theorem bG_bG {α β γ : Type} {r : Fl ⊕ α} {g : α → Fl ⊕ β} {h : β → Fl ⊕ γ} : bG (bG r g) h = bG r (fun a => bG (g a) h) := by cases r <;> rfl
set_option maxHeartbeats 200000 in
theorem bF_bG {r : Fl ⊕ Nat} {g : Nat → Fl ⊕ Nat} : bF r g = bG r g := by cases r <;> rfl
set_option maxHeartbeats 200000 in
theorem bG_ite {α β : Type} {c : Prop} [Decidable c] {x y : Fl ⊕ α} {g : α → Fl ⊕ β} : bG (if c then x else y) g = if c then bG x g else bG y g := by split <;> rfl
set_option maxHeartbeats 200000 in
theorem wn_ne : ∀ i, i < 21 → ∀ j, j < 21 → wn i = wn j → i = j := by decide +kernel
set_option maxHeartbeats 200000 in
theorem isW_1 {u : Nat → Nat} {L p i j : Nat} (hi : i < 21) (hj : j < 21) (h : isW u L p i = true) (h' : isW u L p j = true) : i = j := by
  unfold isW at h h'
  simp at h h'
  exact wn_ne i hi j hj (h.2.2.symm.trans h'.2.2)
set_option maxHeartbeats 200000 in
theorem isW_K {u : Nat → Nat} {L p j : Nat} (h : isW u L p j = true) : tK u L p = 1 := by
  unfold isW at h
  simp at h
  exact h.1
set_option maxHeartbeats 200000 in
theorem pName_c {u : Nat → Nat} {L p : Nat} {a b : Bool} (h : nmd u L p = true → a = b) : pName u L p a = pName u L p b := by
  unfold pName
  by_cases z : nmd u L p = true
  · rw [h z]
  · rw [if_neg z, if_neg z]
set_option maxHeartbeats 200000 in
theorem pName_n {u : Nat → Nat} {L p p' : Nat} {a : Bool} (h : pName u L p a = .inr p') : nmd u L p = true ∧ a = true ∧ p' = tE u L p := by
  unfold pName at h
  by_cases z : nmd u L p = true
  · rw [if_pos z] at h
    by_cases y : a = true
    · rw [if_pos y] at h
      cases h
      exact ⟨z, y, rfl⟩
    · rw [if_neg y] at h
      cases h
  · rw [if_neg z] at h
    cases h
set_option maxHeartbeats 200000 in
theorem pBeh_w {u : Nat → Nat} {L p j a b : Nat} : pBeh u L p (isW u L p j) a b = bG (pWord u L p j) (fun q => pNum u L q a b) := by
  unfold pBeh pWord
  by_cases z : isW u L p j = true
  · rw [if_pos z, if_pos z, bG_r]
  · rw [if_neg z, if_neg z, bG_l]
set_option maxHeartbeats 200000 in
theorem k_7 {μ : mM} {u : Nat → Nat} {L p : Nat} (hk : TkC μ u L p) (h : nmd u L p = true) : m_J μ (5, 0, 0) 7 = xw u L p := (hk.2.2.2.1 (nmd_of h).1).2
/-- what is told so far: how many of each, which rules, the block's numbers, the names -/
abbrev FS : Type := Nat × Nat × Nat × (Nat → Int32) × (Nat → Int64)
def cPer (c : Nat → Int32) (P age : Nat) (of : Bool) : Nat → Int32 := ud (ud (ud (ud c (7 + P) (nI age)) (13 + P) (if of = true then 1 else 0)) (19 + P) 1) 0 (nI (P + 1))
def cThi (c : Nat → Int32) (T thick coat : Nat) : Nat → Int32 := ud (ud (ud c (25 + T) (nI thick)) (33 + T) (nI coat)) 1 (nI (T + 1))
def iN (x : Int32) : Nat := x.toNatClampNeg
/-- a sign that ends -/
def wE (u : Nat → Nat) (L : Nat) (q : Nat × FS) : Fl ⊕ (Nat × FS) := bG (pEnd u L q.1) fun p' => .inr (p', q.2)
def gPer (u : Nat → Nat) (L p P T M : Nat) (c : Nat → Int32) (w : Nat → Int64) : Fl ⊕ (Nat × FS) :=
  bG (pNew u L p w P T P 6) fun p1 => bG (pBeh u L p1 (isW u L p1 5) 0 119) fun p2 =>
    .inr (if isW u L p2 6 = true then tE u L p2 else p2, (P + 1, T, M, cPer c P (tV u L (tE u L p1)) (isW u L p2 6), ud w P (xw u L (tE u L p))))
def gThi (u : Nat → Nat) (L p P T M : Nat) (c : Nat → Int32) (w : Nat → Int64) : Fl ⊕ (Nat × FS) :=
  bG (pNew u L p w P T T 8) fun p1 => bG (pBeh u L p1 (isW u L p1 8) 1 999) fun p2 =>
    if isW u L p2 9 = true then bG (pNum u L (tE u L p2) 0 999) fun p3 => .inr (p3, (P, T + 1, M, cThi c T (tV u L (tE u L p1)) (tV u L (tE u L p2)), ud w (6 + T) (xw u L (tE u L p))))
    else .inr (p2, (P, T + 1, M, cThi c T (tV u L (tE u L p1)) 0, ud w (6 + T) (xw u L (tE u L p))))
def gLov (u : Nat → Nat) (L p P T M : Nat) (c : Nat → Int32) (w : Nat → Int64) : Fl ⊕ (Nat × FS) :=
  bG (pTold u L (tE u L p) w P) fun p1 => bG (pTold u L p1 (fun i => w (6 + i)) T) fun p2 => bG (pNum u L p2 0 9) fun p3 =>
    .inr (p3, (P, T, M, ud c (57 + 8 * iN (fnd w (xw u L (tE u L p)) P 0) + iN (fnd (fun i => w (6 + i)) (xw u L p1) T 0)) (nI (tV u L p2)), w))
def gRul (u : Nat → Nat) (L p P T M : Nat) (c : Nat → Int32) (w : Nat → Int64) (j a b : Nat) : Fl ⊕ (Nat × FS) :=
  bG (pOnce u L p (M.testBit j) a b) fun p1 => .inr (p1, (P, T, M ||| 2 ^ j, ud c j (nI (tV u L (tE u L p))), w))
def gCl (u : Nat → Nat) (L p P T M : Nat) (c : Nat → Int32) (w : Nat → Int64) : Fl ⊕ (Nat × FS) :=
  if isW u L p 0 = true then gPer u L p P T M c w else if isW u L p 7 = true then gThi u L p P T M c w else if isW u L p 10 = true then gLov u L p P T M c w
  else if isW u L p 1 = true then gRul u L p P T M c w 2 0 99 else if isW u L p 2 = true then gRul u L p P T M c w 3 1 120 else if isW u L p 3 = true then gRul u L p P T M c w 4 0 9
  else if isW u L p 4 = true then gRul u L p P T M c w 5 0 99 else .inl (am u L p)
def KF (f : Nat) (x y _z k : Nat) : Prop := (x = 5 ∧ 3 ≤ k) ∨ ((x = 7 ∨ x = 9 ∨ x = 10 ∨ x = 12) ∧ y = f)
section KQ3
variable {μ0 μ μ' : mM} {B : Nat → Int32} {u : Nat → Nat} {L p f P T M : Nat} {c : Nat → Int32} {w : Nat → Int64}
def EvC (μ : mM) (B : Nat → Int32) (u : Nat → Nat) (L f : Nat) (c : Nat → Int32) (w : Nat → Int64) (P T M : Nat) : Prop := ClsP μ ∧ FamP μ f ∧ TxB μ B L ∧ Byt B u L ∧ FmC μ f c w P T M
set_option maxHeartbeats 200000 in
theorem EvC_sm (h : EvC μ B u L f c w P T M) (hs : sm (fun x _ _ k => x = 5 ∧ 3 ≤ k) μ μ') : EvC μ' B u L f c w P T M := ⟨sm_C hs h.1, sm_F hs h.2.1, TxB_sm h.2.2.1 hs (by omega) (by omega), h.2.2.2.1, FmC_sm h.2.2.2.2 hs (by omega)⟩
def St5 (μ0 μ : mM) : Prop := sm (fun x _ _ k => x = 5 ∧ 3 ≤ k) μ0 μ ∧ m_I μ (5, 0, 0) 10 = m_I μ0 (5, 0, 0) 10 ∧ m_I μ (5, 0, 0) 11 = m_I μ0 (5, 0, 0) 11
set_option maxHeartbeats 200000 in
theorem St5_rf : St5 μ μ := ⟨sm_rf, rfl, rfl⟩
set_option maxHeartbeats 200000 in
theorem St5_O {p' : Nat} {r : Int32} (h0 : St5 μ0 μ) (h : OutC μ μ' u L (.inr p') r) : St5 μ0 μ' := by
  obtain ⟨-, -, -, a, b⟩ := h.2.1 p' rfl
  exact ⟨sm_tr h0.1 (sm_mono h.1 (by omega)), a.trans h0.2.1, b.trans h0.2.2⟩
/-- what becomes of a clause, on the class's side -/
def QK {α : Type} (μ0 : mM) (f : Nat) (u : Nat → Nat) (L : Nat) (res : Fl ⊕ (Nat × α)) (S : α → mM → Prop) (r : Int32) (μ' : mM) : Prop := sm (KF f) μ0 μ' ∧ (∀ p' a, res = .inr (p', a) → r = 1 ∧ TkC μ' u L p' ∧ p' ≤ L ∧ m_I μ' (5, 0, 0) 10 = m_I μ0 (5, 0, 0) 10 ∧ m_I μ' (5, 0, 0) 11 = m_I μ0 (5, 0, 0) 11 ∧ S a μ') ∧ ∀ fl, res = .inl fl → r = 0 ∧ FtC μ' fl
set_option maxHeartbeats 200000 in
theorem QK_E {α : Type} {S : α → mM → Prop} {fl : Fl} (h : sm (fun x _ _ k => x = 5 ∧ 3 ≤ k) μ0 μ') (hF : FtC μ' fl) : QK μ0 f u L (.inl fl) S 0 μ' := ⟨sm_mono h (fun _ _ _ _ q => .inl q), fun p' a q => (by cases q), fun fl' q => by cases q; exact ⟨rfl, hF⟩⟩
set_option maxHeartbeats 200000 in
theorem QK_O {α : Type} {S : α → mM → Prop} {fl : Fl} {r : Int32} (h0 : St5 μ0 μ) (h : OutC μ μ' u L (.inl fl) r) : QK μ0 f u L (.inl fl) S r μ' := by
  obtain ⟨rfl, hF⟩ := h.2.2 fl rfl
  exact QK_E (sm_tr h0.1 (sm_mono h.1 (by omega))) hF
set_option maxHeartbeats 200000 in
theorem k_ch {α : Type} {S : α → mM → Prop} {x : mP Int32} {K : mP Int32} {r1 : Fl ⊕ Nat} {g : Nat → Fl ⊕ (Nat × α)} (h0 : St5 μ0 μ) (h : m_e (x μ) (fun r μ' => OutC μ μ' u L r1 r)) (hO : ∀ μ' p', r1 = .inr p' → St5 μ0 μ' → TkC μ' u L p' → p' ≤ L → m_I μ' (5, 0, 0) 9 = m_I μ (5, 0, 0) 9 → m_e (K μ') (QK μ0 f u L (g p') S)) : m_e (m_bd x (fun v => if v = 0 then m_rt 0 else K) μ) (QK μ0 f u L (bG r1 g) S) := by
  refine e_bd h ?_
  intro r μ' q
  cases r1 with
  | inl fl =>
    have q2 := QK_O (S := S) (f := f) h0 q
    obtain ⟨rfl, -⟩ := q.2.2 fl rfl
    rw [ap_ite, if_pos rfl]
    exact ⟨_, _, rfl, q2⟩
  | inr p' =>
    have h1 := St5_O h0 q
    obtain ⟨rfl, a, b, -⟩ := q.2.1 p' rfl
    rw [ap_ite, if_neg (by decide)]
    exact hO μ' p' rfl h1 a b (sm_I q.1 (by omega))
set_option maxHeartbeats 200000 in
theorem k_chn {α : Type} {S : α → mM → Prop} {K : mP Int32} {g : Nat → Fl ⊕ (Nat × α)} (h0 : St5 μ0 μ) (hC : ClsP μ) (hT : TxB μ B L) (hB : Byt B u L) (hk : TkC μ u L p) (hp : p ≤ L) {a b : Nat} (ha : a < 2 ^ 31) (hb : b < 2 ^ 31) (hO : ∀ μ' p', pNum u L p a b = .inr p' → St5 μ0 μ' → TkC μ' u L p' → p' ≤ L → m_I μ' (5, 0, 0) 9 = nI (tV u L p) → m_e (K μ') (QK μ0 f u L (g p') S)) : m_e (m_bd (fn_Tx_takeNumber (some (5, 0, 0)) (nI a) (nI b)) (fun v => if v = 0 then m_rt 0 else K) μ) (QK μ0 f u L (bG (pNum u L p a b) g) S) := by
  refine e_bd (k_takeNumber hC hT hB hk hp ha hb) ?_
  rintro r μ' ⟨q1, q2⟩
  cases hr : pNum u L p a b with
  | inl fl =>
    have q := q1 fl hr
    have q3 := QK_O (S := S) (f := f) h0 q
    obtain ⟨rfl, -⟩ := q.2.2 fl rfl
    rw [ap_ite, if_pos rfl]
    exact ⟨_, _, rfl, q3⟩
  | inr p' =>
    have q := q2 p' hr
    have s9 : sm (fun x _ _ k => x = 5 ∧ k = 9) μ (m_sI μ (5, 0, 0) 9 (nI (tV u L p))) := sm_sI sm_rf _ ⟨rfl, rfl⟩
    have h1 : St5 μ0 (m_sI μ (5, 0, 0) 9 (nI (tV u L p))) := ⟨sm_tr h0.1 (sm_mono s9 (by omega)), by rw [sm_I s9 (by omega)]; exact h0.2.1, by rw [sm_I s9 (by omega)]; exact h0.2.2⟩
    have h2 := St5_O h1 q
    obtain ⟨rfl, a, b, -⟩ := q.2.1 p' rfl
    rw [ap_ite, if_neg (by decide)]
    exact hO μ' p' hr h2 a b (by rw [sm_I q.1 (by omega), I_row, ud_at])
end KQ3
