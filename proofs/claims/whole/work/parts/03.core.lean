/-! Part 03: the memory as functions, programs over it, and how the machine keeps to a program (m_Sim) -/
abbrev mV : Type := Int32 ⊕ (Int64 ⊕ Option mA)
/-- a memory: how many cells are made; ints, longs, references by cell and place -/
abbrev mM : Type := Nat × (mA → Nat → Int32) × (mA → Nat → Int64) × (mA → Nat → Option mA)
def m_I (μ : mM) : mA → Nat → Int32 := μ.2.1
def m_J (μ : mM) : mA → Nat → Int64 := μ.2.2.1
def m_R (μ : mM) : mA → Nat → Option mA := μ.2.2.2
def m_u {α : Type} (f : mA → Nat → α) (a : mA) (k : Nat) (v : α) : mA → Nat → α := fun b j => if b = a ∧ j = k then v else f b j
def m_row {α : Type} (f : mA → Nat → α) (a : mA) (g : Nat → α) : mA → Nat → α := fun b => if b = a then g else f b
def m_sI (μ : mM) (a : mA) (k : Nat) (v : Int32) : mM := (μ.1, m_u μ.2.1 a k v, μ.2.2)
def m_sJ (μ : mM) (a : mA) (k : Nat) (v : Int64) : mM := (μ.1, μ.2.1, m_u μ.2.2.1 a k v, μ.2.2.2)
def m_sR (μ : mM) (a : mA) (k : Nat) (v : Option mA) : mM := (μ.1, μ.2.1, μ.2.2.1, m_u μ.2.2.2 a k v)
def m_rI (μ : mM) (a : mA) (g : Nat → Int32) : mM := (μ.1, m_row μ.2.1 a g, μ.2.2)
def m_rJ (μ : mM) (a : mA) (g : Nat → Int64) : mM := (μ.1, μ.2.1, m_row μ.2.2.1 a g, μ.2.2.2)
/-- programs -/
abbrev mP (α : Type) : Type := mM → Option (α × mM)
def m_rt {α : Type} (a : α) : mP α := fun μ => some (a, μ)
def m_rz (v : Int32) : mP Int32 := fun μ => if v = 0 ∨ v = 1 then some (v, μ) else none
def m_fl {α : Type} : mP α := fun _ => none
def m_bd {α β : Type} (x : mP α) (k : α → mP β) : mP β := fun μ => match x μ with
  | none => none
  | some r => k r.1 r.2
def m_lp {S E : Type} (body : S → mP (S ⊕ E)) : Nat → S → mP E
  | 0, _ => m_fl
  | n + 1, s => m_bd (body s) (fun r => match r with
    | .inl s' => m_lp body n s'
    | .inr x => m_rt x)
/-- a cell that is made -/
def m_ok (μ : mM) (a : mA) : Bool := decide (a.1 ≠ 0) && (decide (m_pl (m_idx a) = a) && decide (m_idx a < μ.1))
def m_oo (μ : mM) (ci : Nat) (x : Option mA) : Option mA := match x with
  | none => none
  | some a => if m_shp a.1 = some (.inl ci) ∧ m_ok μ a = true then some a else none
def m_oa (μ : mM) (t : Nat) (x : Option mA) (i : Int32) : Option mA := match x with
  | none => none
  | some a => match m_shp a.1 with
    | some (.inr (t', n)) => if t' = t ∧ ¬ (i < 0 ∨ n ≤ i.toNatClampNeg) ∧ m_ok μ a = true then some a else none
    | _ => none
def m_th {α : Type} (ci : Nat) (x : Option mA) (T : mP α) : mP α := fun μ => match m_oo μ ci x with
  | none => none
  | some _ => T μ
def m_gI (ci kf : Nat) (x : Option mA) : mP Int32 := fun μ => match m_oo μ ci x with
  | none => none
  | some a => some (m_I μ a kf, μ)
def m_gJ (ci kf : Nat) (x : Option mA) : mP Int64 := fun μ => match m_oo μ ci x with
  | none => none
  | some a => some (m_J μ a kf, μ)
def m_gR (ci kf : Nat) (x : Option mA) : mP (Option mA) := fun μ => match m_oo μ ci x with
  | none => none
  | some a => some (m_R μ a kf, μ)
def m_pI (ci kf : Nat) (x : Option mA) (v : Int32) : mP Unit := fun μ => match m_oo μ ci x with
  | none => none
  | some a => some ((), m_sI μ a kf v)
def m_pZ (ci kf : Nat) (x : Option mA) (v : Int32) : mP Unit := fun μ => match m_oo μ ci x with
  | none => none
  | some a => if v = 0 ∨ v = 1 then some ((), m_sI μ a kf v) else none
def m_pJ (ci kf : Nat) (x : Option mA) (v : Int64) : mP Unit := fun μ => match m_oo μ ci x with
  | none => none
  | some a => some ((), m_sJ μ a kf v)
def m_pR (ci kf : Nat) (x : Option mA) (v : Option mA) : mP Unit := fun μ => match m_oo μ ci x with
  | none => none
  | some a => some ((), m_sR μ a kf v)
def m_nar (t : Nat) (v : Int32) : Int32 := match t with
  | 2 => v.toInt8.toInt32
  | 3 => vp_nar .boolean v
  | _ => v
def m_aI (t : Nat) (x : Option mA) (i : Int32) : mP Int32 := fun μ => match m_oa μ t x i with
  | none => none
  | some a => some (m_I μ a i.toNatClampNeg, μ)
def m_aJ (x : Option mA) (i : Int32) : mP Int64 := fun μ => match m_oa μ 1 x i with
  | none => none
  | some a => some (m_J μ a i.toNatClampNeg, μ)
def m_aR (t : Nat) (x : Option mA) (i : Int32) : mP (Option mA) := fun μ => match m_oa μ t x i with
  | none => none
  | some a => some (m_R μ a i.toNatClampNeg, μ)
def m_tI (t : Nat) (x : Option mA) (i : Int32) (v : Int32) : mP Unit := fun μ => match m_oa μ t x i with
  | none => none
  | some a => some ((), m_sI μ a i.toNatClampNeg (m_nar t v))
def m_tJ (x : Option mA) (i : Int32) (v : Int64) : mP Unit := fun μ => match m_oa μ 1 x i with
  | none => none
  | some a => some ((), m_sJ μ a i.toNatClampNeg v)
/-- a reference to an object of the class ci is put into an array of type t -/
def m_tR (t ci : Nat) (x : Option mA) (i : Int32) (v : Option mA) : mP Unit := fun μ => match m_oa μ t x i, m_oo μ ci v with
  | some a, some _ => some ((), m_sR μ a i.toNatClampNeg v)
  | _, _ => none
def m_ln (x : Option mA) : mP Int32 := fun μ => match x with
  | none => none
  | some a => match m_shp a.1 with
    | some (.inr (_, n)) => if m_ok μ a = true then some (Int32.ofNat n, μ) else none
    | _ => none
def m_zero (μ : mM) (a : mA) : mM := (μ.1 + 1, m_row μ.2.1 a (fun _ => 0), m_row μ.2.2.1 a (fun _ => 0), m_row μ.2.2.2 a (fun _ => none))
def m_new (ci : Nat) : mP mA := fun μ => if m_shp (m_pl μ.1).1 = some (.inl ci) ∧ (m_pl μ.1).1 ≠ 0 then some (m_pl μ.1, m_zero μ (m_pl μ.1)) else none
def m_nea (t n : Nat) : mP mA := fun μ => if m_shp (m_pl μ.1).1 = some (.inr (t, n)) ∧ (m_pl μ.1).1 ≠ 0 then some (m_pl μ.1, m_zero μ (m_pl μ.1)) else none
def m_cz (v : Int32) : mP Unit := fun μ => if v = 0 ∨ v = 1 then some ((), μ) else none
def m_oc (μ : mM) (t : Nat) (x : Option mA) (i n : Int32) : Option mA := match x with
  | none => none
  | some a => match m_shp a.1 with
    | some (.inr (t', N)) => if t' = t ∧ ¬ i < 0 ∧ ¬ n < 0 ∧ i.toNatClampNeg + n.toNatClampNeg ≤ N ∧ m_ok μ a = true then some a else none
    | _ => none
def m_cpI (x : Option mA) (sp : Int32) (y : Option mA) (dp n : Int32) : mP Unit := fun μ => match m_oc μ 0 x sp n, m_oc μ 0 y dp n with
  | some a, some b => some ((), m_rI μ b (va_cpy (m_I μ a) (m_I μ b) sp.toNatClampNeg dp.toNatClampNeg n.toNatClampNeg))
  | _, _ => none
def m_cpJ (x : Option mA) (sp : Int32) (y : Option mA) (dp n : Int32) : mP Unit := fun μ => match m_oc μ 1 x sp n, m_oc μ 1 y dp n with
  | some a, some b => some ((), m_rJ μ b (va_cpy (m_J μ a) (m_J μ b) sp.toNatClampNeg dp.toNatClampNeg n.toNatClampNeg))
  | _, _ => none
/-- the worlds: where the new cells begin, the heap ahead of them, the classes' numbers, the arrays' classes, the string constants and their bytes -/
abbrev mW : Type := Nat × Heap × va_G × (Nat → ClassId) × (Nat → Nat) × (Nat → Nat)
def m_rho (w : mW) (a : mA) : Nat := if a.1 = 0 then (if a.2.2 = 0 then w.2.2.2.2.1 a.2.1 else if a.2.2 = 1 then w.2.2.2.2.2 a.2.1 else a.2.1) else w.1 + m_idx a
def m_val (w : mW) (v : mV) : Value := match v with
  | .inl x => .int x
  | .inr (.inl x) => .long x
  | .inr (.inr r) => va_rf (r.map (m_rho w))
def m_tys (w : mW) : List (ClassId × FieldType) := (List.range 8).map (fun t => (w.2.2.2.1 t, m_ty t))
def m_fv (w : mW) (μ : mM) (a : mA) (k t : Nat) : Value := if t = 1 then .long (m_J μ a k) else if t = 2 then va_rf ((m_R μ a k).map (m_rho w)) else .int (m_I μ a k)
def m_fs (w : mW) (μ : mM) (a : mA) (ci : Nat) : List Value := (m_ft ci).mapIdx (fun k t => m_fv w μ a k t)
def m_ar (w : mW) (μ : mM) (a : mA) (t : Nat) : (Nat → Int32) ⊕ (Nat → Int64) ⊕ (Nat → UInt32) ⊕ (Nat → UInt64) ⊕ (Nat → Option Nat) :=
  if t = 1 then .inr (.inl (m_J μ a)) else if 4 ≤ t then .inr (.inr (.inr (.inr (fun k => (m_R μ a k).map (m_rho w))))) else .inl (m_I μ a)
def m_enc (w : mW) (μ : mM) (a : mA) : va_E := match m_shp a.1 with
  | some (.inl ci) => .inr (ci, m_fs w μ a ci)
  | some (.inr (t, n)) => .inl (w.2.2.2.1 t, n, m_ar w μ a t)
  | none => .inl (0, 0, .inl (fun _ => 0))
def m_WS (w : mW) (μ : mM) : va_W := (List.range μ.1).map (fun k => (w.1 + k, m_enc w μ (m_pl k)))
def m_H (w : mW) (μ : mM) (H : Heap) : Prop := va_P w.2.2.1 m_cl (m_WS w μ) H ∧ H.size = w.1 + μ.1
abbrev m_A (w : mW) : Nat → Prop := fun q => w.1 ≤ q
-- the plan
theorem m_idx_pl : ∀ k, k < 222 → m_idx (m_pl k) = k := by decide +kernel
theorem m_plL_len : m_plL.length = 222 := by decide +kernel
theorem m_pl_out {k : Nat} (h : 222 ≤ k) : m_pl k = (0, 0, 0) := by
  unfold m_pl
  rw [List.getD_eq_getElem?_getD, List.getElem?_eq_none (by rw [m_plL_len]; exact h)]
  rfl
theorem m_pl_inj {k : Nat} {a : mA} (h : m_pl k = a) (h0 : a.1 ≠ 0) : k = m_idx a := by
  rcases Nat.lt_or_ge k 222 with q | q
  · rw [← h, m_idx_pl k q]
  · rw [m_pl_out q] at h
    subst h
    exact absurd rfl h0
theorem m_ok_spec {μ : mM} {a : mA} (h : m_ok μ a = true) : a.1 ≠ 0 ∧ m_pl (m_idx a) = a ∧ m_idx a < μ.1 := by
  simp only [m_ok, Bool.and_eq_true, decide_eq_true_eq] at h
  exact h
theorem m_oo_spec {μ : mM} {ci : Nat} {x : Option mA} {a : mA} (h : m_oo μ ci x = some a) : x = some a ∧ m_shp a.1 = some (.inl ci) ∧ m_ok μ a = true := by
  unfold m_oo at h
  cases x with
  | none => cases h
  | some b =>
    simp only at h
    split at h
    next hc => cases h; exact ⟨rfl, hc⟩
    next => cases h
theorem m_oa_spec {μ : mM} {t : Nat} {x : Option mA} {i : Int32} {a : mA} (h : m_oa μ t x i = some a) : x = some a ∧ ∃ n, m_shp a.1 = some (.inr (t, n)) ∧ vp_in i n ∧ m_ok μ a = true := by
  unfold m_oa at h
  cases x with
  | none => cases h
  | some b =>
    simp only at h
    split at h
    next t' n hs =>
      split at h
      next hc =>
        cases h
        obtain ⟨rfl, h2, h3⟩ := hc
        exact ⟨rfl, n, hs, h2, h3⟩
      next => cases h
    next => cases h
theorem m_oc_spec {μ : mM} {t : Nat} {x : Option mA} {i n : Int32} {a : mA} (h : m_oc μ t x i n = some a) : x = some a ∧ ∃ N, m_shp a.1 = some (.inr (t, N)) ∧ ¬ i < 0 ∧ ¬ n < 0 ∧ i.toNatClampNeg + n.toNatClampNeg ≤ N ∧ m_ok μ a = true := by
  unfold m_oc at h
  cases x with
  | none => cases h
  | some b =>
    simp only at h
    split at h
    next t' N hs =>
      split at h
      next hc =>
        cases h
        obtain ⟨rfl, h2⟩ := hc
        exact ⟨rfl, N, hs, h2⟩
      next => cases h
    next => cases h
-- worlds
theorem m_WS_at {w : mW} {μ : mM} {a : mA} (h : m_ok μ a = true) : (m_WS w μ)[m_idx a]? = some (m_rho w a, m_enc w μ a) := by
  obtain ⟨h0, h1, h2⟩ := m_ok_spec h
  simp [m_WS, h2, h1, m_rho, h0]
theorem m_WS_set {w : mW} {μ μ' : mM} {a : mA} (h : m_ok μ a = true) (hn : μ'.1 = μ.1) (hb : ∀ b, b ≠ a → m_enc w μ' b = m_enc w μ b) : (m_WS w μ).set (m_idx a) (m_rho w a, m_enc w μ' a) = m_WS w μ' := by
  obtain ⟨h0, h1, h2⟩ := m_ok_spec h
  apply List.ext_getElem?
  intro j
  rw [List.getElem?_set]
  by_cases hj : m_idx a = j
  · subst hj
    simp [m_WS, h2, h1, m_rho, h0, hn]
  · rw [if_neg hj]
    simp only [m_WS, List.getElem?_map, hn]
    by_cases hl : j < μ.1
    · rw [List.getElem?_range hl]
      simp only [Option.map_some]
      rw [hb (m_pl j) (fun e => hj (m_pl_inj e h0).symm)]
    · rw [List.getElem?_eq_none (by simpa using hl)]
      rfl
theorem m_WS_push {w : mW} {μ μ' : mM} {x : va_E} (hn : μ'.1 = μ.1 + 1) (hb : ∀ k, k < μ.1 → m_enc w μ' (m_pl k) = m_enc w μ (m_pl k)) (hx : m_enc w μ' (m_pl μ.1) = x) : m_WS w μ ++ [(w.1 + μ.1, x)] = m_WS w μ' := by
  unfold m_WS
  rw [hn, List.range_succ, List.map_append]
  congr 1
  · apply List.map_congr_left
    intro k hk
    rw [hb k (List.mem_range.mp hk)]
  · simp [hx]
theorem m_WS_len {w : mW} {μ : mM} : (m_WS w μ).length = μ.1 := by simp [m_WS]
theorem m_D_of {w : mW} {μ : mM} : va_D (m_A w) (m_WS w μ) := by
  refine ⟨fun i j p q hi hj he => ?_, fun k q hk => ?_⟩
  · have li : i < μ.1 := by have := (List.getElem?_eq_some_iff.mp hi).1; rwa [m_WS_len] at this
    have lj : j < μ.1 := by have := (List.getElem?_eq_some_iff.mp hj).1; rwa [m_WS_len] at this
    simp only [m_WS, List.getElem?_map, List.getElem?_range li, List.getElem?_range lj, Option.map_some] at hi hj
    cases hi
    cases hj
    simp only at he
    omega
  · have lk : k < μ.1 := by have := (List.getElem?_eq_some_iff.mp hk).1; rwa [m_WS_len] at this
    simp only [m_WS, List.getElem?_map, List.getElem?_range lk, Option.map_some] at hk
    cases hk
    show w.1 ≤ w.1 + k
    omega
theorem m_enc_o {w : mW} {μ : mM} {a : mA} {ci : Nat} (h : m_shp a.1 = some (.inl ci)) : m_enc w μ a = .inr (ci, m_fs w μ a ci) := by
  unfold m_enc
  rw [h]
theorem m_enc_a {w : mW} {μ : mM} {a : mA} {t n : Nat} (h : m_shp a.1 = some (.inr (t, n))) : m_enc w μ a = .inl (w.2.2.2.1 t, n, m_ar w μ a t) := by
  unfold m_enc
  rw [h]
/-- what a cell's picture rests on -/
theorem m_enc_eq {w : mW} {μ μ' : mM} {b : mA} (h1 : m_I μ' b = m_I μ b) (h2 : m_J μ' b = m_J μ b) (h3 : m_R μ' b = m_R μ b) : m_enc w μ' b = m_enc w μ b := by
  unfold m_enc
  have hf : ∀ ci, m_fs w μ' b ci = m_fs w μ b ci := fun ci => by
    unfold m_fs m_fv
    rw [h1, h2, h3]
  have ha : ∀ t, m_ar w μ' b t = m_ar w μ b t := fun t => by
    unfold m_ar
    rw [h1, h2, h3]
  simp only [hf, ha]
theorem m_u_ne {α : Type} {f : mA → Nat → α} {a b : mA} {k : Nat} {v : α} (h : b ≠ a) : m_u f a k v b = f b := by
  funext j
  simp [m_u, h]
theorem m_row_ne {α : Type} {f : mA → Nat → α} {a b : mA} {g : Nat → α} (h : b ≠ a) : m_row f a g b = f b := by
  simp [m_row, h]
theorem m_mapset {α β : Type} (l : List α) (f f' : Nat → α → β) (k : Nat) (x : β) (h1 : ∀ t, l[k]? = some t → f' k t = x) (h2 : ∀ j t, j ≠ k → f' j t = f j t) : (l.mapIdx f).set k x = l.mapIdx f' := by
  apply List.ext_getElem?
  intro j
  rw [List.getElem?_set, List.getElem?_mapIdx, List.getElem?_mapIdx, List.length_mapIdx]
  by_cases hj : k = j
  · subst hj
    rw [if_pos rfl]
    by_cases hl : k < l.length
    · rw [if_pos hl, List.getElem?_eq_getElem hl, Option.map_some, h1 _ (List.getElem?_eq_getElem hl)]
    · rw [if_neg hl, List.getElem?_eq_none (by omega)]
      rfl
  · rw [if_neg hj]
    cases hlj : l[j]? with
    | none => rfl
    | some t => simp [h2 j t (fun e => hj e.symm)]
theorem m_fs_at {w : mW} {μ : mM} {a : mA} {ci kf t : Nat} (h : (m_ft ci)[kf]? = some t) : (m_fs w μ a ci)[kf]? = some (m_fv w μ a kf t) := by
  simp [m_fs, h]
theorem m_fs_len {w : mW} {μ : mM} {a : mA} {ci kf t : Nat} (h : (m_ft ci)[kf]? = some t) : kf < (m_fs w μ a ci).length := by
  rw [m_fs, List.length_mapIdx]
  exact (List.getElem?_eq_some_iff.mp h).1
theorem m_fs_sI {w : mW} {μ : mM} {a : mA} {ci kf t : Nat} {v : Int32} (h : (m_ft ci)[kf]? = some t) (ht : t ≠ 1 ∧ t ≠ 2) : (m_fs w μ a ci).set kf (.int v) = m_fs w (m_sI μ a kf v) a ci := by
  refine m_mapset _ _ _ _ _ (fun t' ht' => ?_) (fun j t' hj => ?_)
  · rw [h] at ht'
    cases ht'
    simp [m_fv, ht.1, ht.2, m_I, m_sI, m_u]
  · simp [m_fv, m_I, m_J, m_R, m_sI, m_u, hj]
theorem m_fs_sJ {w : mW} {μ : mM} {a : mA} {ci kf : Nat} {v : Int64} (h : (m_ft ci)[kf]? = some 1) : (m_fs w μ a ci).set kf (.long v) = m_fs w (m_sJ μ a kf v) a ci := by
  refine m_mapset _ _ _ _ _ (fun t' ht' => ?_) (fun j t' hj => ?_)
  · rw [h] at ht'
    cases ht'
    simp [m_fv, m_J, m_sJ, m_u]
  · simp [m_fv, m_I, m_J, m_R, m_sJ, m_u, hj]
theorem m_fs_sR {w : mW} {μ : mM} {a : mA} {ci kf : Nat} {v : Option mA} (h : (m_ft ci)[kf]? = some 2) : (m_fs w μ a ci).set kf (va_rf (v.map (m_rho w))) = m_fs w (m_sR μ a kf v) a ci := by
  refine m_mapset _ _ _ _ _ (fun t' ht' => ?_) (fun j t' hj => ?_)
  · rw [h] at ht'
    cases ht'
    simp [m_fv, m_R, m_sR, m_u]
  · simp [m_fv, m_I, m_J, m_R, m_sR, m_u, hj]
