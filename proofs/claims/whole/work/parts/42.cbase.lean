/-! Part 42, laid by wip/whole/cbase.py: the class's cells, how its programs are computed -/
/-- how many cells are made when family f (5: the spare plan) is -/
def fcnt (f : Nat) : Nat := match f with
  | 2 => 160
  | 3 => 191
  | 4 => 222
  | _ => 110
def clsR (n : Nat) (R : mA → Nat → Option mA) : Prop := 110 ≤ n
  ∧ R (1, 0, 0) 3 = some (2, 0, 0) ∧ R (1, 0, 0) 4 = some (5, 0, 0) ∧ R (1, 0, 0) 8 = some (16, 0, 0) ∧ R (1, 0, 0) 10 = some (17, 0, 0)
  ∧ R (1, 0, 0) 11 = some (20, 0, 0) ∧ R (1, 0, 0) 12 = some (23, 0, 0) ∧ R (1, 0, 0) 13 = some (29, 0, 0) ∧ R (1, 0, 0) 14 = some (32, 0, 0)
  ∧ R (5, 0, 0) 0 = some (6, 0, 0) ∧ R (17, 0, 0) 1 = some (12, 5, 0) ∧ R (17, 0, 0) 2 = some (18, 0, 0) ∧ R (17, 0, 0) 3 = some (19, 0, 0)
  ∧ R (20, 0, 0) 0 = some (21, 0, 0) ∧ R (20, 0, 0) 1 = some (22, 0, 0) ∧ R (23, 0, 0) 0 = some (24, 0, 0) ∧ R (23, 0, 0) 1 = some (25, 0, 0)
  ∧ R (23, 0, 0) 2 = some (26, 0, 0) ∧ R (23, 0, 0) 3 = some (27, 0, 0) ∧ R (23, 0, 0) 5 = some (28, 0, 0) ∧ R (29, 0, 0) 1 = some (30, 0, 0)
  ∧ R (29, 0, 0) 2 = some (31, 0, 0) ∧ (∀ i, i < 4 → R (2, 0, 0) i = some (3, 0, i)) ∧ (∀ i, i < 4 → R (3, 0, i) 2 = some (4, 0, i)) ∧ ∀ i, i < 10 → R (30, 0, 0) i = some (12, 6, i)
def famR (n : Nat) (R : mA → Nat → Option mA) (f : Nat) : Prop := f < 5 ∧ fcnt f ≤ n ∧ R (7, f, 0) 7 = some (8, f, 0) ∧ R (7, f, 0) 8 = some (11, f, 0)
  ∧ (∀ i, i < 6 → R (8, f, 0) i = some (9, f, i)) ∧ (∀ i, i < 6 → R (9, f, i) 4 = some (10, f, i)) ∧ ∀ i, i < 8 → R (11, f, 0) i = some (12, f, i)
def planR (n : Nat) (R : mA → Nat → Option mA) (g : Nat) : Prop := g < 6 ∧ fcnt g ≤ n ∧ R (13, g, 0) 2 = some (14, g, 0) ∧ R (13, g, 0) 3 = some (14, g, 1)
  ∧ R (13, g, 0) 4 = some (14, g, 2) ∧ R (13, g, 0) 5 = some (14, g, 3) ∧ R (13, g, 0) 6 = some (14, g, 4) ∧ R (13, g, 0) 11 = some (15, g, 0) ∧ R (13, g, 0) 12 = some (15, g, 1)
abbrev ClsP (μ : mM) : Prop := clsR μ.1 (m_R μ)
abbrev FamP (μ : mM) (f : Nat) : Prop := famR μ.1 (m_R μ) f
abbrev PlanP (μ : mM) (g : Nat) : Prop := planR μ.1 (m_R μ) g
theorem m_okN {μ : mM} {N : Nat} (h : N ≤ μ.1) {a : mA} (ha : (decide (a.1 ≠ 0) && (decide (m_pl (m_idx a) = a) && decide (m_idx a < N))) = true) : m_ok μ a = true := by
  simp only [m_ok, Bool.and_eq_true, decide_eq_true_eq] at ha ⊢
  exact ⟨ha.1, ha.2.1, by omega⟩
theorem e_main : (decide (((1, 0, 0) : mA).1 ≠ 0) && (decide (m_pl (m_idx (1, 0, 0)) = (1, 0, 0)) && decide (m_idx (1, 0, 0) < 110))) = true := by decide +kernel
theorem o_main {μ : mM} (h : ClsP μ) : oO μ 0 (1, 0, 0) := ⟨rfl, m_okN h.1 (e_main)⟩
theorem c_main_th {α : Type} {μ : mM} (h : ClsP μ) (T : mP α) : m_th 0 (some (1, 0, 0)) T μ = T μ := bd_th (o_main h) T
theorem c_main_gI {α : Type} {k : Nat} {μ : mM} (h : ClsP μ) (K : Int32 → mP α) : m_bd (m_gI 0 k (some (1, 0, 0))) K μ = K (m_I μ (1, 0, 0) k) μ := bd_gI (o_main h) K
theorem c_main_gJ {α : Type} {k : Nat} {μ : mM} (h : ClsP μ) (K : Int64 → mP α) : m_bd (m_gJ 0 k (some (1, 0, 0))) K μ = K (m_J μ (1, 0, 0) k) μ := bd_gJ (o_main h) K
theorem c_main_gR {α : Type} {k : Nat} {μ : mM} (h : ClsP μ) (K : Option mA → mP α) : m_bd (m_gR 0 k (some (1, 0, 0))) K μ = K (m_R μ (1, 0, 0) k) μ := bd_gR (o_main h) K
theorem c_main_pI {α : Type} {k : Nat} {μ : mM} (h : ClsP μ) (v : Int32) (K : Unit → mP α) : m_bd (m_pI 0 k (some (1, 0, 0)) v) K μ = K () (m_sI μ (1, 0, 0) k v) := bd_pI (o_main h) v K
theorem c_main_pJ {α : Type} {k : Nat} {μ : mM} (h : ClsP μ) (v : Int64) (K : Unit → mP α) : m_bd (m_pJ 0 k (some (1, 0, 0)) v) K μ = K () (m_sJ μ (1, 0, 0) k v) := bd_pJ (o_main h) v K
theorem c_main_pR {α : Type} {k : Nat} {μ : mM} (h : ClsP μ) (v : Option mA) (K : Unit → mP α) : m_bd (m_pR 0 k (some (1, 0, 0)) v) K μ = K () (m_sR μ (1, 0, 0) k v) := bd_pR (o_main h) v K
theorem c_main_pZ {α : Type} {k : Nat} {μ : mM} (h : ClsP μ) {v : Int32} (hv : v = 0 ∨ v = 1) (K : Unit → mP α) : m_bd (m_pZ 0 k (some (1, 0, 0)) v) K μ = K () (m_sI μ (1, 0, 0) k v) := bd_pZ (o_main h) hv K
theorem e_tray : ∀ i, i < 4 → (decide (((3, 0, i) : mA).1 ≠ 0) && (decide (m_pl (m_idx (3, 0, i)) = (3, 0, i)) && decide (m_idx (3, 0, i) < 110))) = true := by decide +kernel
theorem o_tray {μ : mM} {i : Nat} (h : ClsP μ) (hi : i < 4) : oO μ 1 (3, 0, i) := ⟨rfl, m_okN h.1 (e_tray _ hi)⟩
theorem c_tray_th {α : Type} {μ : mM} {i : Nat} (h : ClsP μ) (hi : i < 4) (T : mP α) : m_th 1 (some (3, 0, i)) T μ = T μ := bd_th (o_tray h hi) T
theorem c_tray_gI {α : Type} {k : Nat} {μ : mM} {i : Nat} (h : ClsP μ) (hi : i < 4) (K : Int32 → mP α) : m_bd (m_gI 1 k (some (3, 0, i))) K μ = K (m_I μ (3, 0, i) k) μ := bd_gI (o_tray h hi) K
theorem c_tray_gR {α : Type} {k : Nat} {μ : mM} {i : Nat} (h : ClsP μ) (hi : i < 4) (K : Option mA → mP α) : m_bd (m_gR 1 k (some (3, 0, i))) K μ = K (m_R μ (3, 0, i) k) μ := bd_gR (o_tray h hi) K
theorem c_tray_pI {α : Type} {k : Nat} {μ : mM} {i : Nat} (h : ClsP μ) (hi : i < 4) (v : Int32) (K : Unit → mP α) : m_bd (m_pI 1 k (some (3, 0, i)) v) K μ = K () (m_sI μ (3, 0, i) k v) := bd_pI (o_tray h hi) v K
theorem c_tray_pR {α : Type} {k : Nat} {μ : mM} {i : Nat} (h : ClsP μ) (hi : i < 4) (v : Option mA) (K : Unit → mP α) : m_bd (m_pR 1 k (some (3, 0, i)) v) K μ = K () (m_sR μ (3, 0, i) k v) := bd_pR (o_tray h hi) v K
theorem e_text : (decide (((5, 0, 0) : mA).1 ≠ 0) && (decide (m_pl (m_idx (5, 0, 0)) = (5, 0, 0)) && decide (m_idx (5, 0, 0) < 110))) = true := by decide +kernel
theorem o_text {μ : mM} (h : ClsP μ) : oO μ 2 (5, 0, 0) := ⟨rfl, m_okN h.1 (e_text)⟩
theorem c_text_th {α : Type} {μ : mM} (h : ClsP μ) (T : mP α) : m_th 2 (some (5, 0, 0)) T μ = T μ := bd_th (o_text h) T
theorem c_text_gI {α : Type} {k : Nat} {μ : mM} (h : ClsP μ) (K : Int32 → mP α) : m_bd (m_gI 2 k (some (5, 0, 0))) K μ = K (m_I μ (5, 0, 0) k) μ := bd_gI (o_text h) K
theorem c_text_gJ {α : Type} {k : Nat} {μ : mM} (h : ClsP μ) (K : Int64 → mP α) : m_bd (m_gJ 2 k (some (5, 0, 0))) K μ = K (m_J μ (5, 0, 0) k) μ := bd_gJ (o_text h) K
theorem c_text_gR {α : Type} {k : Nat} {μ : mM} (h : ClsP μ) (K : Option mA → mP α) : m_bd (m_gR 2 k (some (5, 0, 0))) K μ = K (m_R μ (5, 0, 0) k) μ := bd_gR (o_text h) K
theorem c_text_pI {α : Type} {k : Nat} {μ : mM} (h : ClsP μ) (v : Int32) (K : Unit → mP α) : m_bd (m_pI 2 k (some (5, 0, 0)) v) K μ = K () (m_sI μ (5, 0, 0) k v) := bd_pI (o_text h) v K
theorem c_text_pJ {α : Type} {k : Nat} {μ : mM} (h : ClsP μ) (v : Int64) (K : Unit → mP α) : m_bd (m_pJ 2 k (some (5, 0, 0)) v) K μ = K () (m_sJ μ (5, 0, 0) k v) := bd_pJ (o_text h) v K
theorem c_text_pR {α : Type} {k : Nat} {μ : mM} (h : ClsP μ) (v : Option mA) (K : Unit → mP α) : m_bd (m_pR 2 k (some (5, 0, 0)) v) K μ = K () (m_sR μ (5, 0, 0) k v) := bd_pR (o_text h) v K
theorem e_fam : ∀ f, f < 5 → (decide (((7, f, 0) : mA).1 ≠ 0) && (decide (m_pl (m_idx (7, f, 0)) = (7, f, 0)) && decide (m_idx (7, f, 0) < fcnt f))) = true := by decide +kernel
theorem o_fam {μ : mM} {f : Nat} (h : FamP μ f) : oO μ 3 (7, f, 0) := ⟨rfl, m_okN h.2.1 (e_fam _ h.1)⟩
theorem c_fam_th {α : Type} {μ : mM} {f : Nat} (h : FamP μ f) (T : mP α) : m_th 3 (some (7, f, 0)) T μ = T μ := bd_th (o_fam h) T
theorem c_fam_gI {α : Type} {k : Nat} {μ : mM} {f : Nat} (h : FamP μ f) (K : Int32 → mP α) : m_bd (m_gI 3 k (some (7, f, 0))) K μ = K (m_I μ (7, f, 0) k) μ := bd_gI (o_fam h) K
theorem c_fam_gR {α : Type} {k : Nat} {μ : mM} {f : Nat} (h : FamP μ f) (K : Option mA → mP α) : m_bd (m_gR 3 k (some (7, f, 0))) K μ = K (m_R μ (7, f, 0) k) μ := bd_gR (o_fam h) K
theorem c_fam_pI {α : Type} {k : Nat} {μ : mM} {f : Nat} (h : FamP μ f) (v : Int32) (K : Unit → mP α) : m_bd (m_pI 3 k (some (7, f, 0)) v) K μ = K () (m_sI μ (7, f, 0) k v) := bd_pI (o_fam h) v K
theorem c_fam_pR {α : Type} {k : Nat} {μ : mM} {f : Nat} (h : FamP μ f) (v : Option mA) (K : Unit → mP α) : m_bd (m_pR 3 k (some (7, f, 0)) v) K μ = K () (m_sR μ (7, f, 0) k v) := bd_pR (o_fam h) v K
theorem e_per : ∀ f, f < 5 → ∀ i, i < 6 → (decide (((9, f, i) : mA).1 ≠ 0) && (decide (m_pl (m_idx (9, f, i)) = (9, f, i)) && decide (m_idx (9, f, i) < fcnt f))) = true := by decide +kernel
theorem o_per {μ : mM} {f : Nat} {i : Nat} (h : FamP μ f) (hi : i < 6) : oO μ 4 (9, f, i) := ⟨rfl, m_okN h.2.1 (e_per _ h.1 _ hi)⟩
theorem c_per_th {α : Type} {μ : mM} {f : Nat} {i : Nat} (h : FamP μ f) (hi : i < 6) (T : mP α) : m_th 4 (some (9, f, i)) T μ = T μ := bd_th (o_per h hi) T
theorem c_per_gI {α : Type} {k : Nat} {μ : mM} {f : Nat} {i : Nat} (h : FamP μ f) (hi : i < 6) (K : Int32 → mP α) : m_bd (m_gI 4 k (some (9, f, i))) K μ = K (m_I μ (9, f, i) k) μ := bd_gI (o_per h hi) K
theorem c_per_gJ {α : Type} {k : Nat} {μ : mM} {f : Nat} {i : Nat} (h : FamP μ f) (hi : i < 6) (K : Int64 → mP α) : m_bd (m_gJ 4 k (some (9, f, i))) K μ = K (m_J μ (9, f, i) k) μ := bd_gJ (o_per h hi) K
theorem c_per_gR {α : Type} {k : Nat} {μ : mM} {f : Nat} {i : Nat} (h : FamP μ f) (hi : i < 6) (K : Option mA → mP α) : m_bd (m_gR 4 k (some (9, f, i))) K μ = K (m_R μ (9, f, i) k) μ := bd_gR (o_per h hi) K
theorem c_per_pI {α : Type} {k : Nat} {μ : mM} {f : Nat} {i : Nat} (h : FamP μ f) (hi : i < 6) (v : Int32) (K : Unit → mP α) : m_bd (m_pI 4 k (some (9, f, i)) v) K μ = K () (m_sI μ (9, f, i) k v) := bd_pI (o_per h hi) v K
theorem c_per_pJ {α : Type} {k : Nat} {μ : mM} {f : Nat} {i : Nat} (h : FamP μ f) (hi : i < 6) (v : Int64) (K : Unit → mP α) : m_bd (m_pJ 4 k (some (9, f, i)) v) K μ = K () (m_sJ μ (9, f, i) k v) := bd_pJ (o_per h hi) v K
theorem c_per_pR {α : Type} {k : Nat} {μ : mM} {f : Nat} {i : Nat} (h : FamP μ f) (hi : i < 6) (v : Option mA) (K : Unit → mP α) : m_bd (m_pR 4 k (some (9, f, i)) v) K μ = K () (m_sR μ (9, f, i) k v) := bd_pR (o_per h hi) v K
theorem c_per_pZ {α : Type} {k : Nat} {μ : mM} {f : Nat} {i : Nat} (h : FamP μ f) (hi : i < 6) {v : Int32} (hv : v = 0 ∨ v = 1) (K : Unit → mP α) : m_bd (m_pZ 4 k (some (9, f, i)) v) K μ = K () (m_sI μ (9, f, i) k v) := bd_pZ (o_per h hi) hv K
theorem e_thi : ∀ f, f < 5 → ∀ i, i < 8 → (decide (((12, f, i) : mA).1 ≠ 0) && (decide (m_pl (m_idx (12, f, i)) = (12, f, i)) && decide (m_idx (12, f, i) < fcnt f))) = true := by decide +kernel
theorem o_thi {μ : mM} {f : Nat} {i : Nat} (h : FamP μ f) (hi : i < 8) : oO μ 5 (12, f, i) := ⟨rfl, m_okN h.2.1 (e_thi _ h.1 _ hi)⟩
theorem c_thi_th {α : Type} {μ : mM} {f : Nat} {i : Nat} (h : FamP μ f) (hi : i < 8) (T : mP α) : m_th 5 (some (12, f, i)) T μ = T μ := bd_th (o_thi h hi) T
theorem c_thi_gI {α : Type} {k : Nat} {μ : mM} {f : Nat} {i : Nat} (h : FamP μ f) (hi : i < 8) (K : Int32 → mP α) : m_bd (m_gI 5 k (some (12, f, i))) K μ = K (m_I μ (12, f, i) k) μ := bd_gI (o_thi h hi) K
theorem c_thi_gJ {α : Type} {k : Nat} {μ : mM} {f : Nat} {i : Nat} (h : FamP μ f) (hi : i < 8) (K : Int64 → mP α) : m_bd (m_gJ 5 k (some (12, f, i))) K μ = K (m_J μ (12, f, i) k) μ := bd_gJ (o_thi h hi) K
theorem c_thi_pI {α : Type} {k : Nat} {μ : mM} {f : Nat} {i : Nat} (h : FamP μ f) (hi : i < 8) (v : Int32) (K : Unit → mP α) : m_bd (m_pI 5 k (some (12, f, i)) v) K μ = K () (m_sI μ (12, f, i) k v) := bd_pI (o_thi h hi) v K
theorem c_thi_pJ {α : Type} {k : Nat} {μ : mM} {f : Nat} {i : Nat} (h : FamP μ f) (hi : i < 8) (v : Int64) (K : Unit → mP α) : m_bd (m_pJ 5 k (some (12, f, i)) v) K μ = K () (m_sJ μ (12, f, i) k v) := bd_pJ (o_thi h hi) v K
theorem e_plan : ∀ f, f < 6 → (decide (((13, f, 0) : mA).1 ≠ 0) && (decide (m_pl (m_idx (13, f, 0)) = (13, f, 0)) && decide (m_idx (13, f, 0) < fcnt f))) = true := by decide +kernel
theorem o_plan {μ : mM} {f : Nat} (h : PlanP μ f) : oO μ 6 (13, f, 0) := ⟨rfl, m_okN h.2.1 (e_plan _ h.1)⟩
theorem c_plan_th {α : Type} {μ : mM} {f : Nat} (h : PlanP μ f) (T : mP α) : m_th 6 (some (13, f, 0)) T μ = T μ := bd_th (o_plan h) T
theorem c_plan_gI {α : Type} {k : Nat} {μ : mM} {f : Nat} (h : PlanP μ f) (K : Int32 → mP α) : m_bd (m_gI 6 k (some (13, f, 0))) K μ = K (m_I μ (13, f, 0) k) μ := bd_gI (o_plan h) K
theorem c_plan_gR {α : Type} {k : Nat} {μ : mM} {f : Nat} (h : PlanP μ f) (K : Option mA → mP α) : m_bd (m_gR 6 k (some (13, f, 0))) K μ = K (m_R μ (13, f, 0) k) μ := bd_gR (o_plan h) K
theorem c_plan_pI {α : Type} {k : Nat} {μ : mM} {f : Nat} (h : PlanP μ f) (v : Int32) (K : Unit → mP α) : m_bd (m_pI 6 k (some (13, f, 0)) v) K μ = K () (m_sI μ (13, f, 0) k v) := bd_pI (o_plan h) v K
theorem c_plan_pR {α : Type} {k : Nat} {μ : mM} {f : Nat} (h : PlanP μ f) (v : Option mA) (K : Unit → mP α) : m_bd (m_pR 6 k (some (13, f, 0)) v) K μ = K () (m_sR μ (13, f, 0) k v) := bd_pR (o_plan h) v K
theorem c_plan_pZ {α : Type} {k : Nat} {μ : mM} {f : Nat} (h : PlanP μ f) {v : Int32} (hv : v = 0 ∨ v = 1) (K : Unit → mP α) : m_bd (m_pZ 6 k (some (13, f, 0)) v) K μ = K () (m_sI μ (13, f, 0) k v) := bd_pZ (o_plan h) hv K
theorem e_ahd : (decide (((17, 0, 0) : mA).1 ≠ 0) && (decide (m_pl (m_idx (17, 0, 0)) = (17, 0, 0)) && decide (m_idx (17, 0, 0) < 110))) = true := by decide +kernel
theorem o_ahd {μ : mM} (h : ClsP μ) : oO μ 7 (17, 0, 0) := ⟨rfl, m_okN h.1 (e_ahd)⟩
theorem c_ahd_th {α : Type} {μ : mM} (h : ClsP μ) (T : mP α) : m_th 7 (some (17, 0, 0)) T μ = T μ := bd_th (o_ahd h) T
theorem c_ahd_gI {α : Type} {k : Nat} {μ : mM} (h : ClsP μ) (K : Int32 → mP α) : m_bd (m_gI 7 k (some (17, 0, 0))) K μ = K (m_I μ (17, 0, 0) k) μ := bd_gI (o_ahd h) K
theorem c_ahd_gR {α : Type} {k : Nat} {μ : mM} (h : ClsP μ) (K : Option mA → mP α) : m_bd (m_gR 7 k (some (17, 0, 0))) K μ = K (m_R μ (17, 0, 0) k) μ := bd_gR (o_ahd h) K
theorem c_ahd_pI {α : Type} {k : Nat} {μ : mM} (h : ClsP μ) (v : Int32) (K : Unit → mP α) : m_bd (m_pI 7 k (some (17, 0, 0)) v) K μ = K () (m_sI μ (17, 0, 0) k v) := bd_pI (o_ahd h) v K
theorem c_ahd_pR {α : Type} {k : Nat} {μ : mM} (h : ClsP μ) (v : Option mA) (K : Unit → mP α) : m_bd (m_pR 7 k (some (17, 0, 0)) v) K μ = K () (m_sR μ (17, 0, 0) k v) := bd_pR (o_ahd h) v K
theorem e_then : (decide (((12, 5, 0) : mA).1 ≠ 0) && (decide (m_pl (m_idx (12, 5, 0)) = (12, 5, 0)) && decide (m_idx (12, 5, 0) < 110))) = true := by decide +kernel
theorem o_then {μ : mM} (h : ClsP μ) : oO μ 5 (12, 5, 0) := ⟨rfl, m_okN h.1 (e_then)⟩
theorem c_then_th {α : Type} {μ : mM} (h : ClsP μ) (T : mP α) : m_th 5 (some (12, 5, 0)) T μ = T μ := bd_th (o_then h) T
theorem c_then_gI {α : Type} {k : Nat} {μ : mM} (h : ClsP μ) (K : Int32 → mP α) : m_bd (m_gI 5 k (some (12, 5, 0))) K μ = K (m_I μ (12, 5, 0) k) μ := bd_gI (o_then h) K
theorem c_then_gJ {α : Type} {k : Nat} {μ : mM} (h : ClsP μ) (K : Int64 → mP α) : m_bd (m_gJ 5 k (some (12, 5, 0))) K μ = K (m_J μ (12, 5, 0) k) μ := bd_gJ (o_then h) K
theorem c_then_pI {α : Type} {k : Nat} {μ : mM} (h : ClsP μ) (v : Int32) (K : Unit → mP α) : m_bd (m_pI 5 k (some (12, 5, 0)) v) K μ = K () (m_sI μ (12, 5, 0) k v) := bd_pI (o_then h) v K
theorem c_then_pJ {α : Type} {k : Nat} {μ : mM} (h : ClsP μ) (v : Int64) (K : Unit → mP α) : m_bd (m_pJ 5 k (some (12, 5, 0)) v) K μ = K () (m_sJ μ (12, 5, 0) k v) := bd_pJ (o_then h) v K
theorem e_sig : (decide (((20, 0, 0) : mA).1 ≠ 0) && (decide (m_pl (m_idx (20, 0, 0)) = (20, 0, 0)) && decide (m_idx (20, 0, 0) < 110))) = true := by decide +kernel
theorem o_sig {μ : mM} (h : ClsP μ) : oO μ 8 (20, 0, 0) := ⟨rfl, m_okN h.1 (e_sig)⟩
theorem c_sig_th {α : Type} {μ : mM} (h : ClsP μ) (T : mP α) : m_th 8 (some (20, 0, 0)) T μ = T μ := bd_th (o_sig h) T
theorem c_sig_gI {α : Type} {k : Nat} {μ : mM} (h : ClsP μ) (K : Int32 → mP α) : m_bd (m_gI 8 k (some (20, 0, 0))) K μ = K (m_I μ (20, 0, 0) k) μ := bd_gI (o_sig h) K
theorem c_sig_gR {α : Type} {k : Nat} {μ : mM} (h : ClsP μ) (K : Option mA → mP α) : m_bd (m_gR 8 k (some (20, 0, 0))) K μ = K (m_R μ (20, 0, 0) k) μ := bd_gR (o_sig h) K
theorem c_sig_pI {α : Type} {k : Nat} {μ : mM} (h : ClsP μ) (v : Int32) (K : Unit → mP α) : m_bd (m_pI 8 k (some (20, 0, 0)) v) K μ = K () (m_sI μ (20, 0, 0) k v) := bd_pI (o_sig h) v K
theorem c_sig_pR {α : Type} {k : Nat} {μ : mM} (h : ClsP μ) (v : Option mA) (K : Unit → mP α) : m_bd (m_pR 8 k (some (20, 0, 0)) v) K μ = K () (m_sR μ (20, 0, 0) k v) := bd_pR (o_sig h) v K
theorem e_kee : (decide (((23, 0, 0) : mA).1 ≠ 0) && (decide (m_pl (m_idx (23, 0, 0)) = (23, 0, 0)) && decide (m_idx (23, 0, 0) < 110))) = true := by decide +kernel
theorem o_kee {μ : mM} (h : ClsP μ) : oO μ 9 (23, 0, 0) := ⟨rfl, m_okN h.1 (e_kee)⟩
theorem c_kee_th {α : Type} {μ : mM} (h : ClsP μ) (T : mP α) : m_th 9 (some (23, 0, 0)) T μ = T μ := bd_th (o_kee h) T
theorem c_kee_gI {α : Type} {k : Nat} {μ : mM} (h : ClsP μ) (K : Int32 → mP α) : m_bd (m_gI 9 k (some (23, 0, 0))) K μ = K (m_I μ (23, 0, 0) k) μ := bd_gI (o_kee h) K
theorem c_kee_gR {α : Type} {k : Nat} {μ : mM} (h : ClsP μ) (K : Option mA → mP α) : m_bd (m_gR 9 k (some (23, 0, 0))) K μ = K (m_R μ (23, 0, 0) k) μ := bd_gR (o_kee h) K
theorem c_kee_pI {α : Type} {k : Nat} {μ : mM} (h : ClsP μ) (v : Int32) (K : Unit → mP α) : m_bd (m_pI 9 k (some (23, 0, 0)) v) K μ = K () (m_sI μ (23, 0, 0) k v) := bd_pI (o_kee h) v K
theorem c_kee_pR {α : Type} {k : Nat} {μ : mM} (h : ClsP μ) (v : Option mA) (K : Unit → mP α) : m_bd (m_pR 9 k (some (23, 0, 0)) v) K μ = K () (m_sR μ (23, 0, 0) k v) := bd_pR (o_kee h) v K
theorem e_gam : (decide (((29, 0, 0) : mA).1 ≠ 0) && (decide (m_pl (m_idx (29, 0, 0)) = (29, 0, 0)) && decide (m_idx (29, 0, 0) < 110))) = true := by decide +kernel
theorem o_gam {μ : mM} (h : ClsP μ) : oO μ 10 (29, 0, 0) := ⟨rfl, m_okN h.1 (e_gam)⟩
theorem c_gam_th {α : Type} {μ : mM} (h : ClsP μ) (T : mP α) : m_th 10 (some (29, 0, 0)) T μ = T μ := bd_th (o_gam h) T
theorem c_gam_gI {α : Type} {k : Nat} {μ : mM} (h : ClsP μ) (K : Int32 → mP α) : m_bd (m_gI 10 k (some (29, 0, 0))) K μ = K (m_I μ (29, 0, 0) k) μ := bd_gI (o_gam h) K
theorem c_gam_gR {α : Type} {k : Nat} {μ : mM} (h : ClsP μ) (K : Option mA → mP α) : m_bd (m_gR 10 k (some (29, 0, 0))) K μ = K (m_R μ (29, 0, 0) k) μ := bd_gR (o_gam h) K
theorem c_gam_pI {α : Type} {k : Nat} {μ : mM} (h : ClsP μ) (v : Int32) (K : Unit → mP α) : m_bd (m_pI 10 k (some (29, 0, 0)) v) K μ = K () (m_sI μ (29, 0, 0) k v) := bd_pI (o_gam h) v K
theorem c_gam_pR {α : Type} {k : Nat} {μ : mM} (h : ClsP μ) (v : Option mA) (K : Unit → mP α) : m_bd (m_pR 10 k (some (29, 0, 0)) v) K μ = K () (m_sR μ (29, 0, 0) k v) := bd_pR (o_gam h) v K
theorem e_brd : ∀ i, i < 10 → (decide (((12, 6, i) : mA).1 ≠ 0) && (decide (m_pl (m_idx (12, 6, i)) = (12, 6, i)) && decide (m_idx (12, 6, i) < 110))) = true := by decide +kernel
theorem o_brd {μ : mM} {i : Nat} (h : ClsP μ) (hi : i < 10) : oO μ 5 (12, 6, i) := ⟨rfl, m_okN h.1 (e_brd _ hi)⟩
theorem c_brd_th {α : Type} {μ : mM} {i : Nat} (h : ClsP μ) (hi : i < 10) (T : mP α) : m_th 5 (some (12, 6, i)) T μ = T μ := bd_th (o_brd h hi) T
theorem c_brd_gI {α : Type} {k : Nat} {μ : mM} {i : Nat} (h : ClsP μ) (hi : i < 10) (K : Int32 → mP α) : m_bd (m_gI 5 k (some (12, 6, i))) K μ = K (m_I μ (12, 6, i) k) μ := bd_gI (o_brd h hi) K
theorem c_brd_gJ {α : Type} {k : Nat} {μ : mM} {i : Nat} (h : ClsP μ) (hi : i < 10) (K : Int64 → mP α) : m_bd (m_gJ 5 k (some (12, 6, i))) K μ = K (m_J μ (12, 6, i) k) μ := bd_gJ (o_brd h hi) K
theorem c_brd_pI {α : Type} {k : Nat} {μ : mM} {i : Nat} (h : ClsP μ) (hi : i < 10) (v : Int32) (K : Unit → mP α) : m_bd (m_pI 5 k (some (12, 6, i)) v) K μ = K () (m_sI μ (12, 6, i) k v) := bd_pI (o_brd h hi) v K
theorem c_brd_pJ {α : Type} {k : Nat} {μ : mM} {i : Nat} (h : ClsP μ) (hi : i < 10) (v : Int64) (K : Unit → mP α) : m_bd (m_pJ 5 k (some (12, 6, i)) v) K μ = K () (m_sJ μ (12, 6, i) k v) := bd_pJ (o_brd h hi) v K
theorem e_trays : (decide (((2, 0, 0) : mA).1 ≠ 0) && (decide (m_pl (m_idx (2, 0, 0)) = (2, 0, 0)) && decide (m_idx (2, 0, 0) < 110))) = true := by decide +kernel
theorem o_trays {μ : mM} (h : ClsP μ) : oA μ 4 4 (2, 0, 0) := ⟨rfl, m_okN h.1 (e_trays)⟩
theorem c_trays_a {α : Type} {μ : mM} {j : Nat} (h : ClsP μ) (hj : j < 4) (K : Option mA → mP α) : m_bd (m_aR 4 (some (2, 0, 0)) (nI j)) K μ = K (m_R μ (2, 0, 0) j) μ := bd_aR (o_trays h) hj (by decide) K
theorem e_nums : ∀ i, i < 4 → (decide (((4, 0, i) : mA).1 ≠ 0) && (decide (m_pl (m_idx (4, 0, i)) = (4, 0, i)) && decide (m_idx (4, 0, i) < 110))) = true := by decide +kernel
theorem o_nums {μ : mM} {i : Nat} (h : ClsP μ) (hi : i < 4) : oA μ 1 60 (4, 0, i) := ⟨rfl, m_okN h.1 (e_nums _ hi)⟩
theorem c_nums_a {α : Type} {μ : mM} {i : Nat} {j : Nat} (h : ClsP μ) (hi : i < 4) (hj : j < 60) (K : Int64 → mP α) : m_bd (m_aJ (some (4, 0, i)) (nI j)) K μ = K (m_J μ (4, 0, i) j) μ := bd_aJ (o_nums h hi) hj (by decide) K
theorem c_nums_t {α : Type} {μ : mM} {i : Nat} {j : Nat} (h : ClsP μ) (hi : i < 4) (hj : j < 60) (v : Int64) (K : Unit → mP α) : m_bd (m_tJ (some (4, 0, i)) (nI j) v) K μ = K () (m_sJ μ (4, 0, i) j v) := bd_tJ (o_nums h hi) hj (by decide) v K
theorem e_bytes : (decide (((6, 0, 0) : mA).1 ≠ 0) && (decide (m_pl (m_idx (6, 0, 0)) = (6, 0, 0)) && decide (m_idx (6, 0, 0) < 110))) = true := by decide +kernel
theorem o_bytes {μ : mM} (h : ClsP μ) : oA μ 2 900 (6, 0, 0) := ⟨rfl, m_okN h.1 (e_bytes)⟩
theorem c_bytes_a {α : Type} {μ : mM} {j : Nat} (h : ClsP μ) (hj : j < 900) (K : Int32 → mP α) : m_bd (m_aI 2 (some (6, 0, 0)) (nI j)) K μ = K (m_I μ (6, 0, 0) j) μ := bd_aI (o_bytes h) hj (by decide) K
theorem c_bytes_t {α : Type} {μ : mM} {j : Nat} (h : ClsP μ) (hj : j < 900) (v : Int32) (K : Unit → mP α) : m_bd (m_tI 2 (some (6, 0, 0)) (nI j) v) K μ = K () (m_sI μ (6, 0, 0) j (m_nar 2 v)) := bd_tI (o_bytes h) hj (by decide) v K
theorem e_pers : ∀ f, f < 5 → (decide (((8, f, 0) : mA).1 ≠ 0) && (decide (m_pl (m_idx (8, f, 0)) = (8, f, 0)) && decide (m_idx (8, f, 0) < fcnt f))) = true := by decide +kernel
theorem o_pers {μ : mM} {f : Nat} (h : FamP μ f) : oA μ 6 6 (8, f, 0) := ⟨rfl, m_okN h.2.1 (e_pers _ h.1)⟩
theorem c_pers_a {α : Type} {μ : mM} {f : Nat} {j : Nat} (h : FamP μ f) (hj : j < 6) (K : Option mA → mP α) : m_bd (m_aR 6 (some (8, f, 0)) (nI j)) K μ = K (m_R μ (8, f, 0) j) μ := bd_aR (o_pers h) hj (by decide) K
theorem e_lov : ∀ f, f < 5 → ∀ i, i < 6 → (decide (((10, f, i) : mA).1 ≠ 0) && (decide (m_pl (m_idx (10, f, i)) = (10, f, i)) && decide (m_idx (10, f, i) < fcnt f))) = true := by decide +kernel
theorem o_lov {μ : mM} {f : Nat} {i : Nat} (h : FamP μ f) (hi : i < 6) : oA μ 0 8 (10, f, i) := ⟨rfl, m_okN h.2.1 (e_lov _ h.1 _ hi)⟩
theorem c_lov_a {α : Type} {μ : mM} {f : Nat} {i : Nat} {j : Nat} (h : FamP μ f) (hi : i < 6) (hj : j < 8) (K : Int32 → mP α) : m_bd (m_aI 0 (some (10, f, i)) (nI j)) K μ = K (m_I μ (10, f, i) j) μ := bd_aI (o_lov h hi) hj (by decide) K
theorem c_lov_t {α : Type} {μ : mM} {f : Nat} {i : Nat} {j : Nat} (h : FamP μ f) (hi : i < 6) (hj : j < 8) (v : Int32) (K : Unit → mP α) : m_bd (m_tI 0 (some (10, f, i)) (nI j) v) K μ = K () (m_sI μ (10, f, i) j v) := bd_tI (o_lov h hi) hj (by decide) v K
theorem e_itm : ∀ f, f < 5 → (decide (((11, f, 0) : mA).1 ≠ 0) && (decide (m_pl (m_idx (11, f, 0)) = (11, f, 0)) && decide (m_idx (11, f, 0) < fcnt f))) = true := by decide +kernel
theorem o_itm {μ : mM} {f : Nat} (h : FamP μ f) : oA μ 7 8 (11, f, 0) := ⟨rfl, m_okN h.2.1 (e_itm _ h.1)⟩
theorem c_itm_a {α : Type} {μ : mM} {f : Nat} {j : Nat} (h : FamP μ f) (hj : j < 8) (K : Option mA → mP α) : m_bd (m_aR 7 (some (11, f, 0)) (nI j)) K μ = K (m_R μ (11, f, 0) j) μ := bd_aR (o_itm h) hj (by decide) K
theorem e_parr : ∀ f, f < 6 → ∀ i, i < 5 → (decide (((14, f, i) : mA).1 ≠ 0) && (decide (m_pl (m_idx (14, f, i)) = (14, f, i)) && decide (m_idx (14, f, i) < fcnt f))) = true := by decide +kernel
theorem o_parr {μ : mM} {f : Nat} {i : Nat} (h : PlanP μ f) (hi : i < 5) : oA μ 0 30 (14, f, i) := ⟨rfl, m_okN h.2.1 (e_parr _ h.1 _ hi)⟩
theorem c_parr_a {α : Type} {μ : mM} {f : Nat} {i : Nat} {j : Nat} (h : PlanP μ f) (hi : i < 5) (hj : j < 30) (K : Int32 → mP α) : m_bd (m_aI 0 (some (14, f, i)) (nI j)) K μ = K (m_I μ (14, f, i) j) μ := bd_aI (o_parr h hi) hj (by decide) K
theorem c_parr_t {α : Type} {μ : mM} {f : Nat} {i : Nat} {j : Nat} (h : PlanP μ f) (hi : i < 5) (hj : j < 30) (v : Int32) (K : Unit → mP α) : m_bd (m_tI 0 (some (14, f, i)) (nI j) v) K μ = K () (m_sI μ (14, f, i) j v) := bd_tI (o_parr h hi) hj (by decide) v K
theorem e_plps : ∀ f, f < 6 → ∀ i, i < 2 → (decide (((15, f, i) : mA).1 ≠ 0) && (decide (m_pl (m_idx (15, f, i)) = (15, f, i)) && decide (m_idx (15, f, i) < fcnt f))) = true := by decide +kernel
theorem o_plps {μ : mM} {f : Nat} {i : Nat} (h : PlanP μ f) (hi : i < 2) : oA μ 0 3 (15, f, i) := ⟨rfl, m_okN h.2.1 (e_plps _ h.1 _ hi)⟩
theorem c_plps_a {α : Type} {μ : mM} {f : Nat} {i : Nat} {j : Nat} (h : PlanP μ f) (hi : i < 2) (hj : j < 3) (K : Int32 → mP α) : m_bd (m_aI 0 (some (15, f, i)) (nI j)) K μ = K (m_I μ (15, f, i) j) μ := bd_aI (o_plps h hi) hj (by decide) K
theorem c_plps_t {α : Type} {μ : mM} {f : Nat} {i : Nat} {j : Nat} (h : PlanP μ f) (hi : i < 2) (hj : j < 3) (v : Int32) (K : Unit → mP α) : m_bd (m_tI 0 (some (15, f, i)) (nI j) v) K μ = K () (m_sI μ (15, f, i) j v) := bd_tI (o_plps h hi) hj (by decide) v K
theorem e_mkd : (decide (((16, 0, 0) : mA).1 ≠ 0) && (decide (m_pl (m_idx (16, 0, 0)) = (16, 0, 0)) && decide (m_idx (16, 0, 0) < 110))) = true := by decide +kernel
theorem o_mkd {μ : mM} (h : ClsP μ) : oA μ 5 3 (16, 0, 0) := ⟨rfl, m_okN h.1 (e_mkd)⟩
theorem c_mkd_a {α : Type} {μ : mM} {j : Nat} (h : ClsP μ) (hj : j < 3) (K : Option mA → mP α) : m_bd (m_aR 5 (some (16, 0, 0)) (nI j)) K μ = K (m_R μ (16, 0, 0) j) μ := bd_aR (o_mkd h) hj (by decide) K
theorem e_sav : (decide (((18, 0, 0) : mA).1 ≠ 0) && (decide (m_pl (m_idx (18, 0, 0)) = (18, 0, 0)) && decide (m_idx (18, 0, 0) < 110))) = true := by decide +kernel
theorem o_sav {μ : mM} (h : ClsP μ) : oA μ 0 8 (18, 0, 0) := ⟨rfl, m_okN h.1 (e_sav)⟩
theorem c_sav_a {α : Type} {μ : mM} {j : Nat} (h : ClsP μ) (hj : j < 8) (K : Int32 → mP α) : m_bd (m_aI 0 (some (18, 0, 0)) (nI j)) K μ = K (m_I μ (18, 0, 0) j) μ := bd_aI (o_sav h) hj (by decide) K
theorem c_sav_t {α : Type} {μ : mM} {j : Nat} (h : ClsP μ) (hj : j < 8) (v : Int32) (K : Unit → mP α) : m_bd (m_tI 0 (some (18, 0, 0)) (nI j) v) K μ = K () (m_sI μ (18, 0, 0) j v) := bd_tI (o_sav h) hj (by decide) v K
theorem e_wut : (decide (((19, 0, 0) : mA).1 ≠ 0) && (decide (m_pl (m_idx (19, 0, 0)) = (19, 0, 0)) && decide (m_idx (19, 0, 0) < 110))) = true := by decide +kernel
theorem o_wut {μ : mM} (h : ClsP μ) : oA μ 0 727 (19, 0, 0) := ⟨rfl, m_okN h.1 (e_wut)⟩
theorem c_wut_a {α : Type} {μ : mM} {j : Nat} (h : ClsP μ) (hj : j < 727) (K : Int32 → mP α) : m_bd (m_aI 0 (some (19, 0, 0)) (nI j)) K μ = K (m_I μ (19, 0, 0) j) μ := bd_aI (o_wut h) hj (by decide) K
theorem c_wut_t {α : Type} {μ : mM} {j : Nat} (h : ClsP μ) (hj : j < 727) (v : Int32) (K : Unit → mP α) : m_bd (m_tI 0 (some (19, 0, 0)) (nI j) v) K μ = K () (m_sI μ (19, 0, 0) j v) := bd_tI (o_wut h) hj (by decide) v K
theorem c_wut_a0 {α : Type} {μ : mM} (h : ClsP μ) (K : Int32 → mP α) : m_bd (m_aI 0 (some (19, 0, 0)) 0) K μ = K (m_I μ (19, 0, 0) 0) μ := c_wut_a (j := 0) h (by decide) K
theorem c_wut_t0 {α : Type} {μ : mM} (h : ClsP μ) (v : Int32) (K : Unit → mP α) : m_bd (m_tI 0 (some (19, 0, 0)) 0 v) K μ = K () (m_sI μ (19, 0, 0) 0 v) := c_wut_t (j := 0) h (by decide) v K
theorem e_fits : (decide (((21, 0, 0) : mA).1 ≠ 0) && (decide (m_pl (m_idx (21, 0, 0)) = (21, 0, 0)) && decide (m_idx (21, 0, 0) < 110))) = true := by decide +kernel
theorem o_fits {μ : mM} (h : ClsP μ) : oA μ 3 19 (21, 0, 0) := ⟨rfl, m_okN h.1 (e_fits)⟩
theorem c_fits_a {α : Type} {μ : mM} {j : Nat} (h : ClsP μ) (hj : j < 19) (K : Int32 → mP α) : m_bd (m_aI 3 (some (21, 0, 0)) (nI j)) K μ = K (m_I μ (21, 0, 0) j) μ := bd_aI (o_fits h) hj (by decide) K
theorem c_fits_t {α : Type} {μ : mM} {j : Nat} (h : ClsP μ) (hj : j < 19) (v : Int32) (K : Unit → mP α) : m_bd (m_tI 3 (some (21, 0, 0)) (nI j) v) K μ = K () (m_sI μ (21, 0, 0) j (m_nar 3 v)) := bd_tI (o_fits h) hj (by decide) v K
theorem e_wsum : (decide (((22, 0, 0) : mA).1 ≠ 0) && (decide (m_pl (m_idx (22, 0, 0)) = (22, 0, 0)) && decide (m_idx (22, 0, 0) < 110))) = true := by decide +kernel
theorem o_wsum {μ : mM} (h : ClsP μ) : oA μ 0 19 (22, 0, 0) := ⟨rfl, m_okN h.1 (e_wsum)⟩
theorem c_wsum_a {α : Type} {μ : mM} {j : Nat} (h : ClsP μ) (hj : j < 19) (K : Int32 → mP α) : m_bd (m_aI 0 (some (22, 0, 0)) (nI j)) K μ = K (m_I μ (22, 0, 0) j) μ := bd_aI (o_wsum h) hj (by decide) K
theorem c_wsum_t {α : Type} {μ : mM} {j : Nat} (h : ClsP μ) (hj : j < 19) (v : Int32) (K : Unit → mP α) : m_bd (m_tI 0 (some (22, 0, 0)) (nI j) v) K μ = K () (m_sI μ (22, 0, 0) j v) := bd_tI (o_wsum h) hj (by decide) v K
theorem c_wsum_a0 {α : Type} {μ : mM} (h : ClsP μ) (K : Int32 → mP α) : m_bd (m_aI 0 (some (22, 0, 0)) 0) K μ = K (m_I μ (22, 0, 0) 0) μ := c_wsum_a (j := 0) h (by decide) K
theorem c_wsum_t0 {α : Type} {μ : mM} (h : ClsP μ) (v : Int32) (K : Unit → mP α) : m_bd (m_tI 0 (some (22, 0, 0)) 0 v) K μ = K () (m_sI μ (22, 0, 0) 0 v) := c_wsum_t (j := 0) h (by decide) v K
theorem e_ckp : (decide (((24, 0, 0) : mA).1 ≠ 0) && (decide (m_pl (m_idx (24, 0, 0)) = (24, 0, 0)) && decide (m_idx (24, 0, 0) < 110))) = true := by decide +kernel
theorem o_ckp {μ : mM} (h : ClsP μ) : oA μ 0 6 (24, 0, 0) := ⟨rfl, m_okN h.1 (e_ckp)⟩
theorem c_ckp_a {α : Type} {μ : mM} {j : Nat} (h : ClsP μ) (hj : j < 6) (K : Int32 → mP α) : m_bd (m_aI 0 (some (24, 0, 0)) (nI j)) K μ = K (m_I μ (24, 0, 0) j) μ := bd_aI (o_ckp h) hj (by decide) K
theorem c_ckp_t {α : Type} {μ : mM} {j : Nat} (h : ClsP μ) (hj : j < 6) (v : Int32) (K : Unit → mP α) : m_bd (m_tI 0 (some (24, 0, 0)) (nI j) v) K μ = K () (m_sI μ (24, 0, 0) j v) := bd_tI (o_ckp h) hj (by decide) v K
theorem e_ckr : (decide (((25, 0, 0) : mA).1 ≠ 0) && (decide (m_pl (m_idx (25, 0, 0)) = (25, 0, 0)) && decide (m_idx (25, 0, 0) < 110))) = true := by decide +kernel
theorem o_ckr {μ : mM} (h : ClsP μ) : oA μ 0 8 (25, 0, 0) := ⟨rfl, m_okN h.1 (e_ckr)⟩
theorem c_ckr_a {α : Type} {μ : mM} {j : Nat} (h : ClsP μ) (hj : j < 8) (K : Int32 → mP α) : m_bd (m_aI 0 (some (25, 0, 0)) (nI j)) K μ = K (m_I μ (25, 0, 0) j) μ := bd_aI (o_ckr h) hj (by decide) K
theorem c_ckr_t {α : Type} {μ : mM} {j : Nat} (h : ClsP μ) (hj : j < 8) (v : Int32) (K : Unit → mP α) : m_bd (m_tI 0 (some (25, 0, 0)) (nI j) v) K μ = K () (m_sI μ (25, 0, 0) j v) := bd_tI (o_ckr h) hj (by decide) v K
theorem e_cas : (decide (((26, 0, 0) : mA).1 ≠ 0) && (decide (m_pl (m_idx (26, 0, 0)) = (26, 0, 0)) && decide (m_idx (26, 0, 0) < 110))) = true := by decide +kernel
theorem o_cas {μ : mM} (h : ClsP μ) : oA μ 0 6 (26, 0, 0) := ⟨rfl, m_okN h.1 (e_cas)⟩
theorem c_cas_a {α : Type} {μ : mM} {j : Nat} (h : ClsP μ) (hj : j < 6) (K : Int32 → mP α) : m_bd (m_aI 0 (some (26, 0, 0)) (nI j)) K μ = K (m_I μ (26, 0, 0) j) μ := bd_aI (o_cas h) hj (by decide) K
theorem c_cas_t {α : Type} {μ : mM} {j : Nat} (h : ClsP μ) (hj : j < 6) (v : Int32) (K : Unit → mP α) : m_bd (m_tI 0 (some (26, 0, 0)) (nI j) v) K μ = K () (m_sI μ (26, 0, 0) j v) := bd_tI (o_cas h) hj (by decide) v K
theorem e_cmb : (decide (((27, 0, 0) : mA).1 ≠ 0) && (decide (m_pl (m_idx (27, 0, 0)) = (27, 0, 0)) && decide (m_idx (27, 0, 0) < 110))) = true := by decide +kernel
theorem o_cmb {μ : mM} (h : ClsP μ) : oA μ 0 6 (27, 0, 0) := ⟨rfl, m_okN h.1 (e_cmb)⟩
theorem c_cmb_a {α : Type} {μ : mM} {j : Nat} (h : ClsP μ) (hj : j < 6) (K : Int32 → mP α) : m_bd (m_aI 0 (some (27, 0, 0)) (nI j)) K μ = K (m_I μ (27, 0, 0) j) μ := bd_aI (o_cmb h) hj (by decide) K
theorem c_cmb_t {α : Type} {μ : mM} {j : Nat} (h : ClsP μ) (hj : j < 6) (v : Int32) (K : Unit → mP α) : m_bd (m_tI 0 (some (27, 0, 0)) (nI j) v) K μ = K () (m_sI μ (27, 0, 0) j v) := bd_tI (o_cmb h) hj (by decide) v K
theorem e_clb : (decide (((28, 0, 0) : mA).1 ≠ 0) && (decide (m_pl (m_idx (28, 0, 0)) = (28, 0, 0)) && decide (m_idx (28, 0, 0) < 110))) = true := by decide +kernel
theorem o_clb {μ : mM} (h : ClsP μ) : oA μ 0 256 (28, 0, 0) := ⟨rfl, m_okN h.1 (e_clb)⟩
theorem c_clb_a {α : Type} {μ : mM} {j : Nat} (h : ClsP μ) (hj : j < 256) (K : Int32 → mP α) : m_bd (m_aI 0 (some (28, 0, 0)) (nI j)) K μ = K (m_I μ (28, 0, 0) j) μ := bd_aI (o_clb h) hj (by decide) K
theorem c_clb_t {α : Type} {μ : mM} {j : Nat} (h : ClsP μ) (hj : j < 256) (v : Int32) (K : Unit → mP α) : m_bd (m_tI 0 (some (28, 0, 0)) (nI j) v) K μ = K () (m_sI μ (28, 0, 0) j v) := bd_tI (o_clb h) hj (by decide) v K
theorem c_clb_a0 {α : Type} {μ : mM} (h : ClsP μ) (K : Int32 → mP α) : m_bd (m_aI 0 (some (28, 0, 0)) 0) K μ = K (m_I μ (28, 0, 0) 0) μ := c_clb_a (j := 0) h (by decide) K
theorem c_clb_t0 {α : Type} {μ : mM} (h : ClsP μ) (v : Int32) (K : Unit → mP α) : m_bd (m_tI 0 (some (28, 0, 0)) 0 v) K μ = K () (m_sI μ (28, 0, 0) 0 v) := c_clb_t (j := 0) h (by decide) v K
theorem e_brds : (decide (((30, 0, 0) : mA).1 ≠ 0) && (decide (m_pl (m_idx (30, 0, 0)) = (30, 0, 0)) && decide (m_idx (30, 0, 0) < 110))) = true := by decide +kernel
theorem o_brds {μ : mM} (h : ClsP μ) : oA μ 7 10 (30, 0, 0) := ⟨rfl, m_okN h.1 (e_brds)⟩
theorem c_brds_a {α : Type} {μ : mM} {j : Nat} (h : ClsP μ) (hj : j < 10) (K : Option mA → mP α) : m_bd (m_aR 7 (some (30, 0, 0)) (nI j)) K μ = K (m_R μ (30, 0, 0) j) μ := bd_aR (o_brds h) hj (by decide) K
theorem e_glv : (decide (((31, 0, 0) : mA).1 ≠ 0) && (decide (m_pl (m_idx (31, 0, 0)) = (31, 0, 0)) && decide (m_idx (31, 0, 0) < 110))) = true := by decide +kernel
theorem o_glv {μ : mM} (h : ClsP μ) : oA μ 0 10 (31, 0, 0) := ⟨rfl, m_okN h.1 (e_glv)⟩
theorem c_glv_a {α : Type} {μ : mM} {j : Nat} (h : ClsP μ) (hj : j < 10) (K : Int32 → mP α) : m_bd (m_aI 0 (some (31, 0, 0)) (nI j)) K μ = K (m_I μ (31, 0, 0) j) μ := bd_aI (o_glv h) hj (by decide) K
theorem c_glv_t {α : Type} {μ : mM} {j : Nat} (h : ClsP μ) (hj : j < 10) (v : Int32) (K : Unit → mP α) : m_bd (m_tI 0 (some (31, 0, 0)) (nI j) v) K μ = K () (m_sI μ (31, 0, 0) j v) := bd_tI (o_glv h) hj (by decide) v K
theorem e_clv : (decide (((32, 0, 0) : mA).1 ≠ 0) && (decide (m_pl (m_idx (32, 0, 0)) = (32, 0, 0)) && decide (m_idx (32, 0, 0) < 110))) = true := by decide +kernel
theorem o_clv {μ : mM} (h : ClsP μ) : oA μ 0 5 (32, 0, 0) := ⟨rfl, m_okN h.1 (e_clv)⟩
theorem c_clv_a {α : Type} {μ : mM} {j : Nat} (h : ClsP μ) (hj : j < 5) (K : Int32 → mP α) : m_bd (m_aI 0 (some (32, 0, 0)) (nI j)) K μ = K (m_I μ (32, 0, 0) j) μ := bd_aI (o_clv h) hj (by decide) K
theorem c_clv_t {α : Type} {μ : mM} {j : Nat} (h : ClsP μ) (hj : j < 5) (v : Int32) (K : Unit → mP α) : m_bd (m_tI 0 (some (32, 0, 0)) (nI j) v) K μ = K () (m_sI μ (32, 0, 0) j v) := bd_tI (o_clv h) hj (by decide) v K
theorem c_clv_a0 {α : Type} {μ : mM} (h : ClsP μ) (K : Int32 → mP α) : m_bd (m_aI 0 (some (32, 0, 0)) 0) K μ = K (m_I μ (32, 0, 0) 0) μ := c_clv_a (j := 0) h (by decide) K
theorem c_clv_t0 {α : Type} {μ : mM} (h : ClsP μ) (v : Int32) (K : Unit → mP α) : m_bd (m_tI 0 (some (32, 0, 0)) 0 v) K μ = K () (m_sI μ (32, 0, 0) 0 v) := c_clv_t (j := 0) h (by decide) v K
theorem c_clv_a1 {α : Type} {μ : mM} (h : ClsP μ) (K : Int32 → mP α) : m_bd (m_aI 0 (some (32, 0, 0)) 1) K μ = K (m_I μ (32, 0, 0) 1) μ := c_clv_a (j := 1) h (by decide) K
theorem c_clv_t1 {α : Type} {μ : mM} (h : ClsP μ) (v : Int32) (K : Unit → mP α) : m_bd (m_tI 0 (some (32, 0, 0)) 1 v) K μ = K () (m_sI μ (32, 0, 0) 1 v) := c_clv_t (j := 1) h (by decide) v K
theorem c_clv_a2 {α : Type} {μ : mM} (h : ClsP μ) (K : Int32 → mP α) : m_bd (m_aI 0 (some (32, 0, 0)) 2) K μ = K (m_I μ (32, 0, 0) 2) μ := c_clv_a (j := 2) h (by decide) K
theorem c_clv_t2 {α : Type} {μ : mM} (h : ClsP μ) (v : Int32) (K : Unit → mP α) : m_bd (m_tI 0 (some (32, 0, 0)) 2 v) K μ = K () (m_sI μ (32, 0, 0) 2 v) := c_clv_t (j := 2) h (by decide) v K
theorem c_clv_a3 {α : Type} {μ : mM} (h : ClsP μ) (K : Int32 → mP α) : m_bd (m_aI 0 (some (32, 0, 0)) 3) K μ = K (m_I μ (32, 0, 0) 3) μ := c_clv_a (j := 3) h (by decide) K
theorem c_clv_t3 {α : Type} {μ : mM} (h : ClsP μ) (v : Int32) (K : Unit → mP α) : m_bd (m_tI 0 (some (32, 0, 0)) 3 v) K μ = K () (m_sI μ (32, 0, 0) 3 v) := c_clv_t (j := 3) h (by decide) v K
theorem c_clv_a4 {α : Type} {μ : mM} (h : ClsP μ) (K : Int32 → mP α) : m_bd (m_aI 0 (some (32, 0, 0)) 4) K μ = K (m_I μ (32, 0, 0) 4) μ := c_clv_a (j := 4) h (by decide) K
theorem c_clv_t4 {α : Type} {μ : mM} (h : ClsP μ) (v : Int32) (K : Unit → mP α) : m_bd (m_tI 0 (some (32, 0, 0)) 4 v) K μ = K () (m_sI μ (32, 0, 0) 4 v) := c_clv_t (j := 4) h (by decide) v K
theorem c_main_r3 {α : Type} {μ : mM} (h : ClsP μ) (K : Option mA → mP α) : m_bd (m_gR 0 3 (some (1, 0, 0))) K μ = K (some (2, 0, 0)) μ := by rw [bd_gR (o_main h), h.2.1]
theorem c_main_r4 {α : Type} {μ : mM} (h : ClsP μ) (K : Option mA → mP α) : m_bd (m_gR 0 4 (some (1, 0, 0))) K μ = K (some (5, 0, 0)) μ := by rw [bd_gR (o_main h), h.2.2.1]
theorem c_main_r8 {α : Type} {μ : mM} (h : ClsP μ) (K : Option mA → mP α) : m_bd (m_gR 0 8 (some (1, 0, 0))) K μ = K (some (16, 0, 0)) μ := by rw [bd_gR (o_main h), h.2.2.2.1]
theorem c_main_r10 {α : Type} {μ : mM} (h : ClsP μ) (K : Option mA → mP α) : m_bd (m_gR 0 10 (some (1, 0, 0))) K μ = K (some (17, 0, 0)) μ := by rw [bd_gR (o_main h), h.2.2.2.2.1]
theorem c_main_r11 {α : Type} {μ : mM} (h : ClsP μ) (K : Option mA → mP α) : m_bd (m_gR 0 11 (some (1, 0, 0))) K μ = K (some (20, 0, 0)) μ := by rw [bd_gR (o_main h), h.2.2.2.2.2.1]
theorem c_main_r12 {α : Type} {μ : mM} (h : ClsP μ) (K : Option mA → mP α) : m_bd (m_gR 0 12 (some (1, 0, 0))) K μ = K (some (23, 0, 0)) μ := by rw [bd_gR (o_main h), h.2.2.2.2.2.2.1]
theorem c_main_r13 {α : Type} {μ : mM} (h : ClsP μ) (K : Option mA → mP α) : m_bd (m_gR 0 13 (some (1, 0, 0))) K μ = K (some (29, 0, 0)) μ := by rw [bd_gR (o_main h), h.2.2.2.2.2.2.2.1]
theorem c_main_r14 {α : Type} {μ : mM} (h : ClsP μ) (K : Option mA → mP α) : m_bd (m_gR 0 14 (some (1, 0, 0))) K μ = K (some (32, 0, 0)) μ := by rw [bd_gR (o_main h), h.2.2.2.2.2.2.2.2.1]
theorem c_text_r0 {α : Type} {μ : mM} (h : ClsP μ) (K : Option mA → mP α) : m_bd (m_gR 2 0 (some (5, 0, 0))) K μ = K (some (6, 0, 0)) μ := by rw [bd_gR (o_text h), h.2.2.2.2.2.2.2.2.2.1]
theorem c_ahd_r1 {α : Type} {μ : mM} (h : ClsP μ) (K : Option mA → mP α) : m_bd (m_gR 7 1 (some (17, 0, 0))) K μ = K (some (12, 5, 0)) μ := by rw [bd_gR (o_ahd h), h.2.2.2.2.2.2.2.2.2.2.1]
theorem c_ahd_r2 {α : Type} {μ : mM} (h : ClsP μ) (K : Option mA → mP α) : m_bd (m_gR 7 2 (some (17, 0, 0))) K μ = K (some (18, 0, 0)) μ := by rw [bd_gR (o_ahd h), h.2.2.2.2.2.2.2.2.2.2.2.1]
theorem c_ahd_r3 {α : Type} {μ : mM} (h : ClsP μ) (K : Option mA → mP α) : m_bd (m_gR 7 3 (some (17, 0, 0))) K μ = K (some (19, 0, 0)) μ := by rw [bd_gR (o_ahd h), h.2.2.2.2.2.2.2.2.2.2.2.2.1]
theorem c_sig_r0 {α : Type} {μ : mM} (h : ClsP μ) (K : Option mA → mP α) : m_bd (m_gR 8 0 (some (20, 0, 0))) K μ = K (some (21, 0, 0)) μ := by rw [bd_gR (o_sig h), h.2.2.2.2.2.2.2.2.2.2.2.2.2.1]
theorem c_sig_r1 {α : Type} {μ : mM} (h : ClsP μ) (K : Option mA → mP α) : m_bd (m_gR 8 1 (some (20, 0, 0))) K μ = K (some (22, 0, 0)) μ := by rw [bd_gR (o_sig h), h.2.2.2.2.2.2.2.2.2.2.2.2.2.2.1]
theorem c_kee_r0 {α : Type} {μ : mM} (h : ClsP μ) (K : Option mA → mP α) : m_bd (m_gR 9 0 (some (23, 0, 0))) K μ = K (some (24, 0, 0)) μ := by rw [bd_gR (o_kee h), h.2.2.2.2.2.2.2.2.2.2.2.2.2.2.2.1]
theorem c_kee_r1 {α : Type} {μ : mM} (h : ClsP μ) (K : Option mA → mP α) : m_bd (m_gR 9 1 (some (23, 0, 0))) K μ = K (some (25, 0, 0)) μ := by rw [bd_gR (o_kee h), h.2.2.2.2.2.2.2.2.2.2.2.2.2.2.2.2.1]
theorem c_kee_r2 {α : Type} {μ : mM} (h : ClsP μ) (K : Option mA → mP α) : m_bd (m_gR 9 2 (some (23, 0, 0))) K μ = K (some (26, 0, 0)) μ := by rw [bd_gR (o_kee h), h.2.2.2.2.2.2.2.2.2.2.2.2.2.2.2.2.2.1]
theorem c_kee_r3 {α : Type} {μ : mM} (h : ClsP μ) (K : Option mA → mP α) : m_bd (m_gR 9 3 (some (23, 0, 0))) K μ = K (some (27, 0, 0)) μ := by rw [bd_gR (o_kee h), h.2.2.2.2.2.2.2.2.2.2.2.2.2.2.2.2.2.2.1]
theorem c_kee_r5 {α : Type} {μ : mM} (h : ClsP μ) (K : Option mA → mP α) : m_bd (m_gR 9 5 (some (23, 0, 0))) K μ = K (some (28, 0, 0)) μ := by rw [bd_gR (o_kee h), h.2.2.2.2.2.2.2.2.2.2.2.2.2.2.2.2.2.2.2.1]
theorem c_gam_r1 {α : Type} {μ : mM} (h : ClsP μ) (K : Option mA → mP α) : m_bd (m_gR 10 1 (some (29, 0, 0))) K μ = K (some (30, 0, 0)) μ := by rw [bd_gR (o_gam h), h.2.2.2.2.2.2.2.2.2.2.2.2.2.2.2.2.2.2.2.2.1]
theorem c_gam_r2 {α : Type} {μ : mM} (h : ClsP μ) (K : Option mA → mP α) : m_bd (m_gR 10 2 (some (29, 0, 0))) K μ = K (some (31, 0, 0)) μ := by rw [bd_gR (o_gam h), h.2.2.2.2.2.2.2.2.2.2.2.2.2.2.2.2.2.2.2.2.2.1]
theorem c_trays_r {α : Type} {μ : mM} {j : Nat} (h : ClsP μ) (hj : j < 4) (K : Option mA → mP α) : m_bd (m_aR 4 (some (2, 0, 0)) (nI j)) K μ = K (some (3, 0, j)) μ := by rw [c_trays_a h hj, h.2.2.2.2.2.2.2.2.2.2.2.2.2.2.2.2.2.2.2.2.2.2.1 j hj]
theorem c_tray_r2 {α : Type} {μ : mM} {i : Nat} (h : ClsP μ) (hi : i < 4) (K : Option mA → mP α) : m_bd (m_gR 1 2 (some (3, 0, i))) K μ = K (some (4, 0, i)) μ := by rw [c_tray_gR h hi, h.2.2.2.2.2.2.2.2.2.2.2.2.2.2.2.2.2.2.2.2.2.2.2.1 i hi]
theorem c_brds_r {α : Type} {μ : mM} {j : Nat} (h : ClsP μ) (hj : j < 10) (K : Option mA → mP α) : m_bd (m_aR 7 (some (30, 0, 0)) (nI j)) K μ = K (some (12, 6, j)) μ := by rw [c_brds_a h hj, h.2.2.2.2.2.2.2.2.2.2.2.2.2.2.2.2.2.2.2.2.2.2.2.2 j hj]
theorem c_brds_r0 {α : Type} {μ : mM} (h : ClsP μ) (K : Option mA → mP α) : m_bd (m_aR 7 (some (30, 0, 0)) 0) K μ = K (some (12, 6, 0)) μ := c_brds_r (j := 0) h (by decide) K
theorem c_brds_r1 {α : Type} {μ : mM} (h : ClsP μ) (K : Option mA → mP α) : m_bd (m_aR 7 (some (30, 0, 0)) 1) K μ = K (some (12, 6, 1)) μ := c_brds_r (j := 1) h (by decide) K
theorem c_fam_r7 {α : Type} {μ : mM} {f : Nat} (h : FamP μ f) (K : Option mA → mP α) : m_bd (m_gR 3 7 (some (7, f, 0))) K μ = K (some (8, f, 0)) μ := by rw [c_fam_gR h, h.2.2.1]
theorem c_fam_r8 {α : Type} {μ : mM} {f : Nat} (h : FamP μ f) (K : Option mA → mP α) : m_bd (m_gR 3 8 (some (7, f, 0))) K μ = K (some (11, f, 0)) μ := by rw [c_fam_gR h, h.2.2.2.1]
theorem c_pers_r {α : Type} {μ : mM} {f j : Nat} (h : FamP μ f) (hj : j < 6) (K : Option mA → mP α) : m_bd (m_aR 6 (some (8, f, 0)) (nI j)) K μ = K (some (9, f, j)) μ := by rw [c_pers_a h hj, h.2.2.2.2.1 j hj]
theorem c_per_r4 {α : Type} {μ : mM} {f i : Nat} (h : FamP μ f) (hi : i < 6) (K : Option mA → mP α) : m_bd (m_gR 4 4 (some (9, f, i))) K μ = K (some (10, f, i)) μ := by rw [c_per_gR h hi, h.2.2.2.2.2.1 i hi]
theorem c_itm_r {α : Type} {μ : mM} {f j : Nat} (h : FamP μ f) (hj : j < 8) (K : Option mA → mP α) : m_bd (m_aR 7 (some (11, f, 0)) (nI j)) K μ = K (some (12, f, j)) μ := by rw [c_itm_a h hj, h.2.2.2.2.2.2 j hj]
theorem c_plan_r2 {α : Type} {μ : mM} {f : Nat} (h : PlanP μ f) (K : Option mA → mP α) : m_bd (m_gR 6 2 (some (13, f, 0))) K μ = K (some (14, f, 0)) μ := by rw [c_plan_gR h, h.2.2.1]
theorem c_plan_r3 {α : Type} {μ : mM} {f : Nat} (h : PlanP μ f) (K : Option mA → mP α) : m_bd (m_gR 6 3 (some (13, f, 0))) K μ = K (some (14, f, 1)) μ := by rw [c_plan_gR h, h.2.2.2.1]
theorem c_plan_r4 {α : Type} {μ : mM} {f : Nat} (h : PlanP μ f) (K : Option mA → mP α) : m_bd (m_gR 6 4 (some (13, f, 0))) K μ = K (some (14, f, 2)) μ := by rw [c_plan_gR h, h.2.2.2.2.1]
theorem c_plan_r5 {α : Type} {μ : mM} {f : Nat} (h : PlanP μ f) (K : Option mA → mP α) : m_bd (m_gR 6 5 (some (13, f, 0))) K μ = K (some (14, f, 3)) μ := by rw [c_plan_gR h, h.2.2.2.2.2.1]
theorem c_plan_r6 {α : Type} {μ : mM} {f : Nat} (h : PlanP μ f) (K : Option mA → mP α) : m_bd (m_gR 6 6 (some (13, f, 0))) K μ = K (some (14, f, 4)) μ := by rw [c_plan_gR h, h.2.2.2.2.2.2.1]
theorem c_plan_r11 {α : Type} {μ : mM} {f : Nat} (h : PlanP μ f) (K : Option mA → mP α) : m_bd (m_gR 6 11 (some (13, f, 0))) K μ = K (some (15, f, 0)) μ := by rw [c_plan_gR h, h.2.2.2.2.2.2.2.1]
theorem c_plan_r12 {α : Type} {μ : mM} {f : Nat} (h : PlanP μ f) (K : Option mA → mP α) : m_bd (m_gR 6 12 (some (13, f, 0))) K μ = K (some (15, f, 1)) μ := by rw [c_plan_gR h, h.2.2.2.2.2.2.2.2]
theorem c_main_R5 {α : Type} {μ : mM} (h : ClsP μ) (K : Option mA → mP α) : m_bd (m_gR 0 5 (some (1, 0, 0))) K μ = K (m_R μ (1, 0, 0) 5) μ := c_main_gR h K
theorem c_main_R6 {α : Type} {μ : mM} (h : ClsP μ) (K : Option mA → mP α) : m_bd (m_gR 0 6 (some (1, 0, 0))) K μ = K (m_R μ (1, 0, 0) 6) μ := c_main_gR h K
theorem c_main_R7 {α : Type} {μ : mM} (h : ClsP μ) (K : Option mA → mP α) : m_bd (m_gR 0 7 (some (1, 0, 0))) K μ = K (m_R μ (1, 0, 0) 7) μ := c_main_gR h K
theorem c_fam_R9 {α : Type} {μ : mM} {f : Nat} (h : FamP μ f) (K : Option mA → mP α) : m_bd (m_gR 3 9 (some (7, f, 0))) K μ = K (m_R μ (7, f, 0) 9) μ := c_fam_gR h K
