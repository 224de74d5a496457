/-! Part 05, laid by wip/whole/core3.py: rules for what touches cells -/
/-- a field's link: own class and place of the pool, class and field of the world, whether it is final, its type -/
def m_FL (own : String) (idx ci kf : Nat) (fin : Bool) (ty : FieldType) : Prop := ∃ (C : String) (T : u_T) (N : Nat) (y0 : Nat → FieldType), m_cl[ci]? = some (C, T, N) ∧ kf < N ∧ Cond.fieldLink own idx (T kf).1 (T kf).2.1 (T kf).2.2.1 ∈ m_tb ∧ (∀ q ∈ u_ws C T N, q ∈ m_tb) ∧ (T kf).2.2.2 = fin ∧ (T kf).1 = C ∧ (∀ k, k < N → parseFieldDescriptor (T k).2.2.1 = some (y0 k)) ∧ (∀ a, a < N → ∀ b, b < N → a ≠ b → (T a).2.1 ≠ (T b).2.1) ∧ parseFieldDescriptor (T kf).2.2.1 = some ty
theorem m_H_put {w : mW} {μ μ' : mM} {H H' : Heap} {b : mA} (hH : m_H w μ H) (hok : m_ok μ b = true) (hn : μ'.1 = μ.1) (he : ∀ x, x ≠ b → m_enc w μ' x = m_enc w μ x) (hat : va_at w.2.2.1 m_cl (m_rho w b, m_enc w μ' b) H') (hz : H'.size = H.size) (oq : ∀ q, q ≠ m_rho w b → H'[q]? = H[q]?) : m_H w μ' H' :=
  ⟨by rw [← m_WS_set hok hn he]; exact hH.1.set m_D_of (m_WS_at hok) hat oq, by rw [hz, hn]; exact hH.2⟩
theorem m_rho_A {w : mW} {μ : mM} {b : mA} (hok : m_ok μ b = true) : m_A w (m_rho w b) := by
  show w.1 ≤ m_rho w b
  rw [m_rho, if_neg (m_ok_spec hok).1]
  omega
theorem m_tys_at {w : mW} {t : Nat} (h : t < 8) : (m_tys w)[t]? = some (w.2.2.2.1 t, m_ty t) := by
  simp [m_tys, h]
theorem m_obj {w : mW} {μ : mM} {H : Heap} {b : mA} {ci : Nat} (hH : m_H w μ H) (hs : m_shp b.1 = some (.inl ci)) (hok : m_ok μ b = true) : va_at w.2.2.1 m_cl (m_rho w b, .inr (ci, m_fs w μ b ci)) H := by
  have := hH.1 _ _ (m_WS_at (w := w) hok)
  rwa [m_enc_o hs] at this
theorem m_arr {w : mW} {μ : mM} {H : Heap} {b : mA} {t n : Nat} (hH : m_H w μ H) (hs : m_shp b.1 = some (.inr (t, n))) (hok : m_ok μ b = true) : H[m_rho w b]? = some (vp_cell (w.2.2.2.1 t) (n, m_ar w μ b t)) := by
  have := hH.1 _ _ (m_WS_at (w := w) hok)
  rwa [m_enc_a hs] at this
theorem m_enc_sI {w : mW} {μ : mM} {b : mA} {k : Nat} {v : Int32} : ∀ x, x ≠ b → m_enc w (m_sI μ b k v) x = m_enc w μ x := fun x hx => m_enc_eq (m_u_ne hx) rfl rfl
theorem m_enc_sJ {w : mW} {μ : mM} {b : mA} {k : Nat} {v : Int64} : ∀ x, x ≠ b → m_enc w (m_sJ μ b k v) x = m_enc w μ x := fun x hx => m_enc_eq rfl (m_u_ne hx) rfl
theorem m_enc_sR {w : mW} {μ : mM} {b : mA} {k : Nat} {v : Option mA} : ∀ x, x ≠ b → m_enc w (m_sR μ b k v) x = m_enc w μ x := fun x hx => m_enc_eq rfl rfl (m_u_ne hx)
theorem m_enc_rI {w : mW} {μ : mM} {b : mA} {g : Nat → Int32} : ∀ x, x ≠ b → m_enc w (m_rI μ b g) x = m_enc w μ x := fun x hx => m_enc_eq (m_row_ne hx) rfl rfl
theorem m_enc_rJ {w : mW} {μ : mM} {b : mA} {g : Nat → Int64} : ∀ x, x ≠ b → m_enc w (m_rJ μ b g) x = m_enc w μ x := fun x hx => m_enc_eq rfl (m_row_ne hx) rfl
theorem m_refv (w : mW) (r : Option mA) (ty : FieldType) (h : ty.isReference = true) : narrow ty (va_rf (r.map (m_rho w))) = va_rf (r.map (m_rho w)) ∧ fits ty (va_rf (r.map (m_rho w))) = true := by
  cases ty <;> cases r <;> first | exact ⟨rfl, rfl⟩ | cases h
theorem m_nfw : nativeFrameWords "java/lang/System" "arraycopy" 5 ≤ 40 := by decide
theorem m_shp_lt {x t n : Nat} (h : m_shp x = some (.inr (t, n))) : t < 8 := by
  unfold m_shp at h
  split at h <;> cases h <;> decide
section HEAP
variable {k : mKt} {d mc ms : Nat} {α : Type} {pc pc' : Nat} {L L' : List (Nat × mV)} {st : List mV} {post : α → mC}
theorem sm_getI {idx ci kf tc : Nat} {fin : Bool} {fty : FieldType} {x : Option mA} {f : Int32 → mP α} (hd : m_D k pc (.getfield idx) 3) (hp : pc + 3 = pc') (hF : m_FL k.1.cls idx ci kf fin fty) (ht : (m_ft ci)[kf]? = some tc) (htc : tc ≠ 1 ∧ tc ≠ 2) (h : ∀ v, m_Sim k d mc ms (.inl (pc', L, .inl v :: st)) (f v) post) : m_Sim k d mc ms (.inl (pc, L, .inr (.inr x) :: st)) (m_bd (m_gI ci kf x) f) post := by
  subst hp
  intro w p l e R s m args below meth c cells slots Q C hc hs μ a μ' hT hk H locs ls a1 a2 a3
  obtain ⟨hx, hb, hml, hown, hts, hr, hlk, hnm, hK, hf, hlo, hga⟩ := id C
  obtain ⟨v, μ1, e1, e2⟩ := m_bd_some hT
  unfold m_gI at e1
  split at e1
  next => cases e1
  next b hob =>
    cases e1
    obtain ⟨rfl, hs1, hok⟩ := m_oo_spec hob
    obtain ⟨C0, T0, N0, y0, g1, g2, g3, g4, -⟩ := hF
    refine va_get (D := w.2.2.1) (cl := m_cl) (tys := m_tys w) (ws := m_WS w μ) (ci := ci) (C := C0) (T := T0) (N := N0) (fs := m_fs w μ b ci) hx hb hts g4 hown hK.1 a1.1 (m_idx b) (by rw [m_WS_at hok, m_enc_o hs1]) g1 kf g2 (hts _ g3) (fun _ z => z) (m_fs_at ht) hd ?_
    rw [show m_fv w μ b kf tc = .int (m_I μ b kf) by simp [m_fv, htc.1, htc.2]]
    exact h _ w p l e R s m args below meth c cells slots Q C hc hs μ a μ' e2 hk H locs ls a1 a2 a3
theorem sm_getJ {idx ci kf tc : Nat} {fin : Bool} {fty : FieldType} {x : Option mA} {f : Int64 → mP α} (hd : m_D k pc (.getfield idx) 3) (hp : pc + 3 = pc') (hF : m_FL k.1.cls idx ci kf fin fty) (ht : (m_ft ci)[kf]? = some tc) (htc : tc = 1) (h : ∀ v, m_Sim k d mc ms (.inl (pc', L, .inr (.inl v) :: st)) (f v) post) : m_Sim k d mc ms (.inl (pc, L, .inr (.inr x) :: st)) (m_bd (m_gJ ci kf x) f) post := by
  subst hp
  intro w p l e R s m args below meth c cells slots Q C hc hs μ a μ' hT hk H locs ls a1 a2 a3
  obtain ⟨hx, hb, hml, hown, hts, hr, hlk, hnm, hK, hf, hlo, hga⟩ := id C
  obtain ⟨v, μ1, e1, e2⟩ := m_bd_some hT
  unfold m_gJ at e1
  split at e1
  next => cases e1
  next b hob =>
    cases e1
    obtain ⟨rfl, hs1, hok⟩ := m_oo_spec hob
    obtain ⟨C0, T0, N0, y0, g1, g2, g3, g4, -⟩ := hF
    refine va_get (D := w.2.2.1) (cl := m_cl) (tys := m_tys w) (ws := m_WS w μ) (ci := ci) (C := C0) (T := T0) (N := N0) (fs := m_fs w μ b ci) hx hb hts g4 hown hK.1 a1.1 (m_idx b) (by rw [m_WS_at hok, m_enc_o hs1]) g1 kf g2 (hts _ g3) (fun _ z => z) (m_fs_at ht) hd ?_
    rw [show m_fv w μ b kf tc = .long (m_J μ b kf) by simp [m_fv, htc]]
    exact h _ w p l e R s m args below meth c cells slots Q C hc hs μ a μ' e2 hk H locs ls a1 a2 a3
theorem sm_getR {idx ci kf tc : Nat} {fin : Bool} {fty : FieldType} {x : Option mA} {f : Option mA → mP α} (hd : m_D k pc (.getfield idx) 3) (hp : pc + 3 = pc') (hF : m_FL k.1.cls idx ci kf fin fty) (ht : (m_ft ci)[kf]? = some tc) (htc : tc = 2) (h : ∀ v, m_Sim k d mc ms (.inl (pc', L, .inr (.inr v) :: st)) (f v) post) : m_Sim k d mc ms (.inl (pc, L, .inr (.inr x) :: st)) (m_bd (m_gR ci kf x) f) post := by
  subst hp
  intro w p l e R s m args below meth c cells slots Q C hc hs μ a μ' hT hk H locs ls a1 a2 a3
  obtain ⟨hx, hb, hml, hown, hts, hr, hlk, hnm, hK, hf, hlo, hga⟩ := id C
  obtain ⟨v, μ1, e1, e2⟩ := m_bd_some hT
  unfold m_gR at e1
  split at e1
  next => cases e1
  next b hob =>
    cases e1
    obtain ⟨rfl, hs1, hok⟩ := m_oo_spec hob
    obtain ⟨C0, T0, N0, y0, g1, g2, g3, g4, -⟩ := hF
    refine va_get (D := w.2.2.1) (cl := m_cl) (tys := m_tys w) (ws := m_WS w μ) (ci := ci) (C := C0) (T := T0) (N := N0) (fs := m_fs w μ b ci) hx hb hts g4 hown hK.1 a1.1 (m_idx b) (by rw [m_WS_at hok, m_enc_o hs1]) g1 kf g2 (hts _ g3) (fun _ z => z) (m_fs_at ht) hd ?_
    rw [show m_fv w μ b kf tc = va_rf ((m_R μ b kf).map (m_rho w)) by simp [m_fv, htc]]
    exact h _ w p l e R s m args below meth c cells slots Q C hc hs μ a μ' e2 hk H locs ls a1 a2 a3
/-- a field is put: the cells behind it -/
theorem m_putK {w : mW} {p : Program} {l : Launch} {e : Env} {R : Room} {s : State} {m : MethodId} {args : Array Value} {below : List Frame} {meth : Method} {c : Code} {cells slots : Nat} {Q : State → Prop} {idx ci kf : Nat} {fin : Bool} {fty : FieldType} {b : mA} {v : Value} {μ μ' : mM} {H : Heap} {locs : List Loc} {ls : Array Slot} {rest : List Value}
    (C : m_Cx w k d p R s m args meth c) (hd : m_D k pc (.putfield idx) 3) (hF : m_FL k.1.cls idx ci kf fin fty) (hfin : fin = false ∨ (k.1.name = "<init>" ∧ m_cl[ci]?.map (fun q => q.1) = some k.1.cls)) (hv : narrow fty v = v ∧ fits fty v = true) (hs1 : m_shp b.1 = some (.inl ci)) (hok : m_ok μ b = true)
    (hn : μ'.1 = μ.1) (he : ∀ x, x ≠ b → m_enc w μ' x = m_enc w μ x) (hfs : (m_fs w μ b ci).set kf v = m_fs w μ' b ci) (hl : kf < (m_fs w μ b ci).length) (a1 : m_H w μ H) (a2 : va_S (m_A w) w.2.1 H locs)
    (kk : ∀ (H1 : Heap) (locs1 : List Loc), m_H w μ' H1 → va_S (m_A w) w.2.1 H1 locs1 → W p l e R s m args below meth c H1 locs1 cells slots Q (F0 m (pc + 3) ls rest)) : W p l e R s m args below meth c H locs cells slots Q (F0 m pc ls (v :: .ref (m_rho w b) :: rest)) := by
  obtain ⟨hx, hb, hml, hown, hts, hr, hlk, hnm, hK, hf, hlo, hga⟩ := C
  obtain ⟨C0, T0, N0, y0, g1, g2, g3, g4, g5, g6, g7, g8, g9⟩ := hF
  have hap := va_apart (own := k.1.cls) hts g4 y0 g7 g8 hK.1 g1
  obtain ⟨r, h1, cell, q1, q2, q3, q4⟩ := m_obj a1 hs1 hok
  have hr1 : r = (C0, T0, N0) := Option.some.inj (h1.symm.trans g1)
  subst hr1
  obtain ⟨hS, hfc, kC, hkC, hkind⟩ := hK.1.1 ci _ g1
  obtain ⟨cf, kf2, fi, f, hi, hsl⟩ := hS kf g2
  have hlay := hts _ (g4 _ (u_in_lay g2))
  unfold u_lay at hlay
  have hst := (u_facts hfc hkC (u_lays hts g4 g2) hi).1
  have fill : ∀ H' : Heap, H'[m_rho w b]? = some (cell.setSlot (w.2.2.1.2 ci kf) v) → H'.size = H.size → (∀ q, q ≠ m_rho w b → H'[q]? = H[q]?) → m_H w μ' H' := fun H' e1 e2 e3 =>
    m_H_put a1 hok hn he (by rw [m_enc_o hs1, ← hfs]; exact ⟨_, g1, t_OB.to (V := updV (vp_V (m_fs w μ b ci)) kf v) ⟨_, e1, q2, q3, t_set q4 hap g2 v⟩ (fun j _ => vp_updV_set hl v j)⟩) e2 e3
  by_cases hfn : (T0 kf).2.2.2 = true
  · rw [if_pos hfn] at hlay
    have hF2 : k.1.name = "<init>" ∧ m_cl[ci]?.map (fun q => q.1) = some k.1.cls := by
      rcases hfin with z | z
      · rw [← g5, hfn] at z; cases z
      · exact z
    have hdecl : (T0 kf).1 = k.1.cls := by
      rw [g1] at hF2
      rw [g6]
      exact Option.some.inj hF2.2
    have hcf : m.cls = cf := by
      obtain ⟨_, _, c', _, _, _, -, -, hf', -, -, -, hown2, -⟩ := Cond.laysFinal_spec hlay
      have e1 : c' = cf := by have := hi.symm.trans hf'; simp at this; exact this.1.symm
      rw [hdecl] at hown2
      rw [← e1]; exact Option.some.inj (hown.symm.trans hown2)
    have h6 := u_fits hfc hkC hkind (Or.inr hlay) hi g9 hv.1 hv.2
    refine W.putFinK hx hb hown (hts _ g3) hi hst hcf (by rw [hnm]; exact hF2.1) (by rw [q2]; exact h6) q1 q3 (by rw [hsl]; exact k2_hasslot (q4 kf g2)) rfl rfl hd fun H' e1 e2 e3 => ?_
    rw [hsl] at e1 ⊢
    exact kk H' _ (fill H' e1 e2 e3) (a2.put e2 e3 (m_rho_A hok))
  · rw [if_neg hfn] at hlay
    have h6 := u_store hfc hkC hkind hlay hi g9 hv.1 hv.2
    refine W.putK hx hb (f := f) ⟨hown, hts _ g3, ⟨_, _, _, hi⟩, hst⟩ (by rw [q2]; exact h6) q1 q3 (by rw [hsl]; exact k2_hasslot (q4 kf g2)) rfl rfl hd fun H' e1 e2 e3 => ?_
    rw [hsl] at e1 ⊢
    exact kk H' _ (fill H' e1 e2 e3) (a2.put e2 e3 (m_rho_A hok))
theorem sm_putI {idx ci kf : Nat} {fin : Bool} {x : Option mA} {v : Int32} {f : Unit → mP α} (hd : m_D k pc (.putfield idx) 3) (hp : pc + 3 = pc') (hF : m_FL k.1.cls idx ci kf fin .int) (hfin : fin = false ∨ (k.1.name = "<init>" ∧ m_cl[ci]?.map (fun q => q.1) = some k.1.cls)) (ht : (m_ft ci)[kf]? = some 0) (h : m_Sim k d mc ms (.inl (pc', L, st)) (f ()) post) : m_Sim k d mc ms (.inl (pc, L, .inl v :: .inr (.inr x) :: st)) (m_bd (m_pI ci kf x v) f) post := by
  subst hp
  intro w p l e R s m args below meth c cells slots Q C hc hs μ a μ' hT hk H locs ls a1 a2 a3
  obtain ⟨u, μ1, e1, e2⟩ := m_bd_some hT
  unfold m_pI at e1
  split at e1
  next => cases e1
  next b hob =>
    cases e1
    obtain ⟨rfl, hs1, hok⟩ := m_oo_spec hob
    exact m_putK (μ' := m_sI μ b kf v) C hd hF hfin ⟨vp_nar_int v, rfl⟩ hs1 hok rfl m_enc_sI (m_fs_sI ht ⟨by decide, by decide⟩) (m_fs_len ht) a1 a2 (fun H1 locs1 b1 b2 => h w p l e R s m args below meth c cells slots Q C hc hs _ a μ' e2 hk H1 locs1 ls b1 b2 a3)
theorem sm_putZ {idx ci kf : Nat} {fin : Bool} {x : Option mA} {v : Int32} {f : Unit → mP α} (hd : m_D k pc (.putfield idx) 3) (hp : pc + 3 = pc') (hF : m_FL k.1.cls idx ci kf fin .boolean) (hfin : fin = false ∨ (k.1.name = "<init>" ∧ m_cl[ci]?.map (fun q => q.1) = some k.1.cls)) (ht : (m_ft ci)[kf]? = some 3) (h : m_Sim k d mc ms (.inl (pc', L, st)) (f ()) post) : m_Sim k d mc ms (.inl (pc, L, .inl v :: .inr (.inr x) :: st)) (m_bd (m_pZ ci kf x v) f) post := by
  subst hp
  intro w p l e R s m args below meth c cells slots Q C hc hs μ a μ' hT hk H locs ls a1 a2 a3
  obtain ⟨u, μ1, e1, e2⟩ := m_bd_some hT
  unfold m_pZ at e1
  split at e1
  next => cases e1
  next b hob =>
    split at e1
    next hv =>
      cases e1
      obtain ⟨rfl, hs1, hok⟩ := m_oo_spec hob
      exact m_putK (μ' := m_sI μ b kf v) C hd hF hfin (by rcases hv with rfl | rfl <;> exact ⟨rfl, rfl⟩) hs1 hok rfl m_enc_sI (m_fs_sI ht ⟨by decide, by decide⟩) (m_fs_len ht) a1 a2 (fun H1 locs1 b1 b2 => h w p l e R s m args below meth c cells slots Q C hc hs _ a μ' e2 hk H1 locs1 ls b1 b2 a3)
    next => cases e1
theorem sm_putJ {idx ci kf : Nat} {fin : Bool} {x : Option mA} {v : Int64} {f : Unit → mP α} (hd : m_D k pc (.putfield idx) 3) (hp : pc + 3 = pc') (hF : m_FL k.1.cls idx ci kf fin .long) (hfin : fin = false ∨ (k.1.name = "<init>" ∧ m_cl[ci]?.map (fun q => q.1) = some k.1.cls)) (ht : (m_ft ci)[kf]? = some 1) (h : m_Sim k d mc ms (.inl (pc', L, st)) (f ()) post) : m_Sim k d mc ms (.inl (pc, L, .inr (.inl v) :: .inr (.inr x) :: st)) (m_bd (m_pJ ci kf x v) f) post := by
  subst hp
  intro w p l e R s m args below meth c cells slots Q C hc hs μ a μ' hT hk H locs ls a1 a2 a3
  obtain ⟨u, μ1, e1, e2⟩ := m_bd_some hT
  unfold m_pJ at e1
  split at e1
  next => cases e1
  next b hob =>
    cases e1
    obtain ⟨rfl, hs1, hok⟩ := m_oo_spec hob
    exact m_putK (μ' := m_sJ μ b kf v) C hd hF hfin ⟨rfl, rfl⟩ hs1 hok rfl m_enc_sJ (m_fs_sJ ht) (m_fs_len ht) a1 a2 (fun H1 locs1 b1 b2 => h w p l e R s m args below meth c cells slots Q C hc hs _ a μ' e2 hk H1 locs1 ls b1 b2 a3)
theorem sm_putR {idx ci kf : Nat} {fin : Bool} {fty : FieldType} {x : Option mA} {v : Option mA} {f : Unit → mP α} (hd : m_D k pc (.putfield idx) 3) (hp : pc + 3 = pc') (hF : m_FL k.1.cls idx ci kf fin fty) (hrf : fty.isReference = true) (hfin : fin = false ∨ (k.1.name = "<init>" ∧ m_cl[ci]?.map (fun q => q.1) = some k.1.cls)) (ht : (m_ft ci)[kf]? = some 2) (h : m_Sim k d mc ms (.inl (pc', L, st)) (f ()) post) : m_Sim k d mc ms (.inl (pc, L, .inr (.inr v) :: .inr (.inr x) :: st)) (m_bd (m_pR ci kf x v) f) post := by
  subst hp
  intro w p l e R s m args below meth c cells slots Q C hc hs μ a μ' hT hk H locs ls a1 a2 a3
  obtain ⟨u, μ1, e1, e2⟩ := m_bd_some hT
  unfold m_pR at e1
  split at e1
  next => cases e1
  next b hob =>
    cases e1
    obtain ⟨rfl, hs1, hok⟩ := m_oo_spec hob
    exact m_putK (μ' := m_sR μ b kf v) C hd hF hfin (m_refv w v fty hrf) hs1 hok rfl m_enc_sR (m_fs_sR ht) (m_fs_len ht) a1 a2 (fun H1 locs1 b1 b2 => h w p l e R s m args below meth c cells slots Q C hc hs _ a μ' e2 hk H1 locs1 ls b1 b2 a3)
theorem sm_iald {x : Option mA} {i : Int32} {f : Int32 → mP α} (hd : m_D k pc .iaload 1) (hp : pc + 1 = pc') (h : ∀ v, m_Sim k d mc ms (.inl (pc', L, .inl v :: st)) (f v) post) : m_Sim k d mc ms (.inl (pc, L, .inl i :: .inr (.inr x) :: st)) (m_bd (m_aI 0 x i) f) post := by
  subst hp
  intro w p l e R s m args below meth c cells slots Q C hc hs μ a μ' hT hk H locs ls a1 a2 a3
  obtain ⟨hx, hb, hml, hown, hts, hr, hlk, hnm, hK, hf, hlo, hga⟩ := id C
  obtain ⟨v, μ1, e1, e2⟩ := m_bd_some hT
  unfold m_aI at e1
  split at e1
  next => cases e1
  next b hob =>
    cases e1
    obtain ⟨rfl, n, hs1, hin, hok⟩ := m_oa_spec hob
    have hk2 := h _ w p l e R s m args below meth c cells slots Q C hc hs μ a μ' e2 hk H locs ls a1 a2 a3
    exact va_iald (D := w.2.2.1) (cl := m_cl) (tys := m_tys w) (ws := m_WS w μ) hx hb hK.1 a1.1 (m_idx b) 0 (by rw [m_WS_at hok, m_enc_a hs1]; rfl) (m_tys_at (by decide)) hin hd hk2
theorem sm_bald {x : Option mA} {i : Int32} {f : Int32 → mP α} (hd : m_D k pc .baload 1) (hp : pc + 1 = pc') (h : ∀ v, m_Sim k d mc ms (.inl (pc', L, .inl v :: st)) (f v) post) : m_Sim k d mc ms (.inl (pc, L, .inl i :: .inr (.inr x) :: st)) (m_bd (m_aI 2 x i) f) post := by
  subst hp
  intro w p l e R s m args below meth c cells slots Q C hc hs μ a μ' hT hk H locs ls a1 a2 a3
  obtain ⟨hx, hb, hml, hown, hts, hr, hlk, hnm, hK, hf, hlo, hga⟩ := id C
  obtain ⟨v, μ1, e1, e2⟩ := m_bd_some hT
  unfold m_aI at e1
  split at e1
  next => cases e1
  next b hob =>
    cases e1
    obtain ⟨rfl, n, hs1, hin, hok⟩ := m_oa_spec hob
    have hk2 := h _ w p l e R s m args below meth c cells slots Q C hc hs μ a μ' e2 hk H locs ls a1 a2 a3
    exact va_bald (D := w.2.2.1) (cl := m_cl) (tys := m_tys w) (ws := m_WS w μ) hx hb hK.1 a1.1 (m_idx b) 2 (by rw [m_WS_at hok, m_enc_a hs1]; rfl) (m_tys_at (by decide)) hin hd hk2
theorem sm_zald {x : Option mA} {i : Int32} {f : Int32 → mP α} (hd : m_D k pc .baload 1) (hp : pc + 1 = pc') (h : ∀ v, m_Sim k d mc ms (.inl (pc', L, .inl v :: st)) (f v) post) : m_Sim k d mc ms (.inl (pc, L, .inl i :: .inr (.inr x) :: st)) (m_bd (m_aI 3 x i) f) post := by
  subst hp
  intro w p l e R s m args below meth c cells slots Q C hc hs μ a μ' hT hk H locs ls a1 a2 a3
  obtain ⟨hx, hb, hml, hown, hts, hr, hlk, hnm, hK, hf, hlo, hga⟩ := id C
  obtain ⟨v, μ1, e1, e2⟩ := m_bd_some hT
  unfold m_aI at e1
  split at e1
  next => cases e1
  next b hob =>
    cases e1
    obtain ⟨rfl, n, hs1, hin, hok⟩ := m_oa_spec hob
    have hk2 := h _ w p l e R s m args below meth c cells slots Q C hc hs μ a μ' e2 hk H locs ls a1 a2 a3
    exact va_zald (D := w.2.2.1) (cl := m_cl) (tys := m_tys w) (ws := m_WS w μ) hx hb hK.1 a1.1 (m_idx b) 3 (by rw [m_WS_at hok, m_enc_a hs1]; rfl) (m_tys_at (by decide)) hin hd hk2
theorem sm_lald {x : Option mA} {i : Int32} {f : Int64 → mP α} (hd : m_D k pc .laload 1) (hp : pc + 1 = pc') (h : ∀ v, m_Sim k d mc ms (.inl (pc', L, .inr (.inl v) :: st)) (f v) post) : m_Sim k d mc ms (.inl (pc, L, .inl i :: .inr (.inr x) :: st)) (m_bd (m_aJ x i) f) post := by
  subst hp
  intro w p l e R s m args below meth c cells slots Q C hc hs μ a μ' hT hk H locs ls a1 a2 a3
  obtain ⟨hx, hb, hml, hown, hts, hr, hlk, hnm, hK, hf, hlo, hga⟩ := id C
  obtain ⟨v, μ1, e1, e2⟩ := m_bd_some hT
  unfold m_aJ at e1
  split at e1
  next => cases e1
  next b hob =>
    cases e1
    obtain ⟨rfl, n, hs1, hin, hok⟩ := m_oa_spec hob
    have hk2 := h _ w p l e R s m args below meth c cells slots Q C hc hs μ a μ' e2 hk H locs ls a1 a2 a3
    exact va_lald (D := w.2.2.1) (cl := m_cl) (tys := m_tys w) (ws := m_WS w μ) hx hb hK.1 a1.1 (m_idx b) 1 (by rw [m_WS_at hok, m_enc_a hs1]; rfl) (m_tys_at (by decide)) hin hd hk2
theorem sm_aald {t : Nat} {C0 : String} (ht4 : 4 ≤ t ∧ t < 8) (htC : m_ty t = .object C0) {x : Option mA} {i : Int32} {f : Option mA → mP α} (hd : m_D k pc .aaload 1) (hp : pc + 1 = pc') (h : ∀ v, m_Sim k d mc ms (.inl (pc', L, .inr (.inr v) :: st)) (f v) post) : m_Sim k d mc ms (.inl (pc, L, .inl i :: .inr (.inr x) :: st)) (m_bd (m_aR t x i) f) post := by
  subst hp
  intro w p l e R s m args below meth c cells slots Q C hc hs μ a μ' hT hk H locs ls a1 a2 a3
  obtain ⟨hx, hb, hml, hown, hts, hr, hlk, hnm, hK, hf, hlo, hga⟩ := id C
  obtain ⟨v, μ1, e1, e2⟩ := m_bd_some hT
  unfold m_aR at e1
  split at e1
  next => cases e1
  next b hob =>
    cases e1
    obtain ⟨rfl, n, hs1, hin, hok⟩ := m_oa_spec hob
    have hk2 := h _ w p l e R s m args below meth c cells slots Q C hc hs μ a μ' e2 hk H locs ls a1 a2 a3
    have hma : m_ar w μ b t = .inr (.inr (.inr (.inr (fun j => (m_R μ b j).map (m_rho w))))) := by unfold m_ar; rw [if_neg (by omega), if_pos ht4.1]
    exact va_aldq (D := w.2.2.1) (cl := m_cl) (tys := m_tys w) (ws := m_WS w μ) (C := C0) (f := fun j => (m_R μ b j).map (m_rho w)) hx hb hK.1 a1.1 (m_idx b) t (by rw [m_WS_at hok, m_enc_a hs1, hma]) (by rw [m_tys_at ht4.2, htC]) hin hd hk2
theorem sm_iast {x : Option mA} {i : Int32} {v : Int32} {f : Unit → mP α} (hd : m_D k pc .iastore 1) (hp : pc + 1 = pc') (h : m_Sim k d mc ms (.inl (pc', L, st)) (f ()) post) : m_Sim k d mc ms (.inl (pc, L, .inl v :: .inl i :: .inr (.inr x) :: st)) (m_bd (m_tI 0 x i v) f) post := by
  subst hp
  intro w p l e R s m args below meth c cells slots Q C hc hs μ a μ' hT hk H locs ls a1 a2 a3
  obtain ⟨hx, hb, hml, hown, hts, hr, hlk, hnm, hK, hf, hlo, hga⟩ := id C
  obtain ⟨u, μ1, e1, e2⟩ := m_bd_some hT
  unfold m_tI at e1
  split at e1
  next => cases e1
  next b hob =>
    cases e1
    obtain ⟨rfl, n, hs1, hin, hok⟩ := m_oa_spec hob
    have hcell : H[m_rho w b]? = some (arrV (w.2.2.2.1 0) n (fun j => .int (m_I μ b j))) := m_arr a1 hs1 hok
    refine W.iast hx hb hcell ((hK.1.2 0 _ (m_tys_at (by decide))).1 n (fun j => .int (m_I μ b j))) (fun q => by cases q) (by show ¬ (i < 0 ∨ (arrV _ _ _).slots.size ≤ _); rw [arrV_size]; exact hin) rfl rfl hd fun H1 z1 z2 z3 => ?_
    refine h w p l e R s m args below meth c cells slots Q C hc hs _ a μ' e2 hk H1 _ ls (m_H_put a1 hok rfl m_enc_sI ?_ z2 z3) (a2.put z2 z3 (m_rho_A hok)) a3
    rw [m_enc_a hs1]
    show H1[m_rho w b]? = some (arrV (w.2.2.2.1 0) n (fun j => .int (m_I (m_sI μ b i.toNatClampNeg (m_nar 0 v)) b j)))
    rw [z1, arrV_store]
    congr 2
    funext q
    by_cases hq : q = i.toNatClampNeg
    · subst hq
      simp [updV, m_I, m_sI, m_u, m_nar, vp_nar]
      try rfl
    · simp [updV, m_I, m_J, m_sI, m_sJ, m_u, hq]
theorem sm_bast {x : Option mA} {i : Int32} {v : Int32} {f : Unit → mP α} (hd : m_D k pc .bastore 1) (hp : pc + 1 = pc') (h : m_Sim k d mc ms (.inl (pc', L, st)) (f ()) post) : m_Sim k d mc ms (.inl (pc, L, .inl v :: .inl i :: .inr (.inr x) :: st)) (m_bd (m_tI 2 x i v) f) post := by
  subst hp
  intro w p l e R s m args below meth c cells slots Q C hc hs μ a μ' hT hk H locs ls a1 a2 a3
  obtain ⟨hx, hb, hml, hown, hts, hr, hlk, hnm, hK, hf, hlo, hga⟩ := id C
  obtain ⟨u, μ1, e1, e2⟩ := m_bd_some hT
  unfold m_tI at e1
  split at e1
  next => cases e1
  next b hob =>
    cases e1
    obtain ⟨rfl, n, hs1, hin, hok⟩ := m_oa_spec hob
    have hcell : H[m_rho w b]? = some (arrV (w.2.2.2.1 2) n (fun j => .int (m_I μ b j))) := m_arr a1 hs1 hok
    refine W.bast hx hb hcell ((hK.1.2 2 _ (m_tys_at (by decide))).1 n (fun j => .int (m_I μ b j))) (fun q => by cases q) (by show ¬ (i < 0 ∨ (arrV _ _ _).slots.size ≤ _); rw [arrV_size]; exact hin) rfl rfl hd fun H1 z1 z2 z3 => ?_
    refine h w p l e R s m args below meth c cells slots Q C hc hs _ a μ' e2 hk H1 _ ls (m_H_put a1 hok rfl m_enc_sI ?_ z2 z3) (a2.put z2 z3 (m_rho_A hok)) a3
    rw [m_enc_a hs1]
    show H1[m_rho w b]? = some (arrV (w.2.2.2.1 2) n (fun j => .int (m_I (m_sI μ b i.toNatClampNeg (m_nar 2 v)) b j)))
    rw [z1, arrV_store]
    congr 2
    funext q
    by_cases hq : q = i.toNatClampNeg
    · subst hq
      simp [updV, m_I, m_sI, m_u, m_nar, vp_nar]
      try rfl
    · simp [updV, m_I, m_J, m_sI, m_sJ, m_u, hq]
theorem sm_zast {x : Option mA} {i : Int32} {v : Int32} {f : Unit → mP α} (hd : m_D k pc .bastore 1) (hp : pc + 1 = pc') (h : m_Sim k d mc ms (.inl (pc', L, st)) (f ()) post) : m_Sim k d mc ms (.inl (pc, L, .inl v :: .inl i :: .inr (.inr x) :: st)) (m_bd (m_tI 3 x i v) f) post := by
  subst hp
  intro w p l e R s m args below meth c cells slots Q C hc hs μ a μ' hT hk H locs ls a1 a2 a3
  obtain ⟨hx, hb, hml, hown, hts, hr, hlk, hnm, hK, hf, hlo, hga⟩ := id C
  obtain ⟨u, μ1, e1, e2⟩ := m_bd_some hT
  unfold m_tI at e1
  split at e1
  next => cases e1
  next b hob =>
    cases e1
    obtain ⟨rfl, n, hs1, hin, hok⟩ := m_oa_spec hob
    have hcell : H[m_rho w b]? = some (arrV (w.2.2.2.1 3) n (fun j => .int (m_I μ b j))) := m_arr a1 hs1 hok
    refine W.zast hx hb hcell ((hK.1.2 3 _ (m_tys_at (by decide))).1 n (fun j => .int (m_I μ b j))) (fun q => by cases q) (by show ¬ (i < 0 ∨ (arrV _ _ _).slots.size ≤ _); rw [arrV_size]; exact hin) rfl rfl hd fun H1 z1 z2 z3 => ?_
    refine h w p l e R s m args below meth c cells slots Q C hc hs _ a μ' e2 hk H1 _ ls (m_H_put a1 hok rfl m_enc_sI ?_ z2 z3) (a2.put z2 z3 (m_rho_A hok)) a3
    rw [m_enc_a hs1]
    show H1[m_rho w b]? = some (arrV (w.2.2.2.1 3) n (fun j => .int (m_I (m_sI μ b i.toNatClampNeg (m_nar 3 v)) b j)))
    rw [z1, arrV_store]
    congr 2
    funext q
    by_cases hq : q = i.toNatClampNeg
    · subst hq
      simp [updV, m_I, m_sI, m_u, m_nar, vp_nar]
      try rfl
    · simp [updV, m_I, m_J, m_sI, m_sJ, m_u, hq]
theorem sm_last {x : Option mA} {i : Int32} {v : Int64} {f : Unit → mP α} (hd : m_D k pc .lastore 1) (hp : pc + 1 = pc') (h : m_Sim k d mc ms (.inl (pc', L, st)) (f ()) post) : m_Sim k d mc ms (.inl (pc, L, .inr (.inl v) :: .inl i :: .inr (.inr x) :: st)) (m_bd (m_tJ x i v) f) post := by
  subst hp
  intro w p l e R s m args below meth c cells slots Q C hc hs μ a μ' hT hk H locs ls a1 a2 a3
  obtain ⟨hx, hb, hml, hown, hts, hr, hlk, hnm, hK, hf, hlo, hga⟩ := id C
  obtain ⟨u, μ1, e1, e2⟩ := m_bd_some hT
  unfold m_tJ at e1
  split at e1
  next => cases e1
  next b hob =>
    cases e1
    obtain ⟨rfl, n, hs1, hin, hok⟩ := m_oa_spec hob
    have hcell : H[m_rho w b]? = some (arrV (w.2.2.2.1 1) n (fun j => .long (m_J μ b j))) := m_arr a1 hs1 hok
    refine W.last hx hb hcell ((hK.1.2 1 _ (m_tys_at (by decide))).1 n (fun j => .long (m_J μ b j))) (fun q => by cases q) (by show ¬ (i < 0 ∨ (arrV _ _ _).slots.size ≤ _); rw [arrV_size]; exact hin) rfl rfl hd fun H1 z1 z2 z3 => ?_
    refine h w p l e R s m args below meth c cells slots Q C hc hs _ a μ' e2 hk H1 _ ls (m_H_put a1 hok rfl m_enc_sJ ?_ z2 z3) (a2.put z2 z3 (m_rho_A hok)) a3
    rw [m_enc_a hs1]
    show H1[m_rho w b]? = some (arrV (w.2.2.2.1 1) n (fun j => .long (m_J (m_sJ μ b i.toNatClampNeg v) b j)))
    rw [z1, arrV_store]
    congr 2
    funext q
    by_cases hq : q = i.toNatClampNeg
    · subst hq
      simp [updV, m_J, m_sJ, m_u]
    · simp [updV, m_I, m_J, m_sI, m_sJ, m_u, hq]
theorem sm_aast {t ci : Nat} {C0 : String} {r0 : vw_C} (ht4 : 4 ≤ t ∧ t < 8) (htC : m_ty t = .object C0) (hcl : m_cl[ci]? = some r0) (hr0 : r0.1 = C0) {x v : Option mA} {i : Int32} {f : Unit → mP α} (hd : m_D k pc .aastore 1) (hp : pc + 1 = pc') (h : m_Sim k d mc ms (.inl (pc', L, st)) (f ()) post) : m_Sim k d mc ms (.inl (pc, L, .inr (.inr v) :: .inl i :: .inr (.inr x) :: st)) (m_bd (m_tR t ci x i v) f) post := by
  subst hp
  intro w p l e R s m args below meth c cells slots Q C hc hs μ a μ' hT hk H locs ls a1 a2 a3
  obtain ⟨hx, hb, hml, hown, hts, hr, hlk, hnm, hK, hf, hlo, hga⟩ := id C
  obtain ⟨u, μ1, e1, e2⟩ := m_bd_some hT
  unfold m_tR at e1
  split at e1
  next b y hob hov =>
    cases e1
    obtain ⟨rfl, n, hs1, hin, hok⟩ := m_oa_spec hob
    obtain ⟨rfl, hs2, hok2⟩ := m_oo_spec hov
    have hma : ∀ μ : mM, m_ar w μ b t = .inr (.inr (.inr (.inr (fun j => (m_R μ b j).map (m_rho w))))) := fun μ => by unfold m_ar; rw [if_neg (by omega), if_pos ht4.1]
    have hlt : i.toNatClampNeg < n := Nat.not_le.mp fun q => hin (Or.inr q)
    have h0 : ¬ i < 0 := fun q => hin (Or.inl q)
    obtain ⟨r', hr', cellV, g1, g2, g3, -⟩ := m_obj a1 hs2 hok2
    have hcls := (hK.1.1 ci r0 hcl).2
    have hta := (hK.1.2 t _ (m_tys_at ht4.2)).2
    rw [htC] at hta
    obtain ⟨kA, comp, k1, k2, k3, -⟩ := hta
    have hcomp : comp = w.2.2.1.1 ci := by
      have := hcls.1
      rw [hr0] at this
      exact Option.some.inj (k3.symm.trans this)
    subst hcomp
    obtain ⟨kC, hkC, -⟩ := hcls.2
    have hcell : H[m_rho w b]? = some (arrV (w.2.2.2.1 t) n (fun j => va_rf ((m_R μ b j).map (m_rho w)))) := by
      have := m_arr a1 hs1 hok
      rw [hma] at this
      exact this
    refine W.aast hx hb hcell (fun q h => by cases h) (fun h => by cases h) k1 k2 rfl hkC ⟨h0, by show _ < (arrV _ _ _).slots.size; rw [arrV_size]; exact hlt⟩ g1 (fun q h => by rw [g3] at h; cases h) (by rw [g2]; exact hkC) (by rw [g2]; exact va_assign hcls) rfl rfl hd fun H1 z1 z2 z3 => ?_
    refine h w p l e R s m args below meth c cells slots Q C hc hs _ a μ' e2 hk H1 _ ls (m_H_put a1 hok rfl m_enc_sR ?_ z2 z3) (a2.put z2 z3 (m_rho_A hok)) a3
    rw [m_enc_a hs1, hma]
    show H1[m_rho w b]? = some (arrV (w.2.2.2.1 t) n (fun j => va_rf ((m_R (m_sR μ b i.toNatClampNeg (some y)) b j).map (m_rho w))))
    rw [z1, arrV_store]
    congr 2
    funext q
    by_cases hq : q = i.toNatClampNeg
    · subst hq
      simp [updV, va_rf, m_R, m_sR, m_u]
    · simp [updV, m_R, m_sR, m_u, hq]
  next => cases e1
theorem sm_alen {x : Option mA} {f : Int32 → mP α} (hd : m_D k pc .arraylength 1) (hp : pc + 1 = pc') (h : ∀ v, m_Sim k d mc ms (.inl (pc', L, .inl v :: st)) (f v) post) : m_Sim k d mc ms (.inl (pc, L, .inr (.inr x) :: st)) (m_bd (m_ln x) f) post := by
  subst hp
  intro w p l e R s m args below meth c cells slots Q C hc hs μ a μ' hT hk H locs ls a1 a2 a3
  obtain ⟨hx, hb, hml, hown, hts, hr, hlk, hnm, hK, hf, hlo, hga⟩ := id C
  obtain ⟨v, μ1, e1, e2⟩ := m_bd_some hT
  unfold m_ln at e1
  split at e1
  next => cases e1
  next b =>
    split at e1
    next t n hs1 =>
      split at e1
      next hok =>
        cases e1
        have ht8 : t < 8 := m_shp_lt hs1
        exact va_alen (v := Int32.ofNat n) (x := (n, m_ar w μ b t)) (D := w.2.2.1) (cl := m_cl) (tys := m_tys w) (ws := m_WS w μ) hx hb hK.1 a1.1 (m_idx b) t (by rw [m_WS_at hok, m_enc_a hs1]) (m_tys_at ht8) rfl hd (h _ w p l e R s m args below meth c cells slots Q C hc hs μ a μ' e2 hk H locs ls a1 a2 a3)
      next => cases e1
    next => cases e1
theorem sm_cpI {x y : Option mA} {sp dp n : Int32} {idx : Nat} {f : Unit → mP α} (hd : m_D k pc (.invokestatic idx) 3) (hp : pc + 3 = pc') (hm : Cond.methodLink k.1.cls idx arraycopyName ∈ m_tb) (hm2 : Cond.native arraycopyName ∈ m_tb) (hm3 : Cond.static arraycopyName ∈ m_tb) (hm4 : Cond.initialized "java/lang/System" ∈ m_tb) (hd1 : 1 ≤ d) (hst : st = []) (h : m_Sim k d mc ms (.inl (pc', L, st)) (f ()) post) : m_Sim k d mc ms (.inl (pc, L, .inl n :: .inl dp :: .inr (.inr y) :: .inl sp :: .inr (.inr x) :: st)) (m_bd (m_cpI x sp y dp n) f) post := by
  subst hp; subst hst
  intro w p l e R s m args below meth c cells slots Q C hc hs μ a μ' hT hk H locs ls a1 a2 a3
  obtain ⟨hx, hb, hml, hown, hts, hr, hlk, hnm, hK, hf, hlo, hga⟩ := id C
  obtain ⟨u, μ1, e1, e2⟩ := m_bd_some hT
  unfold m_cpI at e1
  split at e1
  next b0 b1 ho0 ho1 =>
    cases e1
    obtain ⟨rfl, N0, hs0, i1, i2, i3, hok0⟩ := m_oc_spec ho0
    obtain ⟨rfl, N1, hs1, j1, j2, j3, hok1⟩ := m_oc_spec ho1
    have nn : ∀ z : Int32, ¬ z < 0 → z.toInt = (z.toNatClampNeg : Int) := by
      intro z hz
      have hz0 : (0 : Int) ≤ z.toInt := by
        have := Int32.not_lt.mp hz
        simpa using Int32.le_iff_toInt_le.mp this
      show z.toInt = ((z.toInt.toNat : Nat) : Int)
      omega
    intro T hT2 X
    have hc0 : H[m_rho w b0]? = some (vp_cell (w.2.2.2.1 0) (N0, .inl (m_I μ b0))) := m_arr a1 hs0 hok0
    have hc1 : H[m_rho w b1]? = some (vp_cell (w.2.2.2.1 0) (N1, .inl (m_I μ b1))) := m_arr a1 hs1 hok1
    have hta := (hK.1.2 0 _ (m_tys_at (by decide))).1
    obtain ⟨-, k0, hk0, cm0, hkk0⟩ := hta N0 (fun j => .int (m_I μ b0 j))
    obtain ⟨-, k1, hk1, cm1, hkk1⟩ := hta N1 (fun j => .int (m_I μ b1 j))
    obtain ⟨vm', X', step⟩ := X.arraycopy hx hown (hts _ hm) (hts _ hm2) (hts _ hm3) (hts _ hm4) (src := m_rho w b0) (dst := m_rho w b1) (cs := vp_cell (w.2.2.2.1 0) (N0, .inl (m_I μ b0))) (cd := vp_cell (w.2.2.2.1 0) (N1, .inl (m_I μ b1))) (srcPos := sp) (destPos := dp) (n := n) (by rw [hT2]; exact hc0) (by rw [hT2]; exact hc1)
      (fun _ h => by cases h) (fun _ h => by cases h) (fun h => by cases h) (fun h => by cases h) hk0 hk1 hkk0 hkk1 rfl i1 j1 i2
      (by rw [nn sp i1, nn n i2]; show ¬ _ > ((arrV _ N0 (fun j => .int (m_I μ b0 j))).slots.size : Int); rw [arrV_size]; omega)
      (by rw [nn dp j1, nn n i2]; show ¬ _ > ((arrV _ N1 (fun j => .int (m_I μ b1 j))).slots.size : Int); rw [arrV_size]; omega)
      (fun vm₁ _ i hi => by
        have e : (vp_cell (w.2.2.2.1 0) (N0, .inl (m_I μ b0))).slots.getD (sp.toNatClampNeg + i) .null = .int (m_I μ b0 (sp.toNatClampNeg + i)) := by
          show (arrV _ N0 (fun j => .int (m_I μ b0 j))).slots.getD _ _ = _
          rw [Array.getD_eq_getD_getElem?, arrV_read _ _ (by omega)]
          rfl
        refine ⟨?_, ?_⟩
        · rw [e]
          rfl
        · rw [e]
          exact trivial)
      (g := F0 m pc ls (.int n :: .int dp :: .ref (m_rho w b1) :: .int sp :: .ref (m_rho w b0) :: [])) rfl (by rw [hml]; exact a3.1) (rest := []) rfl (by rw [hb]; exact hd) (by omega) (by have := m_nfw; show 2 * 0 + 0 + _ ≤ _; omega)
    have e1 : copied (vp_cell (w.2.2.2.1 0) (N0, .inl (m_I μ b0))) (vp_cell (w.2.2.2.1 0) (N1, .inl (m_I μ b1))) sp dp n = vp_cell (w.2.2.2.1 0) (N1, .inl (va_cpy (m_I μ b0) (m_I μ b1) sp.toNatClampNeg dp.toNatClampNeg n.toNatClampNeg)) := va_copied (fun z => .int z) _ _ (m_I μ b0) (m_I μ b1) i3
    rw [e1] at X' step
    have hl : m_rho w b1 < H.size := (Array.getElem?_eq_some_iff.mp hc1).1
    generalize hcl : vp_cell (w.2.2.2.1 0) (N1, .inl (va_cpy (m_I μ b0) (m_I μ b1) sp.toNatClampNeg dp.toNatClampNeg n.toNatClampNeg)) = ncell at X' step
    have hheap : ((T.setVm vm').setCell (m_rho w b1) ncell).heap = H.setIfInBounds (m_rho w b1) ncell := by rw [← hT2]; rfl
    have oq : ∀ q : Nat, q ≠ m_rho w b1 → (H.setIfInBounds (m_rho w b1) ncell)[q]? = H[q]? := fun q hq => by simp [Array.getElem?_setIfInBounds, Ne.symm hq]
    have hH1 : m_H w (m_rI μ b1 (va_cpy (m_I μ b0) (m_I μ b1) sp.toNatClampNeg dp.toNatClampNeg n.toNatClampNeg)) (H.setIfInBounds (m_rho w b1) ncell) := by
      refine m_H_put a1 hok1 rfl m_enc_rI ?_ (by simp) oq
      rw [m_enc_a hs1]
      show (H.setIfInBounds (m_rho w b1) ncell)[m_rho w b1]? = some _
      rw [show (H.setIfInBounds (m_rho w b1) ncell)[m_rho w b1]? = some ncell by simp [Array.getElem?_setIfInBounds, hl], ← hcl]
      simp [m_ar, m_I, m_rI, m_row]
    obtain ⟨t, z1, z2⟩ := h w p l e R s m args below meth c cells slots Q C hc hs _ a μ' e2 hk _ _ ls hH1 ⟨by simp; exact a2.1, fun q g1 g2 => by
        rw [oq q (fun e => g2 (by rw [e]; exact m_rho_A hok1))]
        exact a2.2.1 q g1 g2, fun q hq => by
        rcases List.mem_append.mp hq with h | h
        · exact a2.2.2 q h
        · obtain ⟨z, -, hz⟩ := List.mem_map.mp h
          rw [← hz]
          exact m_rho_A hok1⟩ a3 _ hheap X'
    exact ⟨t, step t z1, z2⟩
  next => cases e1
theorem sm_cpJ {x y : Option mA} {sp dp n : Int32} {idx : Nat} {f : Unit → mP α} (hd : m_D k pc (.invokestatic idx) 3) (hp : pc + 3 = pc') (hm : Cond.methodLink k.1.cls idx arraycopyName ∈ m_tb) (hm2 : Cond.native arraycopyName ∈ m_tb) (hm3 : Cond.static arraycopyName ∈ m_tb) (hm4 : Cond.initialized "java/lang/System" ∈ m_tb) (hd1 : 1 ≤ d) (hst : st = []) (h : m_Sim k d mc ms (.inl (pc', L, st)) (f ()) post) : m_Sim k d mc ms (.inl (pc, L, .inl n :: .inl dp :: .inr (.inr y) :: .inl sp :: .inr (.inr x) :: st)) (m_bd (m_cpJ x sp y dp n) f) post := by
  subst hp; subst hst
  intro w p l e R s m args below meth c cells slots Q C hc hs μ a μ' hT hk H locs ls a1 a2 a3
  obtain ⟨hx, hb, hml, hown, hts, hr, hlk, hnm, hK, hf, hlo, hga⟩ := id C
  obtain ⟨u, μ1, e1, e2⟩ := m_bd_some hT
  unfold m_cpJ at e1
  split at e1
  next b0 b1 ho0 ho1 =>
    cases e1
    obtain ⟨rfl, N0, hs0, i1, i2, i3, hok0⟩ := m_oc_spec ho0
    obtain ⟨rfl, N1, hs1, j1, j2, j3, hok1⟩ := m_oc_spec ho1
    have nn : ∀ z : Int32, ¬ z < 0 → z.toInt = (z.toNatClampNeg : Int) := by
      intro z hz
      have hz0 : (0 : Int) ≤ z.toInt := by
        have := Int32.not_lt.mp hz
        simpa using Int32.le_iff_toInt_le.mp this
      show z.toInt = ((z.toInt.toNat : Nat) : Int)
      omega
    intro T hT2 X
    have hc0 : H[m_rho w b0]? = some (vp_cell (w.2.2.2.1 1) (N0, .inr (.inl (m_J μ b0)))) := m_arr a1 hs0 hok0
    have hc1 : H[m_rho w b1]? = some (vp_cell (w.2.2.2.1 1) (N1, .inr (.inl (m_J μ b1)))) := m_arr a1 hs1 hok1
    have hta := (hK.1.2 1 _ (m_tys_at (by decide))).1
    obtain ⟨-, k0, hk0, cm0, hkk0⟩ := hta N0 (fun j => .long (m_J μ b0 j))
    obtain ⟨-, k1, hk1, cm1, hkk1⟩ := hta N1 (fun j => .long (m_J μ b1 j))
    obtain ⟨vm', X', step⟩ := X.arraycopy hx hown (hts _ hm) (hts _ hm2) (hts _ hm3) (hts _ hm4) (src := m_rho w b0) (dst := m_rho w b1) (cs := vp_cell (w.2.2.2.1 1) (N0, .inr (.inl (m_J μ b0)))) (cd := vp_cell (w.2.2.2.1 1) (N1, .inr (.inl (m_J μ b1)))) (srcPos := sp) (destPos := dp) (n := n) (by rw [hT2]; exact hc0) (by rw [hT2]; exact hc1)
      (fun _ h => by cases h) (fun _ h => by cases h) (fun h => by cases h) (fun h => by cases h) hk0 hk1 hkk0 hkk1 rfl i1 j1 i2
      (by rw [nn sp i1, nn n i2]; show ¬ _ > ((arrV _ N0 (fun j => .long (m_J μ b0 j))).slots.size : Int); rw [arrV_size]; omega)
      (by rw [nn dp j1, nn n i2]; show ¬ _ > ((arrV _ N1 (fun j => .long (m_J μ b1 j))).slots.size : Int); rw [arrV_size]; omega)
      (fun vm₁ _ i hi => by
        have e : (vp_cell (w.2.2.2.1 1) (N0, .inr (.inl (m_J μ b0)))).slots.getD (sp.toNatClampNeg + i) .null = .long (m_J μ b0 (sp.toNatClampNeg + i)) := by
          show (arrV _ N0 (fun j => .long (m_J μ b0 j))).slots.getD _ _ = _
          rw [Array.getD_eq_getD_getElem?, arrV_read _ _ (by omega)]
          rfl
        refine ⟨?_, ?_⟩
        · rw [e]
          rfl
        · rw [e]
          exact trivial)
      (g := F0 m pc ls (.int n :: .int dp :: .ref (m_rho w b1) :: .int sp :: .ref (m_rho w b0) :: [])) rfl (by rw [hml]; exact a3.1) (rest := []) rfl (by rw [hb]; exact hd) (by omega) (by have := m_nfw; show 2 * 0 + 0 + _ ≤ _; omega)
    have e1 : copied (vp_cell (w.2.2.2.1 1) (N0, .inr (.inl (m_J μ b0)))) (vp_cell (w.2.2.2.1 1) (N1, .inr (.inl (m_J μ b1)))) sp dp n = vp_cell (w.2.2.2.1 1) (N1, .inr (.inl (va_cpy (m_J μ b0) (m_J μ b1) sp.toNatClampNeg dp.toNatClampNeg n.toNatClampNeg))) := va_copied (fun z => .long z) _ _ (m_J μ b0) (m_J μ b1) i3
    rw [e1] at X' step
    have hl : m_rho w b1 < H.size := (Array.getElem?_eq_some_iff.mp hc1).1
    generalize hcl : vp_cell (w.2.2.2.1 1) (N1, .inr (.inl (va_cpy (m_J μ b0) (m_J μ b1) sp.toNatClampNeg dp.toNatClampNeg n.toNatClampNeg))) = ncell at X' step
    have hheap : ((T.setVm vm').setCell (m_rho w b1) ncell).heap = H.setIfInBounds (m_rho w b1) ncell := by rw [← hT2]; rfl
    have oq : ∀ q : Nat, q ≠ m_rho w b1 → (H.setIfInBounds (m_rho w b1) ncell)[q]? = H[q]? := fun q hq => by simp [Array.getElem?_setIfInBounds, Ne.symm hq]
    have hH1 : m_H w (m_rJ μ b1 (va_cpy (m_J μ b0) (m_J μ b1) sp.toNatClampNeg dp.toNatClampNeg n.toNatClampNeg)) (H.setIfInBounds (m_rho w b1) ncell) := by
      refine m_H_put a1 hok1 rfl m_enc_rJ ?_ (by simp) oq
      rw [m_enc_a hs1]
      show (H.setIfInBounds (m_rho w b1) ncell)[m_rho w b1]? = some _
      rw [show (H.setIfInBounds (m_rho w b1) ncell)[m_rho w b1]? = some ncell by simp [Array.getElem?_setIfInBounds, hl], ← hcl]
      simp [m_ar, m_J, m_rJ, m_row]
    obtain ⟨t, z1, z2⟩ := h w p l e R s m args below meth c cells slots Q C hc hs _ a μ' e2 hk _ _ ls hH1 ⟨by simp; exact a2.1, fun q g1 g2 => by
        rw [oq q (fun e => g2 (by rw [e]; exact m_rho_A hok1))]
        exact a2.2.1 q g1 g2, fun q hq => by
        rcases List.mem_append.mp hq with h | h
        · exact a2.2.2 q h
        · obtain ⟨z, -, hz⟩ := List.mem_map.mp h
          rw [← hz]
          exact m_rho_A hok1⟩ a3 _ hheap X'
    exact ⟨t, step t z1, z2⟩
  next => cases e1
end HEAP
