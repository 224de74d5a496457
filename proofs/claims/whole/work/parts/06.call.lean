/-! Part 06: new cells, contracts out of m_Sim, calls -/
def m_dv (t : Nat) : Value := if t = 1 then .long 0 else if t = 2 then .null else .int 0
/-- a class of which an object is made, by own class and place of the pool -/
def m_NW (own : String) (idx ci N : Nat) : Prop := ∃ (C : String) (T : u_T) (y0 : Nat → FieldType), m_cl[ci]? = some (C, T, N) ∧ Cond.classLink own idx C ∈ m_tb ∧ Cond.instantiable C N ∈ m_tb ∧ Cond.initialized C ∈ m_tb ∧ (∀ q ∈ u_ws C T N, q ∈ m_tb) ∧ (∀ k, k < N → parseFieldDescriptor (T k).2.2.1 = some (y0 k)) ∧ ∀ j, j < N → ∃ t, (m_ft ci)[j]? = some t ∧ defaultValue (y0 j) = m_dv t
theorem m_pl_idx {n : Nat} (h : (m_pl n).1 ≠ 0) : m_idx (m_pl n) = n := (m_pl_inj rfl h).symm
theorem m_zero_enc {w : mW} {μ : mM} {n : Nat} (h : (m_pl n).1 ≠ 0) {k : Nat} (hk : k < n) : m_enc w (m_zero μ (m_pl n)) (m_pl k) = m_enc w μ (m_pl k) := by
  have hne : m_pl k ≠ m_pl n := fun e => by
    have h1 : k = m_idx (m_pl n) := m_pl_inj e h
    rw [m_pl_idx h] at h1
    omega
  exact m_enc_eq (m_row_ne hne) (m_row_ne hne) (m_row_ne hne)
theorem m_H_push {w : mW} {μ : mM} {H H1 : Heap} (a1 : m_H w μ H) (h0 : (m_pl μ.1).1 ≠ 0) (hat : va_at w.2.2.1 m_cl (w.1 + μ.1, m_enc w (m_zero μ (m_pl μ.1)) (m_pl μ.1)) H1) (hz : H1.size = H.size + 1) (ho : ∀ q : Nat, q < H.size → H1[q]? = H[q]?) : m_H w (m_zero μ (m_pl μ.1)) H1 := by
  refine ⟨?_, by rw [hz, a1.2]; rfl⟩
  rw [← m_WS_push (μ := μ) (μ' := m_zero μ (m_pl μ.1)) rfl (fun k hk => m_zero_enc h0 hk) rfl]
  refine (a1.1.kept (fun k q hq => ho q.1 ((a1.1 k q hq).lt))).app (fun k q hq => ?_)
  have hk : k < 1 := (List.getElem?_eq_some_iff.mp hq).1
  rw [show k = 0 by omega] at hq
  cases hq
  exact hat
theorem m_S_push {w : mW} {H H1 : Heap} {locs : List Loc} (a2 : va_S (m_A w) w.2.1 H locs) (hz : H1.size = H.size + 1) (ho : ∀ q : Nat, q < H.size → H1[q]? = H[q]?) : va_S (m_A w) w.2.1 H1 locs :=
  ⟨Nat.le_trans a2.1 (by omega), fun q h1 h2 => (ho q (Nat.lt_of_lt_of_le h1 a2.1)).trans (a2.2.1 q h1 h2), a2.2.2⟩
def m_ent : Nat → List mV → List (Nat × mV)
  | _, [] => []
  | i, v :: vs => (i, v) :: m_ent (if m_two v = true then i + 2 else i + 1) vs
def m_wd : List mV → Nat
  | [] => 0
  | v :: vs => (if m_two v = true then 2 else 1) + m_wd vs
theorem m_ent_eq (w : mW) : ∀ (vs : List mV) (i : Nat), lv_args i (m_T w vs) = m_L w (m_ent i vs) := by
  intro vs
  induction vs with
  | nil => intro i; rfl
  | cons v vs ih =>
    intro i
    show (i, m_val w v) :: lv_args (if (m_val w v).category = 2 then i + 2 else i + 1) (m_T w vs) = (i, m_val w v) :: m_L w (m_ent (if m_two v = true then i + 2 else i + 1) vs)
    rw [← ih]
    rcases v with x | x | r
    · rfl
    · rfl
    · cases r <;> rfl
theorem m_wd_eq (w : mW) : ∀ (vs : List mV), (lg_sl (m_T w vs)).length = m_wd vs := by
  intro vs
  induction vs with
  | nil => rfl
  | cons v vs ih =>
    show ((if (m_val w v).category = 2 then [Slot.val (m_val w v), .second] else [.val (m_val w v)]) ++ lg_sl (m_T w vs)).length = (if m_two v = true then 2 else 1) + m_wd vs
    rw [List.length_append, ih]
    rcases v with x | x | r
    · rfl
    · rfl
    · cases r <;> rfl
theorem m_wd_cat (w : mW) : ∀ (vs : List mV), ((m_T w vs).map fun v => v.category).sum = m_wd vs := by
  intro vs
  induction vs with
  | nil => rfl
  | cons v vs ih =>
    show (m_val w v).category + ((m_T w vs).map fun v => v.category).sum = (if m_two v = true then 2 else 1) + m_wd vs
    rw [ih]
    rcases v with x | x | r
    · rfl
    · rfl
    · cases r <;> rfl
/-- a method keeps to a program -/
def m_Sm (k : mKt) (d mc ms : Nat) (av : List mV) {α : Type} (T : mP α) (rv : α → Option mV) : Prop := m_wd av ≤ k.2.2.1 ∧ m_Sim k d mc ms (.inl (0, m_ent 0 av, [])) T (fun a => .inr (rv a))
def m_Pc (w : mW) (av : List mV) (μ : mM) : Array Value → State → Prop := fun v U => v = (m_T w av).toArray ∧ m_H w μ U.heap ∧ m_K w U ∧ va_S (m_A w) w.2.1 U.heap []
def m_Qc (w : mW) (r : Option mV) (μ' : mM) : Array Value → State → Outcome → State → Prop := fun _ _ o t => o = .returned (r.map (m_val w)) ∧ m_H w μ' t.heap ∧ va_S (m_A w) w.2.1 t.heap []
abbrev m_ws (k : mKt) : List Cond := Cond.code k.1 k.2.1 k.2.2.1 k.2.2.2.1 :: m_tb
abbrev m_rm (d mc ms : Nat) : Room := { frames := d, cells := mc, slots := ms, locals := 64 * d }
theorem m_S0 {w : mW} {H : Heap} {locs : List Loc} (h : va_S (m_A w) w.2.1 H locs) : va_S (m_A w) w.2.1 H [] := ⟨h.1, h.2.1, fun _ h => by cases h⟩
/-- the end of a method -/
theorem m_end {w : mW} {k : mKt} {d : Nat} {p : Program} {l : Launch} {e : Env} {R : Room} {s : State} {m : MethodId} {args : Array Value} {below : List Frame} {meth : Method} {c : Code} {cells slots : Nat} (C : m_Cx w k d p R s m args meth c) {r : Option mV} {μ' : mM} :
    m_WP w k p l e R s m args below meth c cells slots (MQ below (m_Qc w r μ') args s cells slots (m_A w)) (.inr r) μ' := by
  intro hro H locs ls pc b1 b2 hd
  obtain ⟨hx, hb, hml, hown, hts, hr, hlk, hnm, hK, hf, hlo, hga⟩ := C
  have hq : ∀ t : State, t.heap = H → s.WarmedH t.vm → m_Qc w r μ' args s (.returned (r.map (m_val w))) t := fun t ht _ => ⟨rfl, by rw [ht]; exact b1, by rw [ht]; exact m_S0 b2⟩
  match r, hro, hq, hd with
  | none, hro, hq, hd => exact W.vret hx hb (by rw [hr]; exact hro) hq b2.2.2 hd
  | some (.inl v), hro, hq, hd =>
    rcases hro with z | ⟨ty, z, hv⟩
    · exact W.iret (v := v) hx hb (by rw [hr]; exact z) hq b2.2.2 hd
    · exact W.zret (v := v) (ty := ty) hx hb (by rw [hr]; exact z) hv hq b2.2.2 hd
  | some (.inr (.inl v)), hro, hq, hd => exact W.lret (v := v) hx hb (by rw [hr]; exact hro) hq b2.2.2 hd
  | some (.inr (.inr v)), hro, hq, hd =>
    obtain ⟨n, z⟩ := hro
    exact W.aret (v := va_rf (v.map (m_rho w))) (rt := .object n) hx hb (by rw [hr]; exact z) (Or.inl ⟨n, rfl⟩) (by cases v; exact Or.inl rfl; exact Or.inr ⟨_, rfl⟩) hq b2.2.2 hd
/-- its contract -/
theorem m_met {k : mKt} {d mc ms : Nat} {av : List mV} {α : Type} {T : mP α} {rv : α → Option mV} (h : m_Sm k d mc ms av T rv) (hy : plainName k.1.cls = true) (hga : ∀ w s, k.2.2.2.2 w s) (l : Launch) (w : mW) {μ μ' : mM} {a : α} (hT : T μ = some (a, μ')) : Met l k.1 (m_ws k) (m_rm d mc ms) (m_Pc w av μ) (m_Qc w (rv a) μ') mc ms (m_A w) := by
  refine Met.ofW (cc := k.2.1) (maxL := k.2.2.1) (ret := k.2.2.2.1) hy rfl ?_
  intro p e s m args below meth c s₁ B hml hv
  obtain ⟨rfl, hH, hK, hS⟩ := hv
  have hts := atoms_spec (ws := m_ws k) B.pre
  have C : m_Cx w k d p (m_rm d mc ms) s m (m_T w av).toArray meth c := ⟨B.exec, B.bytes, hml, findClass_of_methodNamed B.named, fun q hq => hts q (List.mem_cons_of_mem _ hq), B.returns, B.notSynchronized, (name_of_methodNamed B.named B.method).1, hK, Nat.le_refl _, Nat.le_refl _, hga w s⟩
  have hw := h.2 w p l e (m_rm d mc ms) s m (m_T w av).toArray below meth c 0 0 (MQ below (m_Qc w (rv a) μ') (m_T w av).toArray s mc ms (m_A w)) C (by show 0 + mc ≤ mc; omega) (by show 0 + ms ≤ ms; omega) μ a μ' hT
    (by rw [Nat.zero_add, Nat.zero_add]; exact m_end C)
  rw [lg_entry_eq]
  have hl := lv_entry (m_T w av) (n := k.2.2.1) (by rw [m_wd_eq]; exact h.1)
  rw [m_ent_eq] at hl
  exact hw s.heap [] _ hH hS hl
theorem m_blind (w : mW) (av : List mV) (μ : mM) : FrameBlind (m_Pc w av μ) := fun a U g mk h => ⟨h.1, h.2.1, m_K.same rfl h.2.2.1, h.2.2.2⟩
/-- behind a call -/
theorem m_cont {w : mW} {k : mKt} {p : Program} {l : Launch} {e : Env} {R : Room} {s : State} {m : MethodId} {args : Array Value} {below : List Frame} {meth : Method} {c : Code} {cells slots mc ms : Nat} {Q : State → Prop} {pc : Nat} {ls : Array Slot} {S rest : List Value} {H : Heap} {locs : List Loc} {arr : Array Value} {r : Option mV} {μ1 : mM} {L : List (Nat × mV)} {st : List mV}
    (hr : va_Run p l e R s m args below meth c H locs cells slots mc ms (F0 m pc ls S) rest (m_Qc w r μ1 arr) (m_A w)) (hrest : rest = m_T w st) (a2 : va_S (m_A w) w.2.1 H locs) (a3 : lv_has ls k.2.2.1 (m_L w L))
    (hk : m_WP w k p l e R s m args below meth c (cells + mc) (slots + ms) Q (.inl (pc + 3, L, r.toList ++ st)) μ1) : W p l e R s m args below meth c H locs cells slots Q (F0 m pc ls S) := by
  intro T hT X
  obtain ⟨v, st₀, t, T', LL, h0, X', hL, e1, e2, ⟨hv, b1, b2⟩, step⟩ := hr T hT X
  cases hv
  obtain ⟨t2, z1, z2⟩ := hk T'.heap (locs ++ LL) ls (by rw [e1]; exact b1) (by
    rw [e1]
    exact ⟨b2.1, b2.2.1, fun q hq => (List.mem_append.mp hq).elim (a2.2.2 q) (hL q)⟩) a3 T' rfl X'
  refine ⟨t2, step t2 ?_, z2⟩
  have : (r.map (m_val w)).toList ++ rest = m_T w (r.toList ++ st) := by
    rw [hrest]
    cases r <;> rfl
  rw [this]
  exact z1
/-- what the tables say of a method that is called: n parameters -/
def m_CB (kc : mKt) (n : Nat) : Prop := Cond.code kc.1 kc.2.1 kc.2.2.1 kc.2.2.2.1 ∈ m_tb ∧ Cond.initialized kc.1.cls ∈ m_tb ∧ plainName kc.1.cls = true ∧ kc.2.2.1 ≤ 45 ∧ kc.1.cls ≠ "java/lang/invoke/MethodHandle" ∧ kc.1.cls ≠ "java/lang/invoke/VarHandle" ∧ (parseMethodDescriptor kc.1.desc).map (fun d => d.parameters.length) = some n ∧ ∀ w s, kc.2.2.2.2 w s
def m_CV (kc : mKt) (n : Nat) : Prop := m_CB kc n ∧ Cond.instanceMethod kc.1 ∈ m_tb ∧ Cond.selects kc.1.cls kc.1 kc.1 ∈ m_tb
def m_CS (kc : mKt) (n : Nat) : Prop := m_CB kc n ∧ Cond.static kc.1 ∈ m_tb
def m_CI (kc : mKt) (n : Nat) : Prop := m_CB kc n ∧ Cond.instanceMethod kc.1 ∈ m_tb ∧ kc.1.name = "<init>" ∧ kc.2.2.2.1 = none
theorem m_wsG {kc : mKt} {n : Nat} (h : m_CB kc n) : GoodIn m_tb (m_ws kc) := fun q hq => by
  rcases List.mem_cons.mp hq with rfl | hq
  · exact m_tb_good _ h.1
  · exact m_tb_good _ hq
theorem m_cb {kc : mKt} {n dc mcc msc idx : Nat} {own : String} {R : Room} {s : State} {args : Array Value} (h : m_CB kc n) (ht : ∀ q ∈ m_tb, q.before args s = true) (hl : Cond.methodLink own idx kc.1 ∈ m_tb) (hR : dc + 1 ≤ R.frames) (hR2 : 64 * (dc + 1) ≤ R.locals) : CallB R s args own idx kc.1 kc.2.1 kc.2.2.1 kc.2.2.2.1 (m_ws kc) (m_rm dc mcc msc) mcc msc n :=
  callB_of n ht (m_wsG h) rfl rfl rfl (ht _ h.2.1) (ht _ hl) ⟨h.2.2.2.2.1, h.2.2.2.2.2.1, h.2.2.2.2.2.2.1⟩ ⟨hR, by have := h.2.2.2.1; show 8 + (kc.2.2.1 + 11) + 64 * dc ≤ R.locals; omega⟩
section CALL
variable {k : mKt} {d mc ms : Nat} {α β : Type} {pc pc' : Nat} {L L' : List (Nat × mV)} {st S : List mV} {post : α → mC}
theorem sm_new {idx ci N mc' ms' : Nat} {f : mA → mP α} (hd : m_D k pc (.new idx) 3) (hp : pc + 3 = pc') (hN : m_NW k.1.cls idx ci N) (h1 : mc + 1 = mc') (h2 : ms + N = ms') (h : ∀ x : mA, m_Sim k d mc ms (.inl (pc', L, .inr (.inr (some x)) :: st)) (f x) post) : m_Sim k d mc' ms' (.inl (pc, L, st)) (m_bd (m_new ci) f) post := by
  subst hp; subst h1; subst h2
  intro w p l e R s m args below meth c cells slots Q C hc hs μ a μ' hT hk H locs ls a1 a2 a3
  obtain ⟨hx, hb, hml, hown, hts, hr, hlk, hnm, hK, hf, hlo, hga⟩ := id C
  obtain ⟨x, μ1, e1, e2⟩ := m_bd_some hT
  unfold m_new at e1
  split at e1
  next hsh =>
    cases e1
    obtain ⟨C0, T0, y0, g1, g2, g3, g4, g5, g6, g7⟩ := hN
    have hKn := hK.1.1 ci _ g1
    refine W.newcK hx hb hown (hts _ g2) (hts _ g3) (hts _ g4) rfl hd (by omega) (by omega) hKn.2.1 a1.2 fun H1 kC hkC q1 q2 q3 => ?_
    have hH1 : m_H w (m_zero μ (m_pl μ.1)) H1 := by
      refine m_H_push a1 hsh.2 ?_ (by rw [q2, a1.2]) (fun q hq => q3 q (by rw [← a1.2]; exact hq))
      rw [m_enc_o hsh.1]
      refine ⟨_, g1, (u_born y0 hts g5 hKn hkC q1 g6).to (fun j hj => ?_)⟩
      obtain ⟨t, t1, t2⟩ := g7 j hj
      rw [t2]
      simp only [vp_V, List.getD_eq_getElem?_getD, m_fs_at t1]
      simp [m_dv, m_fv, m_I, m_J, m_R, m_zero, m_row, va_rf]
    have hk2 := h _ w p l e R s m args below meth c (cells + 1) (slots + N) Q C (by omega) (by omega) _ a μ' e2 (by rw [show cells + 1 + mc = cells + (mc + 1) by omega, show slots + N + ms = slots + (ms + N) by omega]; exact hk) H1 locs ls hH1 (m_S_push a2 (by rw [q2, a1.2]) (fun q hq => q3 q (by rw [← a1.2]; exact hq))) a3
    have hrf : w.1 + μ.1 = m_rho w (m_pl μ.1) := by rw [m_rho, if_neg hsh.2, m_pl_idx hsh.2]
    rw [hrf]
    exact hk2
  next => cases e1
theorem sm_nea {at' : ArrayType} {t n mc' ms' : Nat} {z : Int32} {f : mA → mP α} (hd : m_D k pc (.newarray at') 2) (hp : pc + 2 = pc') (hty : newarray.typeOf at' = m_ty t) (ht4 : t < 4) (ham : Cond.arrayClass (newarray.typeOf at') ∈ m_tb) (hz : ¬ z < 0) (hzn : z.toNatClampNeg = n) (hn : n ≤ 2000) (h1 : mc + 1 = mc') (h2 : ms + n = ms') (h : ∀ x : mA, m_Sim k d mc ms (.inl (pc', L, .inr (.inr (some x)) :: st)) (f x) post) : m_Sim k d mc' ms' (.inl (pc, L, .inl z :: st)) (m_bd (m_nea t n) f) post := by
  subst hp; subst h1; subst h2
  intro w p l e R s m args below meth c cells slots Q C hc hs μ a μ' hT hk H locs ls a1 a2 a3
  obtain ⟨hx, hb, hml, hown, hts, hr, hlk, hnm, hK, hf, hlo, hga⟩ := id C
  obtain ⟨x, μ1, e1, e2⟩ := m_bd_some hT
  unfold m_nea at e1
  split at e1
  next hsh =>
    cases e1
    refine va_newaK hx hb (hts _ ham) rfl hd rfl hz hzn (by have : componentBytes (newarray.typeOf at') ≤ 8 := by cases at' <;> decide
                                                            exact Nat.le_trans (Nat.mul_le_mul hn this) (by decide)) (by omega) (by omega) a1.2 fun H1 cA q1 q2 q3 q4 q5 => ?_
    have hcA : cA = w.2.2.2.1 t := by
      have hra := (hK.1.2 t _ (m_tys_at (by omega))).2
      rw [hty] at q5
      have : s.vm.findClass ("[" ++ (m_ty t).toString) = some (w.2.2.2.1 t) := by
        match t, ht4, hra with
        | 0, _, hra => exact hra
        | 1, _, hra => exact hra
        | 2, _, hra => exact hra
        | 3, _, hra => exact hra
      exact Option.some.inj (q5.symm.trans this)
    subst hcA
    have hH1 : m_H w (m_zero μ (m_pl μ.1)) H1 := by
      refine m_H_push a1 hsh.2 ?_ (by rw [q2, a1.2]) (fun q hq => q3 q (by rw [← a1.2]; exact hq))
      rw [m_enc_a hsh.1]
      show H1[w.1 + μ.1]? = some (vp_cell _ _)
      rw [q1, hty]
      match t, ht4 with
      | 0, _ => simp [vp_cell, m_ar, m_ty, defaultValue, m_I, m_zero, m_row]
      | 1, _ => simp [vp_cell, m_ar, m_ty, defaultValue, m_J, m_zero, m_row]
      | 2, _ => simp [vp_cell, m_ar, m_ty, defaultValue, m_I, m_zero, m_row]
      | 3, _ => simp [vp_cell, m_ar, m_ty, defaultValue, m_I, m_zero, m_row]
    have hk2 := h _ w p l e R s m args below meth c (cells + 1) (slots + n) Q C (by omega) (by omega) _ a μ' e2 (by rw [show cells + 1 + mc = cells + (mc + 1) by omega, show slots + n + ms = slots + (ms + n) by omega]; exact hk) H1 locs ls hH1 (m_S_push a2 (by rw [q2, a1.2]) (fun q hq => q3 q (by rw [← a1.2]; exact hq))) a3
    have hrf : w.1 + μ.1 = m_rho w (m_pl μ.1) := by rw [m_rho, if_neg hsh.2, m_pl_idx hsh.2]
    rw [hrf]
    exact hk2
  next => cases e1
theorem sm_neq {idx t n mc' ms' : Nat} {C0 : String} {z : Int32} {f : mA → mP α} (hd : m_D k pc (.anewarray idx) 3) (hp : pc + 3 = pc') (ht4 : 4 ≤ t ∧ t < 8) (htC : m_ty t = .object C0) (hcl : Cond.classLink k.1.cls idx C0 ∈ m_tb) (hao : C0 ∈ m_ao) (hz : ¬ z < 0) (hzn : z.toNatClampNeg = n) (hn : n ≤ 2000) (h1 : mc + 1 = mc') (h2 : ms + n = ms') (h : ∀ x : mA, m_Sim k d mc ms (.inl (pc', L, .inr (.inr (some x)) :: st)) (f x) post) : m_Sim k d mc' ms' (.inl (pc, L, .inl z :: st)) (m_bd (m_nea t n) f) post := by
  subst hp; subst h1; subst h2
  intro w p l e R s m args below meth c cells slots Q C hc hs μ a μ' hT hk H locs ls a1 a2 a3
  obtain ⟨hx, hb, hml, hown, hts, hr, hlk, hnm, hK, hf, hlo, hga⟩ := id C
  obtain ⟨x, μ1, e1, e2⟩ := m_bd_some hT
  unfold m_nea at e1
  split at e1
  next hsh =>
    cases e1
    subst hzn
    refine W.anew hx hb hown (hts _ hcl) (va_AO.use (hK.2.2.1.2 _ hao)) rfl hd rfl hz (Nat.le_trans (Nat.mul_le_mul_right 4 hn) (by decide)) (by omega) (by omega) fun cA kA comp f1 f2 f3 f4 => ?_
    have hcA : cA = w.2.2.2.1 t := by
      have hra := (hK.1.2 t _ (m_tys_at ht4.2)).2
      rw [htC] at hra
      obtain ⟨kA', comp', -, -, -, r4⟩ := hra
      exact Option.some.inj (f1.symm.trans r4)
    subst hcA
    generalize hH : H.push ({ cls := w.2.2.2.1 t, slots := Array.replicate z.toNatClampNeg .null, vm := .none } : Cell) = H1
    have q2 : H1.size = H.size + 1 := by rw [← hH, Array.size_push]
    have q1 : H1[H.size]? = some (arrV (w.2.2.2.1 t) z.toNatClampNeg (fun _ => .null)) := by rw [← hH, Array.getElem?_push_size, ← arrV_new]
    have q3 : ∀ q : Nat, q < H.size → H1[q]? = H[q]? := fun q hq => by rw [← hH, Array.getElem?_push, if_neg (Nat.ne_of_lt hq)]
    have hH1 : m_H w (m_zero μ (m_pl μ.1)) H1 := by
      refine m_H_push a1 hsh.2 ?_ q2 q3
      rw [m_enc_a hsh.1]
      show H1[w.1 + μ.1]? = some (vp_cell _ _)
      rw [← a1.2, q1]
      have hma : m_ar w (m_zero μ (m_pl μ.1)) (m_pl μ.1) t = .inr (.inr (.inr (.inr (fun j => (m_R (m_zero μ (m_pl μ.1)) (m_pl μ.1) j).map (m_rho w))))) := by unfold m_ar; rw [if_neg (by omega), if_pos ht4.1]
      rw [hma]
      simp [vp_cell, m_R, m_zero, m_row, va_rf]
    have hk2 := h _ w p l e R s m args below meth c (cells + 1) (slots + z.toNatClampNeg) Q C (by omega) (by omega) _ a μ' e2 (by rw [show cells + 1 + mc = cells + (mc + 1) by omega, show slots + z.toNatClampNeg + ms = slots + (ms + z.toNatClampNeg) by omega]; exact hk) H1 locs ls hH1 (m_S_push a2 q2 q3) a3
    have hrf : H.size = m_rho w (m_pl μ.1) := by rw [a1.2, m_rho, if_neg hsh.2, m_pl_idx hsh.2]
    show W p l e R s m args below meth c H1 locs (cells + 1) (slots + z.toNatClampNeg) Q (F0 m (pc + 3) ls (.ref H.size :: m_T w st))
    rw [hrf]
    exact hk2
  next => cases e1
theorem sm_objInit {idx : Nat} {x : mA} (hd : m_D k pc (.invokespecial idx) 3) (hp : pc + 3 = pc') (hl : Cond.methodLink k.1.cls idx objectInit ∈ m_tb) (hi : Cond.instanceMethod objectInit ∈ m_tb) (hc : Cond.code objectInit ⟨#[0xb1]⟩ 1 none ∈ m_tb) (hd1 : 1 ≤ d) (hst : st = []) {T : mP α} (h : m_Sim k d mc ms (.inl (pc', L, st)) T post) : m_Sim k d mc ms (.inl (pc, L, .inr (.inr (some x)) :: st)) T post := by
  subst hp; subst hst
  refine m_step (fun w p l e R s m args below meth c cells slots Q C hcl hsl μ hk H locs ls a1 a2 a3 => ?_) h
  obtain ⟨hx, hb, hml, hown, hts, hr, hlk, hnm, hK, hf, hlo, hga⟩ := C
  refine W.objInit hx hb hown (hts _ hl) (hts _ hi) (hts _ hc) rfl (by rw [hml]; exact a3.1) (a := m_rho w x) (rest := []) rfl hd (by omega) (by show 2 * 0 + 0 + 12 ≤ R.locals; omega) ?_
  exact hk H locs ls a1 a2 a3
theorem sm_callV {kc : mKt} {dc mcc msc n idx ci mc' ms' : Nat} {av : List mV} {x : Option mA} {T : mP β} {rv : β → Option mV} {f : β → mP α} (hd : m_D k pc (.invokevirtual idx) 3) (hp : pc + 3 = pc') (hM : m_Sm kc dc mcc msc (.inr (.inr x) :: av) T rv) (hth : ∀ μ r, T μ = some r → ∃ y, m_oo μ ci x = some y) (hci : m_cl[ci]?.map (fun q => q.1) = some kc.1.cls) (hB : m_CV kc n) (hl : Cond.methodLink k.1.cls idx kc.1 ∈ m_tb) (hS : S = av.reverse ++ .inr (.inr x) :: st) (hn : av.length = n) (hdd : dc + 1 ≤ d) (hw : m_wd st ≤ 8) (h1 : mcc + mc = mc') (h2 : msc + ms = ms') (h : ∀ b, m_Sim k d mc ms (.inl (pc', L, (rv b).toList ++ st)) (f b) post) : m_Sim k d mc' ms' (.inl (pc, L, S)) (m_bd T f) post := by
  subst hp; subst h1; subst h2; subst hS
  intro w p l e R s m args below meth c cells slots Q C hc hs μ a μ' hT hk H locs ls a1 a2 a3
  obtain ⟨hx, hb, hml, hown, hts, hr, hlk, hnm, hK, hf, hlo, hga⟩ := id C
  obtain ⟨b, μ1, e1, e2⟩ := m_bd_some hT
  obtain ⟨y, hy⟩ := hth μ _ e1
  obtain ⟨rfl, hs1, hok⟩ := m_oo_spec hy
  obtain ⟨r0, hr0, hob⟩ := m_obj a1 hs1 hok
  have hr1 : r0.1 = kc.1.cls := by
    rw [hr0] at hci
    exact Option.some.inj hci
  have hrecv := va_recv hK.1 a1.1 hr0 (q0 := m_idx y) (a := m_rho w y) (fs := m_fs w μ y ci) (by rw [m_WS_at hok, m_enc_o hs1])
  rw [hr1] at hrecv
  have hrun := va_runV (l := l) (e := e) (below := below) (meth := meth) (locs := locs) (cells := cells) (slots := slots) (As := m_T w av) (rest := m_T w st) (b := m_rho w y) (C := kc.1.cls) (H := H) (g := F0 m pc ls (m_T w (av.reverse ++ .inr (.inr (some y)) :: st))) ⟨hx, hb, hml, hown, hts⟩ (m_met hM hB.1.2.2.1 hB.1.2.2.2.2.2.2.2 l w e1) ⟨m_cb (R := R) hB.1 hts hl (by omega) (by omega), hts _ hB.2.1, hts _ hB.2.2⟩
    ⟨m_blind w _ μ, hrecv, fun U hU hW => ⟨rfl, by rw [hU]; exact a1, m_K.warm hW hK, by rw [hU]; exact m_S0 a2⟩⟩ rfl (by rw [m_T, List.length_map]; exact hn) a3.1 (by show m_T w (av.reverse ++ .inr (.inr (some y)) :: st) = (m_T w av).reverse ++ .ref (m_rho w y) :: m_T w st; simp [m_T, m_val, va_rf]) (lv_room (by rw [m_wd_cat]; exact hw)) hd ⟨by omega, by omega⟩
  refine m_cont (k := k) hrun rfl a2 a3 ?_
  exact h b w p l e R s m args below meth c (cells + mcc) (slots + msc) Q C (by omega) (by omega) μ1 a μ' e2 (by rw [show cells + mcc + mc = cells + (mcc + mc) by omega, show slots + msc + ms = slots + (msc + ms) by omega]; exact hk)
theorem sm_callS {kc : mKt} {dc mcc msc n idx mc' ms' : Nat} {av : List mV} {T : mP β} {rv : β → Option mV} {f : β → mP α} (hd : m_D k pc (.invokestatic idx) 3) (hp : pc + 3 = pc') (hM : m_Sm kc dc mcc msc av T rv) (hB : m_CS kc n) (hl : Cond.methodLink k.1.cls idx kc.1 ∈ m_tb) (hS : S = av.reverse ++ st) (hn : av.length = n) (hdd : dc + 1 ≤ d) (hw : m_wd st ≤ 8) (h1 : mcc + mc = mc') (h2 : msc + ms = ms') (h : ∀ b, m_Sim k d mc ms (.inl (pc', L, (rv b).toList ++ st)) (f b) post) : m_Sim k d mc' ms' (.inl (pc, L, S)) (m_bd T f) post := by
  subst hp; subst h1; subst h2; subst hS
  intro w p l e R s m args below meth c cells slots Q C hc hs μ a μ' hT hk H locs ls a1 a2 a3
  obtain ⟨hx, hb, hml, hown, hts, hr, hlk, hnm, hK, hf, hlo, hga⟩ := id C
  obtain ⟨b, μ1, e1, e2⟩ := m_bd_some hT
  have hrun := va_runS (l := l) (e := e) (below := below) (meth := meth) (locs := locs) (cells := cells) (slots := slots) (As := m_T w av) (rest := m_T w st) (H := H) (g := F0 m pc ls (m_T w (av.reverse ++ st))) ⟨hx, hb, hml, hown, hts⟩ (m_met hM hB.1.2.2.1 hB.1.2.2.2.2.2.2.2 l w e1) ⟨m_cb (R := R) hB.1 hts hl (by omega) (by omega), hts _ hB.2⟩
    ⟨m_blind w _ μ, fun U hU hW => ⟨rfl, by rw [hU]; exact a1, m_K.warm hW hK, by rw [hU]; exact m_S0 a2⟩⟩ rfl (by rw [m_T, List.length_map]; exact hn) a3.1 (by show m_T w (av.reverse ++ st) = (m_T w av).reverse ++ m_T w st; simp [m_T]) (lv_room (by rw [m_wd_cat]; exact hw)) hd ⟨by omega, by omega⟩
  refine m_cont (k := k) hrun rfl a2 a3 ?_
  exact h b w p l e R s m args below meth c (cells + mcc) (slots + msc) Q C (by omega) (by omega) μ1 a μ' e2 (by rw [show cells + mcc + mc = cells + (mcc + mc) by omega, show slots + msc + ms = slots + (msc + ms) by omega]; exact hk)
theorem sm_callI {kc : mKt} {dc mcc msc n idx mc' ms' : Nat} {av : List mV} {x : Option mA} {T : mP Unit} {f : Unit → mP α} (hd : m_D k pc (.invokespecial idx) 3) (hp : pc + 3 = pc') (hM : m_Sm kc dc mcc msc (.inr (.inr x) :: av) T (fun _ => none)) (hx0 : ∀ μ r, T μ = some r → x.isSome = true) (hB : m_CI kc n) (hl : Cond.methodLink k.1.cls idx kc.1 ∈ m_tb ∨ ∃ host, (k.1.cls, idx, kc.1, host) ∈ m_nw) (hS : S = av.reverse ++ .inr (.inr x) :: st) (hn : av.length = n) (hdd : dc + 1 ≤ d) (hw : m_wd st ≤ 8) (h1 : mcc + mc = mc') (h2 : msc + ms = ms') (h : m_Sim k d mc ms (.inl (pc', L, st)) (f ()) post) : m_Sim k d mc' ms' (.inl (pc, L, S)) (m_bd T f) post := by
  subst hp; subst h1; subst h2; subst hS
  intro w p l e R s m args below meth c cells slots Q C hc hs μ a μ' hT hk H locs ls a1 a2 a3
  obtain ⟨hx, hb, hml, hown, hts, hr, hlk, hnm, hK, hf, hlo, hga⟩ := id C
  obtain ⟨b, μ1, e1, e2⟩ := m_bd_some hT
  obtain ⟨y, rfl⟩ : ∃ y, x = some y := Option.isSome_iff_exists.mp (hx0 μ _ e1)
  have hstk : m_T w (av.reverse ++ .inr (.inr (some y)) :: st) = (m_T w av).reverse ++ .ref (m_rho w y) :: m_T w st := by simp [m_T, m_val, va_rf]
  have hmet := m_met hM hB.1.2.2.1 hB.1.2.2.2.2.2.2.2 l w e1
  have hpre : PreS s H (m_Pc w (.inr (.inr (some y)) :: av) μ) (.ref (m_rho w y) :: m_T w av) := ⟨m_blind w _ μ, fun U hU hW => ⟨rfl, by rw [hU]; exact a1, m_K.warm hW hK, by rw [hU]; exact m_S0 a2⟩⟩
  have hcont : va_Run p l e R s m args below meth c H locs cells slots mcc msc (F0 m pc ls (m_T w (av.reverse ++ .inr (.inr (some y)) :: st))) (m_T w st) (m_Qc w none μ1 (Value.ref (m_rho w y) :: m_T w av).toArray) (m_A w) := by
    rcases hl with hl | ⟨host, hl⟩
    · have hcb := m_cb (R := R) (dc := dc) (mcc := mcc) (msc := msc) hB.1 hts hl (by omega) (by omega)
      rw [hB.2.2.2] at hcb
      exact va_runI (ws := m_ws kc) (rm := m_rm dc mcc msc) (bytes := kc.2.1) (maxL := kc.2.2.1) (y := kc.1) (b := m_rho w y) (As := m_T w av) (g := F0 m pc ls (m_T w (av.reverse ++ .inr (.inr (some y)) :: st))) ⟨hx, hb, hml, hown, hts⟩ hmet ⟨hcb, hB.2.2.1, hts _ hB.2.1⟩ hpre rfl (by rw [m_T, List.length_map]; exact hn) a3.1 hstk (lv_room (by rw [m_wd_cat]; exact hw)) hd ⟨by omega, by omega⟩
    · have hcn : va_CN R s args k.1.cls idx kc.1 host kc.2.1 kc.2.2.1 none (m_ws kc) (m_rm dc mcc msc) mcc msc n := va_cnB n hts (m_wsG hB.1) (by rw [m_ws, hB.2.2.2]) rfl rfl (hK.2.2.1.1 _ hl) (hts _ hB.1.2.1) ⟨hB.1.2.2.2.2.1, hB.1.2.2.2.2.2.1, hB.1.2.2.2.2.2.2.1⟩ ⟨by show dc + 1 ≤ R.frames; omega, by have := hB.1.2.2.2.1; show 8 + (kc.2.2.1 + 11) + 64 * dc ≤ R.locals; omega⟩
      exact va_runIN (ws := m_ws kc) (rm := m_rm dc mcc msc) (bytes := kc.2.1) (maxL := kc.2.2.1) (y := kc.1) (host := host) (b := m_rho w y) (As := m_T w av) (g := F0 m pc ls (m_T w (av.reverse ++ .inr (.inr (some y)) :: st))) ⟨hx, hb, hml, hown, hts⟩ hmet ⟨hcn, hB.2.2.1, hts _ hB.2.1⟩ hpre rfl (by rw [m_T, List.length_map]; exact hn) a3.1 hstk (lv_room (by rw [m_wd_cat]; exact hw)) hd ⟨by omega, by omega⟩
  refine m_cont (k := k) hcont rfl a2 a3 ?_
  exact h w p l e R s m args below meth c (cells + mcc) (slots + msc) Q C (by omega) (by omega) μ1 a μ' e2 (by rw [show cells + mcc + mc = cells + (mcc + mc) by omega, show slots + msc + ms = slots + (msc + ms) by omega]; exact hk)
theorem sm_callSN {kc : mKt} {dc mcc msc n idx mc' ms' : Nat} {host : String} {av : List mV} {T : mP β} {rv : β → Option mV} {f : β → mP α} (hd : m_D k pc (.invokestatic idx) 3) (hp : pc + 3 = pc') (hM : m_Sm kc dc mcc msc av T rv) (hB : m_CS kc n) (hl : (k.1.cls, idx, kc.1, host) ∈ m_nw) (hS : S = av.reverse ++ st) (hn : av.length = n) (hdd : dc + 1 ≤ d) (hw : m_wd st ≤ 8) (h1 : mcc + mc = mc') (h2 : msc + ms = ms') (h : ∀ b, m_Sim k d mc ms (.inl (pc', L, (rv b).toList ++ st)) (f b) post) : m_Sim k d mc' ms' (.inl (pc, L, S)) (m_bd T f) post := by
  subst hp; subst h1; subst h2; subst hS
  intro w p l e R s m args below meth c cells slots Q C hc hs μ a μ' hT hk H locs ls a1 a2 a3
  obtain ⟨hx, hb, hml, hown, hts, hr, hlk, hnm, hK, hf, hlo, hga⟩ := id C
  obtain ⟨b, μ1, e1, e2⟩ := m_bd_some hT
  have hcn : va_CN R s args k.1.cls idx kc.1 host kc.2.1 kc.2.2.1 kc.2.2.2.1 (m_ws kc) (m_rm dc mcc msc) mcc msc n := va_cnB n hts (m_wsG hB.1) rfl rfl rfl (hK.2.2.1.1 _ hl) (hts _ hB.1.2.1) ⟨hB.1.2.2.2.2.1, hB.1.2.2.2.2.2.1, hB.1.2.2.2.2.2.2.1⟩ ⟨by show dc + 1 ≤ R.frames; omega, by have := hB.1.2.2.2.1; show 8 + (kc.2.2.1 + 11) + 64 * dc ≤ R.locals; omega⟩
  have hrun := va_runSN (l := l) (e := e) (below := below) (meth := meth) (locs := locs) (cells := cells) (slots := slots) (As := m_T w av) (rest := m_T w st) (H := H) (g := F0 m pc ls (m_T w (av.reverse ++ st))) ⟨hx, hb, hml, hown, hts⟩ (m_met hM hB.1.2.2.1 hB.1.2.2.2.2.2.2.2 l w e1) ⟨hcn, hts _ hB.2, trivial⟩
    ⟨m_blind w _ μ, fun U hU hW => ⟨rfl, by rw [hU]; exact a1, m_K.warm hW hK, by rw [hU]; exact m_S0 a2⟩⟩ rfl (by rw [m_T, List.length_map]; exact hn) a3.1 (by show m_T w (av.reverse ++ st) = (m_T w av).reverse ++ m_T w st; simp [m_T]) (lv_room (by rw [m_wd_cat]; exact hw)) hd ⟨by omega, by omega⟩
  refine m_cont (k := k) hrun rfl a2 a3 ?_
  exact h b w p l e R s m args below meth c (cells + mcc) (slots + msc) Q C (by omega) (by omega) μ1 a μ' e2 (by rw [show cells + mcc + mc = cells + (mcc + mc) by omega, show slots + msc + ms = slots + (msc + ms) by omega]; exact hk)
end CALL
