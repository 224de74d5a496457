/-! Part 04, laid by wip/whole/core2.py: contexts, m_Sim, rules -/
def m_sx : List String := ["person", "shows", "life", "damp", "breath", "age", "of", "thing", "thick", "coat", "loves", "year", "oil", "mend", "any", "when", "through", "rust", "loop", "end", "stop"]
def m_sb : List (List Int32) := [[112, 101, 114, 115, 111, 110], [115, 104, 111, 119, 115], [108, 105, 102, 101], [100, 97, 109, 112], [98, 114, 101, 97, 116, 104], [97, 103, 101], [111, 102], [116, 104, 105, 110, 103], [116, 104, 105, 99, 107], [99, 111, 97, 116], [108, 111, 118, 101, 115], [121, 101, 97, 114], [111, 105, 108], [109, 101, 110, 100], [97, 110, 121], [119, 104, 101, 110], [116, 104, 114, 111, 117, 103, 104], [114, 117, 115, 116], [108, 111, 111, 112], [101, 110, 100], [115, 116, 111, 112]]
def m_sTab : List (String × Nat × Nat) := [("RustFamily$Reader", 24, 0), ("RustFamily$Text", 77, 1), ("RustFamily$Text", 83, 2), ("RustFamily$Text", 85, 3), ("RustFamily$Text", 87, 4), ("RustFamily$Text", 89, 0), ("RustFamily$Text", 91, 5), ("RustFamily$Text", 93, 6), ("RustFamily$Text", 95, 7), ("RustFamily$Text", 97, 8), ("RustFamily$Text", 99, 9), ("RustFamily$Text", 101, 10), ("RustFamily$Text", 103, 11), ("RustFamily$Text", 105, 12), ("RustFamily$Text", 107, 13), ("RustFamily$Text", 109, 14), ("RustFamily$Text", 111, 15), ("RustFamily$Text", 113, 16), ("RustFamily$Text", 115, 17), ("RustFamily$Text", 117, 18), ("RustFamily$Text", 119, 19), ("RustFamily$Text", 121, 20), ("RustFamily$Reader", 123, 5), ("RustFamily$Reader", 128, 6), ("RustFamily$Reader", 34, 7), ("RustFamily$Reader", 134, 8), ("RustFamily$Reader", 136, 9), ("RustFamily$Reader", 39, 10), ("RustFamily$Reader", 78, 1), ("RustFamily$Reader", 86, 2), ("RustFamily$Reader", 87, 3), ("RustFamily$Reader", 88, 4), ("RustFamily$Reader", 160, 19), ("RustFamily$Reader", 166, 15), ("RustFamily$Reader", 215, 16), ("RustFamily$Reader", 217, 17), ("RustFamily$Reader", 189, 11), ("RustFamily$Reader", 190, 12), ("RustFamily$Reader", 192, 13), ("RustFamily$Reader", 194, 14), ("RustFamily$Reader", 196, 20), ("RustFamily$Reader", 198, 18)]
def m_nS : Nat := 21
def m_nw : List (String × Nat × MethodName × String) := [("RustFamily$Family", 37, ⟨"RustFamily$Thing", "<init>", "()V"⟩, "RustFamily"), ("RustFamily$Ahead", 11, ⟨"RustFamily$Thing", "<init>", "()V"⟩, "RustFamily"), ("RustFamily$Game", 15, ⟨"RustFamily$Thing", "<init>", "()V"⟩, "RustFamily"), ("RustFamily$Text", 127, ⟨"RustFamily", "isWithin", "(III)Z"⟩, "RustFamily")]
def m_ao : List String := ["RustFamily$Tray", "RustFamily$Family", "RustFamily$Person", "RustFamily$Thing"]
/-- the words that go from method to method -/
def m_tb : List Cond := lw_tbl.filter goodWord
theorem m_tb_good : GoodIn m_tb m_tb := fun w h => ⟨h, good_of_word (List.mem_filter.mp h).2⟩
/-- what the tables say of the world's classes, and what they say of texts and nests -/
def m_St (w : mW) (s : State) : Prop :=
  (∀ q ∈ m_sTab, vk_R q.1 q.2.1 (m_sx.getD q.2.2 "") (w.2.2.2.2.1 q.2.2) s) ∧
  (∀ j, j < m_nS → va_O "java/lang/String" (w.2.2.2.2.1 j) (m_A w) s w.2.1 ∧ va_OF "java/lang/String" "coder" "B" (.int 0) (w.2.2.2.2.1 j) (m_A w) s w.2.1 ∧ va_OF "java/lang/String" "value" "[B" (.ref (w.2.2.2.2.2 j)) (w.2.2.2.2.1 j) (m_A w) s w.2.1 ∧ va_T .byte (w.2.2.2.2.2 j) (m_sb.getD j []).length (fun i => .int ((m_sb.getD j []).getD i 0)) (m_A w) s w.2.1) ∧
  va_Z "java/lang/String" "COMPACT_STRINGS" "Z" (.int 1) (m_A w) s w.2.1 ∧ va_Zq "jdk/internal/util/Preconditions" "SIOOBE_FORMATTER" "Ljava/util/function/BiFunction;" (m_A w) s w.2.1
def m_X (s : State) : Prop := (∀ q ∈ m_nw, va_Nw (.methodLinkNest q.1 q.2.1 q.2.2.1 q.2.2.2) s) ∧ ∀ C ∈ m_ao, va_AO C s
def m_K (w : mW) (s : State) : Prop := va_K w.2.2.1 m_cl (m_tys w) s ∧ w.2.1.size = w.1 ∧ m_X s ∧ m_St w s
theorem m_K.warm {w : mW} {s U : State} (hW : s.WarmedH U.vm) (h : m_K w s) : m_K w U := by
  obtain ⟨h1, h2, ⟨h3, h4⟩, h5, h6, h7, h8⟩ := h
  refine ⟨va_K.moved hW.alike h1, h2, ⟨fun q hq => va_Nw.warmM hW (h3 q hq), fun C hC => va_AO.moved hW.alike (h4 C hC)⟩, fun q hq => vk_R.warm hW (h5 q hq), fun j hj => ?_, va_Z.moved hW.alike h7, va_Zq.moved hW.alike h8⟩
  obtain ⟨a1, a2, a3, a4⟩ := h6 j hj
  exact ⟨va_O.moved hW.alike a1, va_OF.moved hW.alike a2, va_OF.moved hW.alike a3, va_T.moved hW.alike a4⟩
theorem m_K.same {w : mW} {u U : State} (hv : U.vm = u.vm) (h : m_K w u) : m_K w U := by
  have ha : u.vm.Alike U.vm := by rw [hv]; exact Vm.Alike.refl _
  obtain ⟨h1, h2, ⟨h3, h4⟩, h5, h6, h7, h8⟩ := h
  refine ⟨va_K.moved ha h1, h2, ⟨fun q hq => va_Nw.same rfl hv.symm (h3 q hq), fun C hC => va_AO.moved ha (h4 C hC)⟩, fun q hq => vk_R.same hv (h5 q hq), fun j hj => ?_, va_Z.moved ha h7, va_Zq.moved ha h8⟩
  obtain ⟨a1, a2, a3, a4⟩ := h6 j hj
  exact ⟨va_O.moved ha a1, va_OF.moved ha a2, va_OF.moved ha a3, va_T.moved ha a4⟩
/-- a method: its name, its code, its locals, what it returns -/
abbrev mKt : Type := MethodName × ByteArray × Nat × Option FieldType × (mW → State → Prop)
def m_D (k : mKt) (pc : Nat) (i : Instr) (len : Nat) : Prop := decode k.2.1 pc = .ok (i, len)
def m_Cx (w : mW) (k : mKt) (d : Nat) (p : Program) (R : Room) (s : State) (m : MethodId) (args : Array Value) (meth : Method) (c : Code) : Prop :=
  p.tables.exec = Jvm.exec ∧ c.code = k.2.1 ∧ c.maxLocals = k.2.2.1 ∧ s.vm.findClass k.1.cls = some m.cls ∧ (∀ q ∈ m_tb, q.before args s = true) ∧ meth.sig.returnType = k.2.2.2.1 ∧ meth.locks = false ∧ meth.name = k.1.name ∧ m_K w s ∧ d ≤ R.frames ∧ 64 * d ≤ R.locals ∧ k.2.2.2.2 w s
/-- where a method stands: at a place, with locals and a stack; or back, with what it gives -/
abbrev mC : Type := (Nat × List (Nat × mV) × List mV) ⊕ Option mV
def m_L (w : mW) (L : List (Nat × mV)) : List (Nat × Value) := L.map (fun q => (q.1, m_val w q.2))
def m_T (w : mW) (st : List mV) : List Value := st.map (m_val w)
def m_ri (r : Option mV) : Instr := match r with
  | none => .return_
  | some (.inl _) => .ireturn
  | some (.inr (.inl _)) => .lreturn
  | some (.inr (.inr _)) => .areturn
def m_ro (ret : Option FieldType) (r : Option mV) : Prop := match r with
  | none => ret = none
  | some (.inl v) => ret = some .int ∨ (∃ ty, ret = some ty ∧ narrow ty (.int v) = .int v)
  | some (.inr (.inl _)) => ret = some .long
  | some (.inr (.inr _)) => ∃ n, ret = some (.object n)
def m_WP (w : mW) (k : mKt) (p : Program) (l : Launch) (e : Env) (R : Room) (s : State) (m : MethodId) (args : Array Value) (below : List Frame) (meth : Method) (c : Code) (cells slots : Nat) (Q : State → Prop) (cf : mC) (μ : mM) : Prop := match cf with
  | .inl (pc, L, st) => ∀ (H : Heap) (locs : List Loc) (ls : Array Slot), m_H w μ H → va_S (m_A w) w.2.1 H locs → lv_has ls k.2.2.1 (m_L w L) → W p l e R s m args below meth c H locs cells slots Q (F0 m pc ls (m_T w st))
  | .inr r => m_ro k.2.2.2.1 r → ∀ (H : Heap) (locs : List Loc) (ls : Array Slot) (pc : Nat), m_H w μ H → va_S (m_A w) w.2.1 H locs → m_D k pc (m_ri r) 1 → W p l e R s m args below meth c H locs cells slots Q (F0 m pc ls (m_T w r.toList))
def m_Sim (k : mKt) (d mc ms : Nat) (cf : mC) {α : Type} (T : mP α) (post : α → mC) : Prop :=
  ∀ (w : mW) (p : Program) (l : Launch) (e : Env) (R : Room) (s : State) (m : MethodId) (args : Array Value) (below : List Frame) (meth : Method) (c : Code) (cells slots : Nat) (Q : State → Prop), m_Cx w k d p R s m args meth c → cells + mc ≤ R.cells → slots + ms ≤ R.slots →
    ∀ (μ : mM) (a : α) (μ' : mM), T μ = some (a, μ') → m_WP w k p l e R s m args below meth c (cells + mc) (slots + ms) Q (post a) μ' → m_WP w k p l e R s m args below meth c cells slots Q cf μ
theorem m_bd_some {α β : Type} {x : mP α} {f : α → mP β} {μ μ' : mM} {b : β} (h : m_bd x f μ = some (b, μ')) : ∃ a μ1, x μ = some (a, μ1) ∧ f a μ1 = some (b, μ') := by
  unfold m_bd at h
  cases hx : x μ with
  | none => rw [hx] at h; cases h
  | some r => rw [hx] at h; exact ⟨r.1, r.2, rfl, h⟩
section SIM
variable {k : mKt} {d mc ms : Nat} {α β : Type} {pc pc' : Nat} {L L' : List (Nat × mV)} {st : List mV} {T T1 T2 : mP α} {post : α → mC}
/-- a step of the machine that no cell sees: out of a row of the kit -/
theorem m_step {cf cf' : mC} (hW : ∀ (w : mW) (p : Program) (l : Launch) (e : Env) (R : Room) (s : State) (m : MethodId) (args : Array Value) (below : List Frame) (meth : Method) (c : Code) (cells slots : Nat) (Q : State → Prop), m_Cx w k d p R s m args meth c → cells ≤ R.cells → slots ≤ R.slots → ∀ μ, m_WP w k p l e R s m args below meth c cells slots Q cf' μ → m_WP w k p l e R s m args below meth c cells slots Q cf μ)
    (h : m_Sim k d mc ms cf' T post) : m_Sim k d mc ms cf T post :=
  fun w p l e R s m args below meth c cells slots Q C hc hs μ a μ' hT hk => hW w p l e R s m args below meth c cells slots Q C (by omega) (by omega) μ (h w p l e R s m args below meth c cells slots Q C hc hs μ a μ' hT hk)
theorem sm_rt {cf : mC} {a : α} {post : α → mC} (h : cf = post a) : m_Sim k d 0 0 cf (m_rt a) post := by
  intro w p l e R s m args below meth c cells slots Q C hc hs μ b μ' hT hk
  cases hT
  rw [h]
  exact hk
theorem sm_bd {cf : mC} {x : mP β} {f : β → mP α} {mid : β → mC} (h1 : m_Sim k d 0 0 cf x mid) (h2 : ∀ b, m_Sim k d mc ms (mid b) (f b) post) : m_Sim k d mc ms cf (m_bd x f) post := by
  intro w p l e R s m args below meth c cells slots Q C hc hs μ a μ' hT hk
  obtain ⟨b, μ1, e1, e2⟩ := m_bd_some hT
  exact h1 w p l e R s m args below meth c cells slots Q C (by omega) (by omega) μ b μ1 e1 (h2 b w p l e R s m args below meth c cells slots Q C hc hs μ1 a μ' e2 hk)
theorem sm_lp {S E : Type} {hd : S → mC} {body : S → mP (S ⊕ E)} {post : E → mC} (hb : ∀ s, m_Sim k d 0 0 (hd s) (body s) (fun r => match r with | .inl s' => hd s' | .inr x => post x)) : ∀ (n : Nat) (s : S), m_Sim k d 0 0 (hd s) (m_lp body n s) post := by
  intro n
  induction n with
  | zero =>
    intro s w p l e R s' m args below meth c cells slots Q C hc hs μ a μ' hT hk
    cases hT
  | succ n ih =>
    intro s
    refine sm_bd (hb s) (fun r => ?_)
    cases r with
    | inl s' => exact ih s'
    | inr x => exact sm_rt rfl
theorem sm_bdA {cf : mC} {x : mP β} {f : β → mP α} {mid : β → mC} {mc1 ms1 mc2 ms2 : Nat} (h1 : m_Sim k d mc1 ms1 cf x mid) (h2 : ∀ b, m_Sim k d mc2 ms2 (mid b) (f b) post) (e1 : mc1 + mc2 = mc) (e2 : ms1 + ms2 = ms) : m_Sim k d mc ms cf (m_bd x f) post := by
  subst e1; subst e2
  intro w p l e R s m args below meth c cells slots Q C hc hs μ a μ' hT hk
  obtain ⟨b, μ1, e1, e2⟩ := m_bd_some hT
  exact h1 w p l e R s m args below meth c cells slots Q C (by omega) (by omega) μ b μ1 e1 (h2 b w p l e R s m args below meth c (cells + mc1) (slots + ms1) Q C (by omega) (by omega) μ1 a μ' e2 (by rw [Nat.add_assoc, Nat.add_assoc]; exact hk))
theorem sm_th {cf : mC} {ci : Nat} {x : Option mA} (h : m_Sim k d mc ms cf T post) : m_Sim k d mc ms cf (m_th ci x T) post := by
  intro w p l e R s m args below meth c cells slots Q C hc hs μ a μ' hT hk
  unfold m_th at hT
  split at hT
  next => cases hT
  next => exact h w p l e R s m args below meth c cells slots Q C hc hs μ a μ' hT hk
theorem sm_wid {cf : mC} {mc' ms' : Nat} (h1 : mc' ≤ mc) (h2 : ms' ≤ ms) (h : m_Sim k d mc' ms' cf T post) : m_Sim k d mc ms cf T post := by
  intro w p l e R s m args below meth c cells slots Q C hc hs μ a μ' hT hk
  refine h w p l e R s m args below meth c cells slots Q C (by omega) (by omega) μ a μ' hT ?_
  cases hq : post a with
  | inl q =>
    rw [hq] at hk
    intro H locs ls a1 a2 a3
    exact W.widen (by omega) (by omega) (hk H locs ls a1 a2 a3)
  | inr r =>
    rw [hq] at hk
    intro a0 H locs ls pc a1 a2 a3
    exact W.widen (by omega) (by omega) (hk a0 H locs ls pc a1 a2 a3)
/-- fewer locals, in any order -/
theorem sm_sub (ks : List Nat) (hl : ks.filterMap (fun i => L[i]?) = L') (h : m_Sim k d mc ms (.inl (pc, L', st)) T post) : m_Sim k d mc ms (.inl (pc, L, st)) T post := by
  refine m_step (cf' := .inl (pc, L', st)) (fun w p l e R s m args below meth c cells slots Q C _ _ μ hk H locs ls a1 a2 a3 => hk H locs ls a1 a2 ⟨a3.1, a3.2.1, fun q hq => ?_⟩) h
  subst hl
  obtain ⟨x, hx, rfl⟩ := List.mem_map.mp hq
  obtain ⟨i, -, hi⟩ := List.mem_filterMap.mp hx
  exact a3.2.2 _ (List.mem_map.mpr ⟨x, List.mem_of_getElem? hi, rfl⟩)
theorem m_at {w : mW} {ls : Array Slot} {nL j i : Nat} {v : mV} (hl : lv_has ls nL (m_L w L)) (h : L[j]? = some (i, v)) : ls[i]? = some (.val (m_val w v)) :=
  hl.2.2 (i, m_val w v) (List.mem_map.mpr ⟨(i, v), List.mem_of_getElem? h, rfl⟩)
theorem m_cat (w : mW) (v : mV) : (m_val w v).category = if v.elim (fun _ => false) (fun x => x.elim (fun _ => true) (fun _ => false)) = true then 2 else 1 := by
  rcases v with x | x | r
  · rfl
  · rfl
  · cases r <;> rfl
/-- whether a value has two halves -/
def m_two (v : mV) : Bool := v.elim (fun _ => false) (fun x => x.elim (fun _ => true) (fun _ => false))
def m_s1 (L : List (Nat × mV)) (i : Nat) (v : mV) : List (Nat × mV) := (i, v) :: L.filter (fun q => !(q.1 == i) && !(q.1 + 1 == i && m_two q.2))
def m_s2 (L : List (Nat × mV)) (i : Nat) (v : mV) : List (Nat × mV) := (i, v) :: L.filter (fun q => !(q.1 == i) && (!(q.1 == i + 1) && !(q.1 + 1 == i && m_two q.2)))
theorem m_tw (w : mW) (v : mV) : ((m_val w v).category == 2) = m_two v := by
  rcases v with x | x | r
  · rfl
  · rfl
  · cases r <;> rfl
theorem m_L_s1 {w : mW} {i : Nat} {v : mV} : (i, m_val w v) :: (m_L w L).filter (fun q => !(q.1 == i) && !(q.1 + 1 == i && q.2.category == 2)) = m_L w (m_s1 L i v) := by
  simp only [m_L, m_s1, List.map_cons, List.filter_map]
  congr 2
  apply List.filter_congr
  intro q _
  simp only [Function.comp, m_tw]
theorem m_L_s2 {w : mW} {i : Nat} {v : mV} : (i, m_val w v) :: (m_L w L).filter (fun q => !(q.1 == i) && (!(q.1 == i + 1) && !(q.1 + 1 == i && q.2.category == 2))) = m_L w (m_s2 L i v) := by
  simp only [m_L, m_s2, List.map_cons, List.filter_map]
  congr 2
  apply List.filter_congr
  intro q _
  simp only [Function.comp, m_tw]
theorem m_c1 (w : mW) {v : mV} (h : m_two v = false) : (m_val w v).category = 1 := by
  rcases v with x | x | r
  · rfl
  · cases h
  · cases r <;> rfl
theorem m_c2 (w : mW) {v : mV} (h : m_two v = true) : (m_val w v).category = 2 := by
  rcases v with x | x | r
  · cases h
  · rfl
  · cases h
def m_nz (y : Int32) : mP Unit := fun μ => if y = 0 then none else some ((), μ)
def m_nzJ (y : Int64) : mP Unit := fun μ => if y = 0 then none else some ((), μ)
theorem sm_iconst {n : Int} {v : Int32} (hd : m_D k pc (.iconst n) 1) (hp : pc + 1 = pc') (hv : Int32.ofInt n = v) (h : m_Sim k d mc ms (.inl (pc', L, .inl v :: st)) T post) : m_Sim k d mc ms (.inl (pc, L, st)) T post := by
  subst hp
  refine m_step (fun w p l e R s m args below meth c cells slots Q C hcl hsl μ hk H locs ls a1 a2 a3 => ?_) h
  obtain ⟨hx, hb, hml, hown, hts, hr, hlk, hnm, hK, hf, hlo, hga⟩ := C
  exact lv_iconst hx hb hd hv (hk H locs ls a1 a2 a3)
theorem sm_bipush {n : Int} {v : Int32} (hd : m_D k pc (.bipush n) 2) (hp : pc + 2 = pc') (hv : (Int8.ofInt n).toInt32 = v) (h : m_Sim k d mc ms (.inl (pc', L, .inl v :: st)) T post) : m_Sim k d mc ms (.inl (pc, L, st)) T post := by
  subst hp
  refine m_step (fun w p l e R s m args below meth c cells slots Q C hcl hsl μ hk H locs ls a1 a2 a3 => ?_) h
  obtain ⟨hx, hb, hml, hown, hts, hr, hlk, hnm, hK, hf, hlo, hga⟩ := C
  exact lv_bipush hx hb hd hv (hk H locs ls a1 a2 a3)
theorem sm_sipush {n : Int} {v : Int32} (hd : m_D k pc (.sipush n) 3) (hp : pc + 3 = pc') (hv : (Int16.ofInt n).toInt32 = v) (h : m_Sim k d mc ms (.inl (pc', L, .inl v :: st)) T post) : m_Sim k d mc ms (.inl (pc, L, st)) T post := by
  subst hp
  refine m_step (fun w p l e R s m args below meth c cells slots Q C hcl hsl μ hk H locs ls a1 a2 a3 => ?_) h
  obtain ⟨hx, hb, hml, hown, hts, hr, hlk, hnm, hK, hf, hlo, hga⟩ := C
  exact lv_sipush hx hb hd hv (hk H locs ls a1 a2 a3)
theorem sm_lconst {n : Fin 2} {v : Int64} (hd : m_D k pc (.lconst n) 1) (hp : pc + 1 = pc') (hv : Int64.ofNat (n : Nat) = v) (h : m_Sim k d mc ms (.inl (pc', L, .inr (.inl v) :: st)) T post) : m_Sim k d mc ms (.inl (pc, L, st)) T post := by
  subst hp
  refine m_step (fun w p l e R s m args below meth c cells slots Q C hcl hsl μ hk H locs ls a1 a2 a3 => ?_) h
  obtain ⟨hx, hb, hml, hown, hts, hr, hlk, hnm, hK, hf, hlo, hga⟩ := C
  exact lv_lconst hx hb hd hv (hk H locs ls a1 a2 a3)
theorem sm_null (hd : m_D k pc (.aconst_null) 1) (hp : pc + 1 = pc') (h : m_Sim k d mc ms (.inl (pc', L, .inr (.inr none) :: st)) T post) : m_Sim k d mc ms (.inl (pc, L, st)) T post := by
  subst hp
  refine m_step (fun w p l e R s m args below meth c cells slots Q C hcl hsl μ hk H locs ls a1 a2 a3 => ?_) h
  obtain ⟨hx, hb, hml, hown, hts, hr, hlk, hnm, hK, hf, hlo, hga⟩ := C
  exact lv_null hx hb hd (hk H locs ls a1 a2 a3)
theorem sm_iload_n {n : Fin 4} {i j : Nat} {x : Int32} (hd : m_D k pc (.iload_n n) 1) (hp : pc + 1 = pc') (hi : (n : Nat) = i) (hj : L[j]? = some (i, .inl x)) (h : m_Sim k d mc ms (.inl (pc', L, .inl x :: st)) T post) : m_Sim k d mc ms (.inl (pc, L, st)) T post := by
  subst hp
  refine m_step (fun w p l e R s m args below meth c cells slots Q C hcl hsl μ hk H locs ls a1 a2 a3 => ?_) h
  obtain ⟨hx, hb, hml, hown, hts, hr, hlk, hnm, hK, hf, hlo, hga⟩ := C
  exact lv_iload_n hx hb hd hi (m_at a3 hj) (hk H locs ls a1 a2 a3)
theorem sm_iload {i j : Nat} {x : Int32} (hd : m_D k pc (.iload i) 2) (hp : pc + 2 = pc') (hj : L[j]? = some (i, .inl x)) (h : m_Sim k d mc ms (.inl (pc', L, .inl x :: st)) T post) : m_Sim k d mc ms (.inl (pc, L, st)) T post := by
  subst hp
  refine m_step (fun w p l e R s m args below meth c cells slots Q C hcl hsl μ hk H locs ls a1 a2 a3 => ?_) h
  obtain ⟨hx, hb, hml, hown, hts, hr, hlk, hnm, hK, hf, hlo, hga⟩ := C
  exact lv_iload hx hb hd (m_at a3 hj) (hk H locs ls a1 a2 a3)
theorem sm_lload_n {n : Fin 4} {i j : Nat} {x : Int64} (hd : m_D k pc (.lload_n n) 1) (hp : pc + 1 = pc') (hi : (n : Nat) = i) (hj : L[j]? = some (i, .inr (.inl x))) (h : m_Sim k d mc ms (.inl (pc', L, .inr (.inl x) :: st)) T post) : m_Sim k d mc ms (.inl (pc, L, st)) T post := by
  subst hp
  refine m_step (fun w p l e R s m args below meth c cells slots Q C hcl hsl μ hk H locs ls a1 a2 a3 => ?_) h
  obtain ⟨hx, hb, hml, hown, hts, hr, hlk, hnm, hK, hf, hlo, hga⟩ := C
  exact lv_lload_n hx hb hd hi (m_at a3 hj) (hk H locs ls a1 a2 a3)
theorem sm_lload {i j : Nat} {x : Int64} (hd : m_D k pc (.lload i) 2) (hp : pc + 2 = pc') (hj : L[j]? = some (i, .inr (.inl x))) (h : m_Sim k d mc ms (.inl (pc', L, .inr (.inl x) :: st)) T post) : m_Sim k d mc ms (.inl (pc, L, st)) T post := by
  subst hp
  refine m_step (fun w p l e R s m args below meth c cells slots Q C hcl hsl μ hk H locs ls a1 a2 a3 => ?_) h
  obtain ⟨hx, hb, hml, hown, hts, hr, hlk, hnm, hK, hf, hlo, hga⟩ := C
  exact lv_lload hx hb hd (m_at a3 hj) (hk H locs ls a1 a2 a3)
theorem sm_aload_n {n : Fin 4} {i j : Nat} {x : Option mA} (hd : m_D k pc (.aload_n n) 1) (hp : pc + 1 = pc') (hi : (n : Nat) = i) (hj : L[j]? = some (i, .inr (.inr x))) (h : m_Sim k d mc ms (.inl (pc', L, .inr (.inr x) :: st)) T post) : m_Sim k d mc ms (.inl (pc, L, st)) T post := by
  subst hp
  refine m_step (fun w p l e R s m args below meth c cells slots Q C hcl hsl μ hk H locs ls a1 a2 a3 => ?_) h
  obtain ⟨hx, hb, hml, hown, hts, hr, hlk, hnm, hK, hf, hlo, hga⟩ := C
  cases x with
  | none => exact lv_aload_nN hx hb hd hi (m_at a3 hj) (hk H locs ls a1 a2 a3)
  | some y => exact lv_aload_n hx hb hd hi (m_at a3 hj) (hk H locs ls a1 a2 a3)
theorem sm_aload {i j : Nat} {x : Option mA} (hd : m_D k pc (.aload i) 2) (hp : pc + 2 = pc') (hj : L[j]? = some (i, .inr (.inr x))) (h : m_Sim k d mc ms (.inl (pc', L, .inr (.inr x) :: st)) T post) : m_Sim k d mc ms (.inl (pc, L, st)) T post := by
  subst hp
  refine m_step (fun w p l e R s m args below meth c cells slots Q C hcl hsl μ hk H locs ls a1 a2 a3 => ?_) h
  obtain ⟨hx, hb, hml, hown, hts, hr, hlk, hnm, hK, hf, hlo, hga⟩ := C
  cases x with
  | none => exact lv_aloadN hx hb hd (m_at a3 hj) (hk H locs ls a1 a2 a3)
  | some y => exact lv_aload hx hb hd (m_at a3 hj) (hk H locs ls a1 a2 a3)
theorem sm_istore_n {n : Fin 4} {i : Nat} {x : Int32} (hd : m_D k pc (.istore_n n) 1) (hp : pc + 1 = pc') (hi : (n : Nat) = i) (hn : i < k.2.2.1) (hl : m_s1 L i (.inl x) = L') (h : m_Sim k d mc ms (.inl (pc', L', st)) T post) : m_Sim k d mc ms (.inl (pc, L, .inl x :: st)) T post := by
  subst hp; subst hl
  refine m_step (fun w p l e R s m args below meth c cells slots Q C hcl hsl μ hk H locs ls a1 a2 a3 => ?_) h
  obtain ⟨hx, hb, hml, hown, hts, hr, hlk, hnm, hK, hf, hlo, hga⟩ := C
  exact lv_istore_n hx hb hd hi a3 hn (m_L_s1 (v := .inl x)) (fun ls' a3' => hk H locs ls' a1 a2 a3')
theorem sm_istore {i : Nat} {x : Int32} (hd : m_D k pc (.istore i) 2) (hp : pc + 2 = pc') (hn : i < k.2.2.1) (hl : m_s1 L i (.inl x) = L') (h : m_Sim k d mc ms (.inl (pc', L', st)) T post) : m_Sim k d mc ms (.inl (pc, L, .inl x :: st)) T post := by
  subst hp; subst hl
  refine m_step (fun w p l e R s m args below meth c cells slots Q C hcl hsl μ hk H locs ls a1 a2 a3 => ?_) h
  obtain ⟨hx, hb, hml, hown, hts, hr, hlk, hnm, hK, hf, hlo, hga⟩ := C
  exact lv_istore hx hb hd a3 hn (m_L_s1 (v := .inl x)) (fun ls' a3' => hk H locs ls' a1 a2 a3')
theorem sm_lstore_n {n : Fin 4} {i : Nat} {x : Int64} (hd : m_D k pc (.lstore_n n) 1) (hp : pc + 1 = pc') (hi : (n : Nat) = i) (hn : i + 1 < k.2.2.1) (hl : m_s2 L i (.inr (.inl x)) = L') (h : m_Sim k d mc ms (.inl (pc', L', st)) T post) : m_Sim k d mc ms (.inl (pc, L, .inr (.inl x) :: st)) T post := by
  subst hp; subst hl
  refine m_step (fun w p l e R s m args below meth c cells slots Q C hcl hsl μ hk H locs ls a1 a2 a3 => ?_) h
  obtain ⟨hx, hb, hml, hown, hts, hr, hlk, hnm, hK, hf, hlo, hga⟩ := C
  exact lv_lstore_n hx hb hd hi a3 hn (m_L_s2 (v := .inr (.inl x))) (fun ls' a3' => hk H locs ls' a1 a2 a3')
theorem sm_lstore {i : Nat} {x : Int64} (hd : m_D k pc (.lstore i) 2) (hp : pc + 2 = pc') (hn : i + 1 < k.2.2.1) (hl : m_s2 L i (.inr (.inl x)) = L') (h : m_Sim k d mc ms (.inl (pc', L', st)) T post) : m_Sim k d mc ms (.inl (pc, L, .inr (.inl x) :: st)) T post := by
  subst hp; subst hl
  refine m_step (fun w p l e R s m args below meth c cells slots Q C hcl hsl μ hk H locs ls a1 a2 a3 => ?_) h
  obtain ⟨hx, hb, hml, hown, hts, hr, hlk, hnm, hK, hf, hlo, hga⟩ := C
  exact lv_lstore hx hb hd a3 hn (m_L_s2 (v := .inr (.inl x))) (fun ls' a3' => hk H locs ls' a1 a2 a3')
theorem sm_astore_n {n : Fin 4} {i : Nat} {x : Option mA} (hd : m_D k pc (.astore_n n) 1) (hp : pc + 1 = pc') (hi : (n : Nat) = i) (hn : i < k.2.2.1) (hl : m_s1 L i (.inr (.inr x)) = L') (h : m_Sim k d mc ms (.inl (pc', L', st)) T post) : m_Sim k d mc ms (.inl (pc, L, .inr (.inr x) :: st)) T post := by
  subst hp; subst hl
  refine m_step (fun w p l e R s m args below meth c cells slots Q C hcl hsl μ hk H locs ls a1 a2 a3 => ?_) h
  obtain ⟨hx, hb, hml, hown, hts, hr, hlk, hnm, hK, hf, hlo, hga⟩ := C
  cases x with
  | none => exact lv_astore_nN hx hb hd hi a3 hn (m_L_s1 (v := .inr (.inr none))) (fun ls' a3' => hk H locs ls' a1 a2 a3')
  | some y => exact lv_astore_n hx hb hd hi a3 hn (m_L_s1 (v := .inr (.inr (some y)))) (fun ls' a3' => hk H locs ls' a1 a2 a3')
theorem sm_astore {i : Nat} {x : Option mA} (hd : m_D k pc (.astore i) 2) (hp : pc + 2 = pc') (hn : i < k.2.2.1) (hl : m_s1 L i (.inr (.inr x)) = L') (h : m_Sim k d mc ms (.inl (pc', L', st)) T post) : m_Sim k d mc ms (.inl (pc, L, .inr (.inr x) :: st)) T post := by
  subst hp; subst hl
  refine m_step (fun w p l e R s m args below meth c cells slots Q C hcl hsl μ hk H locs ls a1 a2 a3 => ?_) h
  obtain ⟨hx, hb, hml, hown, hts, hr, hlk, hnm, hK, hf, hlo, hga⟩ := C
  cases x with
  | none => exact lv_astoreN hx hb hd a3 hn (m_L_s1 (v := .inr (.inr none))) (fun ls' a3' => hk H locs ls' a1 a2 a3')
  | some y => exact lv_astore hx hb hd a3 hn (m_L_s1 (v := .inr (.inr (some y)))) (fun ls' a3' => hk H locs ls' a1 a2 a3')
theorem sm_iinc {i j : Nat} {n : Int} {x : Int32} (hd : m_D k pc (.iinc i n) 3) (hp : pc + 3 = pc') {v : Int32} (hj : L[j]? = some (i, .inl x)) (hv : x + Int32.ofInt n = v) (hn : i < k.2.2.1) (hl : m_s1 L i (.inl v) = L') (h : m_Sim k d mc ms (.inl (pc', L', st)) T post) : m_Sim k d mc ms (.inl (pc, L, st)) T post := by
  subst hp; subst hl
  refine m_step (fun w p l e R s m args below meth c cells slots Q C hcl hsl μ hk H locs ls a1 a2 a3 => ?_) h
  obtain ⟨hx, hb, hml, hown, hts, hr, hlk, hnm, hK, hf, hlo, hga⟩ := C
  have hj2 : (m_L w L)[j]? = some (i, .int x) := by simp [m_L, hj, m_val]
  exact lv_iinc hx hb hd a3 hj2 hv hn (m_L_s1 (v := .inl v)) (fun ls' a3' => hk H locs ls' a1 a2 a3')
theorem sm_iadd {x y : Int32} (hd : m_D k pc (.iadd) 1) (hp : pc + 1 = pc') (h : m_Sim k d mc ms (.inl (pc', L, .inl (x + y) :: st)) T post) : m_Sim k d mc ms (.inl (pc, L, .inl y :: .inl x :: st)) T post := by
  subst hp
  refine m_step (fun w p l e R s m args below meth c cells slots Q C hcl hsl μ hk H locs ls a1 a2 a3 => ?_) h
  obtain ⟨hx, hb, hml, hown, hts, hr, hlk, hnm, hK, hf, hlo, hga⟩ := C
  exact lv_iadd hx hb hd (hk H locs ls a1 a2 a3)
theorem sm_isub {x y : Int32} (hd : m_D k pc (.isub) 1) (hp : pc + 1 = pc') (h : m_Sim k d mc ms (.inl (pc', L, .inl (x - y) :: st)) T post) : m_Sim k d mc ms (.inl (pc, L, .inl y :: .inl x :: st)) T post := by
  subst hp
  refine m_step (fun w p l e R s m args below meth c cells slots Q C hcl hsl μ hk H locs ls a1 a2 a3 => ?_) h
  obtain ⟨hx, hb, hml, hown, hts, hr, hlk, hnm, hK, hf, hlo, hga⟩ := C
  exact lv_isub hx hb hd (hk H locs ls a1 a2 a3)
theorem sm_imul {x y : Int32} (hd : m_D k pc (.imul) 1) (hp : pc + 1 = pc') (h : m_Sim k d mc ms (.inl (pc', L, .inl (x * y) :: st)) T post) : m_Sim k d mc ms (.inl (pc, L, .inl y :: .inl x :: st)) T post := by
  subst hp
  refine m_step (fun w p l e R s m args below meth c cells slots Q C hcl hsl μ hk H locs ls a1 a2 a3 => ?_) h
  obtain ⟨hx, hb, hml, hown, hts, hr, hlk, hnm, hK, hf, hlo, hga⟩ := C
  exact lv_imul hx hb hd (hk H locs ls a1 a2 a3)
theorem sm_iand {x y : Int32} (hd : m_D k pc (.iand) 1) (hp : pc + 1 = pc') (h : m_Sim k d mc ms (.inl (pc', L, .inl (x &&& y) :: st)) T post) : m_Sim k d mc ms (.inl (pc, L, .inl y :: .inl x :: st)) T post := by
  subst hp
  refine m_step (fun w p l e R s m args below meth c cells slots Q C hcl hsl μ hk H locs ls a1 a2 a3 => ?_) h
  obtain ⟨hx, hb, hml, hown, hts, hr, hlk, hnm, hK, hf, hlo, hga⟩ := C
  exact lv_iand hx hb hd (hk H locs ls a1 a2 a3)
theorem sm_ior {x y : Int32} (hd : m_D k pc (.ior) 1) (hp : pc + 1 = pc') (h : m_Sim k d mc ms (.inl (pc', L, .inl (x ||| y) :: st)) T post) : m_Sim k d mc ms (.inl (pc, L, .inl y :: .inl x :: st)) T post := by
  subst hp
  refine m_step (fun w p l e R s m args below meth c cells slots Q C hcl hsl μ hk H locs ls a1 a2 a3 => ?_) h
  obtain ⟨hx, hb, hml, hown, hts, hr, hlk, hnm, hK, hf, hlo, hga⟩ := C
  exact lv_ior hx hb hd (hk H locs ls a1 a2 a3)
theorem sm_ixor {x y : Int32} (hd : m_D k pc (.ixor) 1) (hp : pc + 1 = pc') (h : m_Sim k d mc ms (.inl (pc', L, .inl (x ^^^ y) :: st)) T post) : m_Sim k d mc ms (.inl (pc, L, .inl y :: .inl x :: st)) T post := by
  subst hp
  refine m_step (fun w p l e R s m args below meth c cells slots Q C hcl hsl μ hk H locs ls a1 a2 a3 => ?_) h
  obtain ⟨hx, hb, hml, hown, hts, hr, hlk, hnm, hK, hf, hlo, hga⟩ := C
  exact lv_ixor hx hb hd (hk H locs ls a1 a2 a3)
theorem sm_ishl {x y : Int32} (hd : m_D k pc (.ishl) 1) (hp : pc + 1 = pc') (h : m_Sim k d mc ms (.inl (pc', L, .inl (x <<< (y &&& 31)) :: st)) T post) : m_Sim k d mc ms (.inl (pc, L, .inl y :: .inl x :: st)) T post := by
  subst hp
  refine m_step (fun w p l e R s m args below meth c cells slots Q C hcl hsl μ hk H locs ls a1 a2 a3 => ?_) h
  obtain ⟨hx, hb, hml, hown, hts, hr, hlk, hnm, hK, hf, hlo, hga⟩ := C
  exact lv_ishl hx hb hd (hk H locs ls a1 a2 a3)
theorem sm_ishr {x y : Int32} (hd : m_D k pc (.ishr) 1) (hp : pc + 1 = pc') (h : m_Sim k d mc ms (.inl (pc', L, .inl (x >>> (y &&& 31)) :: st)) T post) : m_Sim k d mc ms (.inl (pc, L, .inl y :: .inl x :: st)) T post := by
  subst hp
  refine m_step (fun w p l e R s m args below meth c cells slots Q C hcl hsl μ hk H locs ls a1 a2 a3 => ?_) h
  obtain ⟨hx, hb, hml, hown, hts, hr, hlk, hnm, hK, hf, hlo, hga⟩ := C
  exact lv_ishr hx hb hd (hk H locs ls a1 a2 a3)
theorem sm_iushr {x y v : Int32} (hd : m_D k pc (.iushr) 1) (hp : pc + 1 = pc') (hv : (x.toUInt32 >>> (y.toUInt32 &&& Int32.toUInt32 31)).toInt32 = v) (h : m_Sim k d mc ms (.inl (pc', L, .inl v :: st)) T post) : m_Sim k d mc ms (.inl (pc, L, .inl y :: .inl x :: st)) T post := by
  subst hp
  refine m_step (fun w p l e R s m args below meth c cells slots Q C hcl hsl μ hk H locs ls a1 a2 a3 => ?_) h
  obtain ⟨hx, hb, hml, hown, hts, hr, hlk, hnm, hK, hf, hlo, hga⟩ := C
  exact lv_iushr hx hb hd hv (hk H locs ls a1 a2 a3)
theorem sm_ladd {x y : Int64} (hd : m_D k pc (.ladd) 1) (hp : pc + 1 = pc') (h : m_Sim k d mc ms (.inl (pc', L, .inr (.inl (x + y)) :: st)) T post) : m_Sim k d mc ms (.inl (pc, L, .inr (.inl y) :: .inr (.inl x) :: st)) T post := by
  subst hp
  refine m_step (fun w p l e R s m args below meth c cells slots Q C hcl hsl μ hk H locs ls a1 a2 a3 => ?_) h
  obtain ⟨hx, hb, hml, hown, hts, hr, hlk, hnm, hK, hf, hlo, hga⟩ := C
  exact lv_ladd hx hb hd (hk H locs ls a1 a2 a3)
theorem sm_lsub {x y : Int64} (hd : m_D k pc (.lsub) 1) (hp : pc + 1 = pc') (h : m_Sim k d mc ms (.inl (pc', L, .inr (.inl (x - y)) :: st)) T post) : m_Sim k d mc ms (.inl (pc, L, .inr (.inl y) :: .inr (.inl x) :: st)) T post := by
  subst hp
  refine m_step (fun w p l e R s m args below meth c cells slots Q C hcl hsl μ hk H locs ls a1 a2 a3 => ?_) h
  obtain ⟨hx, hb, hml, hown, hts, hr, hlk, hnm, hK, hf, hlo, hga⟩ := C
  exact lv_lsub hx hb hd (hk H locs ls a1 a2 a3)
theorem sm_lmul {x y : Int64} (hd : m_D k pc (.lmul) 1) (hp : pc + 1 = pc') (h : m_Sim k d mc ms (.inl (pc', L, .inr (.inl (x * y)) :: st)) T post) : m_Sim k d mc ms (.inl (pc, L, .inr (.inl y) :: .inr (.inl x) :: st)) T post := by
  subst hp
  refine m_step (fun w p l e R s m args below meth c cells slots Q C hcl hsl μ hk H locs ls a1 a2 a3 => ?_) h
  obtain ⟨hx, hb, hml, hown, hts, hr, hlk, hnm, hK, hf, hlo, hga⟩ := C
  exact lv_lmul hx hb hd (hk H locs ls a1 a2 a3)
theorem sm_land {x y : Int64} (hd : m_D k pc (.land) 1) (hp : pc + 1 = pc') (h : m_Sim k d mc ms (.inl (pc', L, .inr (.inl (x &&& y)) :: st)) T post) : m_Sim k d mc ms (.inl (pc, L, .inr (.inl y) :: .inr (.inl x) :: st)) T post := by
  subst hp
  refine m_step (fun w p l e R s m args below meth c cells slots Q C hcl hsl μ hk H locs ls a1 a2 a3 => ?_) h
  obtain ⟨hx, hb, hml, hown, hts, hr, hlk, hnm, hK, hf, hlo, hga⟩ := C
  exact lv_land hx hb hd (hk H locs ls a1 a2 a3)
theorem sm_lor {x y : Int64} (hd : m_D k pc (.lor) 1) (hp : pc + 1 = pc') (h : m_Sim k d mc ms (.inl (pc', L, .inr (.inl (x ||| y)) :: st)) T post) : m_Sim k d mc ms (.inl (pc, L, .inr (.inl y) :: .inr (.inl x) :: st)) T post := by
  subst hp
  refine m_step (fun w p l e R s m args below meth c cells slots Q C hcl hsl μ hk H locs ls a1 a2 a3 => ?_) h
  obtain ⟨hx, hb, hml, hown, hts, hr, hlk, hnm, hK, hf, hlo, hga⟩ := C
  exact lv_lor hx hb hd (hk H locs ls a1 a2 a3)
theorem sm_i2l {x : Int32} (hd : m_D k pc (.i2l) 1) (hp : pc + 1 = pc') (h : m_Sim k d mc ms (.inl (pc', L, .inr (.inl x.toInt64) :: st)) T post) : m_Sim k d mc ms (.inl (pc, L, .inl x :: st)) T post := by
  subst hp
  refine m_step (fun w p l e R s m args below meth c cells slots Q C hcl hsl μ hk H locs ls a1 a2 a3 => ?_) h
  obtain ⟨hx, hb, hml, hown, hts, hr, hlk, hnm, hK, hf, hlo, hga⟩ := C
  exact lv_i2l hx hb hd rfl (hk H locs ls a1 a2 a3)
theorem sm_l2i {x : Int64} (hd : m_D k pc (.l2i) 1) (hp : pc + 1 = pc') (h : m_Sim k d mc ms (.inl (pc', L, .inl x.toInt32 :: st)) T post) : m_Sim k d mc ms (.inl (pc, L, .inr (.inl x) :: st)) T post := by
  subst hp
  refine m_step (fun w p l e R s m args below meth c cells slots Q C hcl hsl μ hk H locs ls a1 a2 a3 => ?_) h
  obtain ⟨hx, hb, hml, hown, hts, hr, hlk, hnm, hK, hf, hlo, hga⟩ := C
  exact lv_l2i hx hb hd rfl (hk H locs ls a1 a2 a3)
theorem sm_i2b {x : Int32} (hd : m_D k pc (.i2b) 1) (hp : pc + 1 = pc') (h : m_Sim k d mc ms (.inl (pc', L, .inl x.toInt8.toInt32 :: st)) T post) : m_Sim k d mc ms (.inl (pc, L, .inl x :: st)) T post := by
  subst hp
  refine m_step (fun w p l e R s m args below meth c cells slots Q C hcl hsl μ hk H locs ls a1 a2 a3 => ?_) h
  obtain ⟨hx, hb, hml, hown, hts, hr, hlk, hnm, hK, hf, hlo, hga⟩ := C
  exact lv_i2b hx hb hd rfl (hk H locs ls a1 a2 a3)
theorem sm_i2c {x v : Int32} (hd : m_D k pc (.i2c) 1) (hp : pc + 1 = pc') (hv : (x.toUInt32 % 65536).toInt32 = v) (h : m_Sim k d mc ms (.inl (pc', L, .inl v :: st)) T post) : m_Sim k d mc ms (.inl (pc, L, .inl x :: st)) T post := by
  subst hp
  refine m_step (fun w p l e R s m args below meth c cells slots Q C hcl hsl μ hk H locs ls a1 a2 a3 => ?_) h
  obtain ⟨hx, hb, hml, hown, hts, hr, hlk, hnm, hK, hf, hlo, hga⟩ := C
  exact lv_i2c hx hb hd hv (hk H locs ls a1 a2 a3)
theorem sm_i2s {x : Int32} (hd : m_D k pc (.i2s) 1) (hp : pc + 1 = pc') (h : m_Sim k d mc ms (.inl (pc', L, .inl x.toInt16.toInt32 :: st)) T post) : m_Sim k d mc ms (.inl (pc, L, .inl x :: st)) T post := by
  subst hp
  refine m_step (fun w p l e R s m args below meth c cells slots Q C hcl hsl μ hk H locs ls a1 a2 a3 => ?_) h
  obtain ⟨hx, hb, hml, hown, hts, hr, hlk, hnm, hK, hf, hlo, hga⟩ := C
  exact lv_i2s hx hb hd rfl (hk H locs ls a1 a2 a3)
theorem sm_lneg {x : Int64} (hd : m_D k pc (.lneg) 1) (hp : pc + 1 = pc') (h : m_Sim k d mc ms (.inl (pc', L, .inr (.inl (-x)) :: st)) T post) : m_Sim k d mc ms (.inl (pc, L, .inr (.inl x) :: st)) T post := by
  subst hp
  refine m_step (fun w p l e R s m args below meth c cells slots Q C hcl hsl μ hk H locs ls a1 a2 a3 => ?_) h
  obtain ⟨hx, hb, hml, hown, hts, hr, hlk, hnm, hK, hf, hlo, hga⟩ := C
  exact lv_lneg hx hb hd (hk H locs ls a1 a2 a3)
theorem sm_lcmp {x y : Int64} (hd : m_D k pc (.lcmp) 1) (hp : pc + 1 = pc') (h : m_Sim k d mc ms (.inl (pc', L, .inl (lg_cmp x y) :: st)) T post) : m_Sim k d mc ms (.inl (pc, L, .inr (.inl y) :: .inr (.inl x) :: st)) T post := by
  subst hp
  refine m_step (fun w p l e R s m args below meth c cells slots Q C hcl hsl μ hk H locs ls a1 a2 a3 => ?_) h
  obtain ⟨hx, hb, hml, hown, hts, hr, hlk, hnm, hK, hf, hlo, hga⟩ := C
  exact W.lcmp hx hb hd (hk H locs ls a1 a2 a3)
theorem sm_lshl {x : Int64} {y : Int32} {v : Int64} (hd : m_D k pc (.lshl) 1) (hp : pc + 1 = pc') (hv : x <<< (y.toInt64 &&& 63) = v) (h : m_Sim k d mc ms (.inl (pc', L, .inr (.inl v) :: st)) T post) : m_Sim k d mc ms (.inl (pc, L, .inl y :: .inr (.inl x) :: st)) T post := by
  subst hp
  refine m_step (fun w p l e R s m args below meth c cells slots Q C hcl hsl μ hk H locs ls a1 a2 a3 => ?_) h
  obtain ⟨hx, hb, hml, hown, hts, hr, hlk, hnm, hK, hf, hlo, hga⟩ := C
  exact lv_lshl hx hb hd hv (hk H locs ls a1 a2 a3)
theorem sm_dup {v : mV} (hd : m_D k pc (.dup) 1) (hp : pc + 1 = pc') (hv : m_two v = false) (h : m_Sim k d mc ms (.inl (pc', L, v :: v :: st)) T post) : m_Sim k d mc ms (.inl (pc, L, v :: st)) T post := by
  subst hp
  refine m_step (fun w p l e R s m args below meth c cells slots Q C hcl hsl μ hk H locs ls a1 a2 a3 => ?_) h
  obtain ⟨hx, hb, hml, hown, hts, hr, hlk, hnm, hK, hf, hlo, hga⟩ := C
  exact lv_dup hx hb hd (m_c1 w hv) (hk H locs ls a1 a2 a3)
theorem sm_pop {v : mV} (hd : m_D k pc (.pop) 1) (hp : pc + 1 = pc') (hv : m_two v = false) (h : m_Sim k d mc ms (.inl (pc', L, st)) T post) : m_Sim k d mc ms (.inl (pc, L, v :: st)) T post := by
  subst hp
  refine m_step (fun w p l e R s m args below meth c cells slots Q C hcl hsl μ hk H locs ls a1 a2 a3 => ?_) h
  obtain ⟨hx, hb, hml, hown, hts, hr, hlk, hnm, hK, hf, hlo, hga⟩ := C
  exact lv_pop hx hb hd (m_c1 w hv) (hk H locs ls a1 a2 a3)
theorem sm_pop2 {v : mV} (hd : m_D k pc (.pop2) 1) (hp : pc + 1 = pc') (hv : m_two v = true) (h : m_Sim k d mc ms (.inl (pc', L, st)) T post) : m_Sim k d mc ms (.inl (pc, L, v :: st)) T post := by
  subst hp
  refine m_step (fun w p l e R s m args below meth c cells slots Q C hcl hsl μ hk H locs ls a1 a2 a3 => ?_) h
  obtain ⟨hx, hb, hml, hown, hts, hr, hlk, hnm, hK, hf, hlo, hga⟩ := C
  exact lv_pop2_2 hx hb hd (m_c2 w hv) (hk H locs ls a1 a2 a3)
theorem sm_dup2 {v u : mV} (hd : m_D k pc (.dup2) 1) (hp : pc + 1 = pc') (hv : m_two v = false) (hu : m_two u = false) (h : m_Sim k d mc ms (.inl (pc', L, v :: u :: v :: u :: st)) T post) : m_Sim k d mc ms (.inl (pc, L, v :: u :: st)) T post := by
  subst hp
  refine m_step (fun w p l e R s m args below meth c cells slots Q C hcl hsl μ hk H locs ls a1 a2 a3 => ?_) h
  obtain ⟨hx, hb, hml, hown, hts, hr, hlk, hnm, hK, hf, hlo, hga⟩ := C
  exact lv_dup2_11 hx hb hd (m_c1 w hv) (m_c1 w hu) (hk H locs ls a1 a2 a3)
theorem sm_goto {off : Int} {tgt : Nat} (hd : m_D k pc (.goto off) 3) (ht : (pc : Int) + off = (tgt : Int)) (h : m_Sim k d mc ms (.inl (tgt, L, st)) T post) : m_Sim k d mc ms (.inl (pc, L, st)) T post := by
  refine m_step (fun w p l e R s m args below meth c cells slots Q C hcl hsl μ hk H locs ls a1 a2 a3 => ?_) h
  obtain ⟨hx, hb, hml, hown, hts, hr, hlk, hnm, hK, hf, hlo, hga⟩ := C
  exact lv_goto hx hb hd ht (hk H locs ls a1 a2 a3)
theorem sm_if_eq {x : Int32} {off : Int} {tgt : Nat} (hd : m_D k pc (.ifCond .eq off) 3) (ht : (pc : Int) + off = (tgt : Int)) (hp : pc + 3 = pc') (h1 : m_Sim k d mc ms (.inl (tgt, L, st)) T1 post) (h2 : m_Sim k d mc ms (.inl (pc', L, st)) T2 post) : m_Sim k d mc ms (.inl (pc, L, .inl x :: st)) (if x = 0 then T1 else T2) post := by
  subst hp
  intro w p l e R s m args below meth c cells slots Q C hc hs μ a μ' hT hk H locs ls a1 a2 a3
  obtain ⟨hx, hb, -⟩ := id C
  refine lv_if_eq hx hb hd ht (fun hq => ?_) (fun hq => ?_)
  · rw [if_pos hq] at hT
    exact h1 w p l e R s m args below meth c cells slots Q C hc hs μ a μ' hT hk H locs ls a1 a2 a3
  · rw [if_neg hq] at hT
    exact h2 w p l e R s m args below meth c cells slots Q C hc hs μ a μ' hT hk H locs ls a1 a2 a3
theorem sm_if_eq_t {x : Int32} {off : Int} {tgt : Nat} (hd : m_D k pc (.ifCond .eq off) 3) (ht : (pc : Int) + off = (tgt : Int)) (hq : x = 0) (h1 : m_Sim k d mc ms (.inl (tgt, L, st)) T post) : m_Sim k d mc ms (.inl (pc, L, .inl x :: st)) T post := by
  refine m_step (fun w p l e R s m args below meth c cells slots Q C hcl hsl μ hk H locs ls a1 a2 a3 => ?_) h1
  obtain ⟨hx, hb, hml, hown, hts, hr, hlk, hnm, hK, hf, hlo, hga⟩ := C
  exact lv_if_eq hx hb hd ht (fun _ => hk H locs ls a1 a2 a3) (fun hn => absurd hq hn)
theorem sm_if_eq_f {x : Int32} {off : Int} {tgt : Nat} (hd : m_D k pc (.ifCond .eq off) 3) (ht : (pc : Int) + off = (tgt : Int)) (hp : pc + 3 = pc') (hq : ¬ (x = 0)) (h2 : m_Sim k d mc ms (.inl (pc', L, st)) T post) : m_Sim k d mc ms (.inl (pc, L, .inl x :: st)) T post := by
  subst hp
  refine m_step (fun w p l e R s m args below meth c cells slots Q C hcl hsl μ hk H locs ls a1 a2 a3 => ?_) h2
  obtain ⟨hx, hb, hml, hown, hts, hr, hlk, hnm, hK, hf, hlo, hga⟩ := C
  exact lv_if_eq hx hb hd ht (fun hn => absurd hn hq) (fun _ => hk H locs ls a1 a2 a3)
theorem sm_icmp_eq {x y : Int32} {off : Int} {tgt : Nat} (hd : m_D k pc (.if_icmp .eq off) 3) (ht : (pc : Int) + off = (tgt : Int)) (hp : pc + 3 = pc') (h1 : m_Sim k d mc ms (.inl (tgt, L, st)) T1 post) (h2 : m_Sim k d mc ms (.inl (pc', L, st)) T2 post) : m_Sim k d mc ms (.inl (pc, L, .inl y :: .inl x :: st)) (if x = y then T1 else T2) post := by
  subst hp
  intro w p l e R s m args below meth c cells slots Q C hc hs μ a μ' hT hk H locs ls a1 a2 a3
  obtain ⟨hx, hb, -⟩ := id C
  refine lv_icmp_eq hx hb hd ht (fun hq => ?_) (fun hq => ?_)
  · rw [if_pos hq] at hT
    exact h1 w p l e R s m args below meth c cells slots Q C hc hs μ a μ' hT hk H locs ls a1 a2 a3
  · rw [if_neg hq] at hT
    exact h2 w p l e R s m args below meth c cells slots Q C hc hs μ a μ' hT hk H locs ls a1 a2 a3
theorem sm_icmp_eq_t {x y : Int32} {off : Int} {tgt : Nat} (hd : m_D k pc (.if_icmp .eq off) 3) (ht : (pc : Int) + off = (tgt : Int)) (hq : x = y) (h1 : m_Sim k d mc ms (.inl (tgt, L, st)) T post) : m_Sim k d mc ms (.inl (pc, L, .inl y :: .inl x :: st)) T post := by
  refine m_step (fun w p l e R s m args below meth c cells slots Q C hcl hsl μ hk H locs ls a1 a2 a3 => ?_) h1
  obtain ⟨hx, hb, hml, hown, hts, hr, hlk, hnm, hK, hf, hlo, hga⟩ := C
  exact lv_icmp_eq hx hb hd ht (fun _ => hk H locs ls a1 a2 a3) (fun hn => absurd hq hn)
theorem sm_icmp_eq_f {x y : Int32} {off : Int} {tgt : Nat} (hd : m_D k pc (.if_icmp .eq off) 3) (ht : (pc : Int) + off = (tgt : Int)) (hp : pc + 3 = pc') (hq : ¬ (x = y)) (h2 : m_Sim k d mc ms (.inl (pc', L, st)) T post) : m_Sim k d mc ms (.inl (pc, L, .inl y :: .inl x :: st)) T post := by
  subst hp
  refine m_step (fun w p l e R s m args below meth c cells slots Q C hcl hsl μ hk H locs ls a1 a2 a3 => ?_) h2
  obtain ⟨hx, hb, hml, hown, hts, hr, hlk, hnm, hK, hf, hlo, hga⟩ := C
  exact lv_icmp_eq hx hb hd ht (fun hn => absurd hn hq) (fun _ => hk H locs ls a1 a2 a3)
theorem sm_if_ne {x : Int32} {off : Int} {tgt : Nat} (hd : m_D k pc (.ifCond .ne off) 3) (ht : (pc : Int) + off = (tgt : Int)) (hp : pc + 3 = pc') (h1 : m_Sim k d mc ms (.inl (tgt, L, st)) T1 post) (h2 : m_Sim k d mc ms (.inl (pc', L, st)) T2 post) : m_Sim k d mc ms (.inl (pc, L, .inl x :: st)) (if x = 0 then T2 else T1) post := by
  subst hp
  intro w p l e R s m args below meth c cells slots Q C hc hs μ a μ' hT hk H locs ls a1 a2 a3
  obtain ⟨hx, hb, -⟩ := id C
  refine lv_if_ne hx hb hd ht (fun hq => ?_) (fun hq => ?_)
  · rw [if_neg hq] at hT
    exact h1 w p l e R s m args below meth c cells slots Q C hc hs μ a μ' hT hk H locs ls a1 a2 a3
  · rw [if_pos hq] at hT
    exact h2 w p l e R s m args below meth c cells slots Q C hc hs μ a μ' hT hk H locs ls a1 a2 a3
theorem sm_if_ne_t {x : Int32} {off : Int} {tgt : Nat} (hd : m_D k pc (.ifCond .ne off) 3) (ht : (pc : Int) + off = (tgt : Int)) (hq : ¬ x = 0) (h1 : m_Sim k d mc ms (.inl (tgt, L, st)) T post) : m_Sim k d mc ms (.inl (pc, L, .inl x :: st)) T post := by
  refine m_step (fun w p l e R s m args below meth c cells slots Q C hcl hsl μ hk H locs ls a1 a2 a3 => ?_) h1
  obtain ⟨hx, hb, hml, hown, hts, hr, hlk, hnm, hK, hf, hlo, hga⟩ := C
  exact lv_if_ne hx hb hd ht (fun _ => hk H locs ls a1 a2 a3) (fun hn => absurd hn hq)
theorem sm_if_ne_f {x : Int32} {off : Int} {tgt : Nat} (hd : m_D k pc (.ifCond .ne off) 3) (ht : (pc : Int) + off = (tgt : Int)) (hp : pc + 3 = pc') (hq : x = 0) (h2 : m_Sim k d mc ms (.inl (pc', L, st)) T post) : m_Sim k d mc ms (.inl (pc, L, .inl x :: st)) T post := by
  subst hp
  refine m_step (fun w p l e R s m args below meth c cells slots Q C hcl hsl μ hk H locs ls a1 a2 a3 => ?_) h2
  obtain ⟨hx, hb, hml, hown, hts, hr, hlk, hnm, hK, hf, hlo, hga⟩ := C
  exact lv_if_ne hx hb hd ht (fun hn => absurd hq hn) (fun _ => hk H locs ls a1 a2 a3)
theorem sm_icmp_ne {x y : Int32} {off : Int} {tgt : Nat} (hd : m_D k pc (.if_icmp .ne off) 3) (ht : (pc : Int) + off = (tgt : Int)) (hp : pc + 3 = pc') (h1 : m_Sim k d mc ms (.inl (tgt, L, st)) T1 post) (h2 : m_Sim k d mc ms (.inl (pc', L, st)) T2 post) : m_Sim k d mc ms (.inl (pc, L, .inl y :: .inl x :: st)) (if x = y then T2 else T1) post := by
  subst hp
  intro w p l e R s m args below meth c cells slots Q C hc hs μ a μ' hT hk H locs ls a1 a2 a3
  obtain ⟨hx, hb, -⟩ := id C
  refine lv_icmp_ne hx hb hd ht (fun hq => ?_) (fun hq => ?_)
  · rw [if_neg hq] at hT
    exact h1 w p l e R s m args below meth c cells slots Q C hc hs μ a μ' hT hk H locs ls a1 a2 a3
  · rw [if_pos hq] at hT
    exact h2 w p l e R s m args below meth c cells slots Q C hc hs μ a μ' hT hk H locs ls a1 a2 a3
theorem sm_icmp_ne_t {x y : Int32} {off : Int} {tgt : Nat} (hd : m_D k pc (.if_icmp .ne off) 3) (ht : (pc : Int) + off = (tgt : Int)) (hq : ¬ x = y) (h1 : m_Sim k d mc ms (.inl (tgt, L, st)) T post) : m_Sim k d mc ms (.inl (pc, L, .inl y :: .inl x :: st)) T post := by
  refine m_step (fun w p l e R s m args below meth c cells slots Q C hcl hsl μ hk H locs ls a1 a2 a3 => ?_) h1
  obtain ⟨hx, hb, hml, hown, hts, hr, hlk, hnm, hK, hf, hlo, hga⟩ := C
  exact lv_icmp_ne hx hb hd ht (fun _ => hk H locs ls a1 a2 a3) (fun hn => absurd hn hq)
theorem sm_icmp_ne_f {x y : Int32} {off : Int} {tgt : Nat} (hd : m_D k pc (.if_icmp .ne off) 3) (ht : (pc : Int) + off = (tgt : Int)) (hp : pc + 3 = pc') (hq : x = y) (h2 : m_Sim k d mc ms (.inl (pc', L, st)) T post) : m_Sim k d mc ms (.inl (pc, L, .inl y :: .inl x :: st)) T post := by
  subst hp
  refine m_step (fun w p l e R s m args below meth c cells slots Q C hcl hsl μ hk H locs ls a1 a2 a3 => ?_) h2
  obtain ⟨hx, hb, hml, hown, hts, hr, hlk, hnm, hK, hf, hlo, hga⟩ := C
  exact lv_icmp_ne hx hb hd ht (fun hn => absurd hq hn) (fun _ => hk H locs ls a1 a2 a3)
theorem sm_if_lt {x : Int32} {off : Int} {tgt : Nat} (hd : m_D k pc (.ifCond .lt off) 3) (ht : (pc : Int) + off = (tgt : Int)) (hp : pc + 3 = pc') (h1 : m_Sim k d mc ms (.inl (tgt, L, st)) T1 post) (h2 : m_Sim k d mc ms (.inl (pc', L, st)) T2 post) : m_Sim k d mc ms (.inl (pc, L, .inl x :: st)) (if x < 0 then T1 else T2) post := by
  subst hp
  intro w p l e R s m args below meth c cells slots Q C hc hs μ a μ' hT hk H locs ls a1 a2 a3
  obtain ⟨hx, hb, -⟩ := id C
  refine lv_if_lt hx hb hd ht (fun hq => ?_) (fun hq => ?_)
  · rw [if_pos hq] at hT
    exact h1 w p l e R s m args below meth c cells slots Q C hc hs μ a μ' hT hk H locs ls a1 a2 a3
  · rw [if_neg hq] at hT
    exact h2 w p l e R s m args below meth c cells slots Q C hc hs μ a μ' hT hk H locs ls a1 a2 a3
theorem sm_if_lt_t {x : Int32} {off : Int} {tgt : Nat} (hd : m_D k pc (.ifCond .lt off) 3) (ht : (pc : Int) + off = (tgt : Int)) (hq : x < 0) (h1 : m_Sim k d mc ms (.inl (tgt, L, st)) T post) : m_Sim k d mc ms (.inl (pc, L, .inl x :: st)) T post := by
  refine m_step (fun w p l e R s m args below meth c cells slots Q C hcl hsl μ hk H locs ls a1 a2 a3 => ?_) h1
  obtain ⟨hx, hb, hml, hown, hts, hr, hlk, hnm, hK, hf, hlo, hga⟩ := C
  exact lv_if_lt hx hb hd ht (fun _ => hk H locs ls a1 a2 a3) (fun hn => absurd hq hn)
theorem sm_if_lt_f {x : Int32} {off : Int} {tgt : Nat} (hd : m_D k pc (.ifCond .lt off) 3) (ht : (pc : Int) + off = (tgt : Int)) (hp : pc + 3 = pc') (hq : ¬ (x < 0)) (h2 : m_Sim k d mc ms (.inl (pc', L, st)) T post) : m_Sim k d mc ms (.inl (pc, L, .inl x :: st)) T post := by
  subst hp
  refine m_step (fun w p l e R s m args below meth c cells slots Q C hcl hsl μ hk H locs ls a1 a2 a3 => ?_) h2
  obtain ⟨hx, hb, hml, hown, hts, hr, hlk, hnm, hK, hf, hlo, hga⟩ := C
  exact lv_if_lt hx hb hd ht (fun hn => absurd hn hq) (fun _ => hk H locs ls a1 a2 a3)
theorem sm_icmp_lt {x y : Int32} {off : Int} {tgt : Nat} (hd : m_D k pc (.if_icmp .lt off) 3) (ht : (pc : Int) + off = (tgt : Int)) (hp : pc + 3 = pc') (h1 : m_Sim k d mc ms (.inl (tgt, L, st)) T1 post) (h2 : m_Sim k d mc ms (.inl (pc', L, st)) T2 post) : m_Sim k d mc ms (.inl (pc, L, .inl y :: .inl x :: st)) (if x < y then T1 else T2) post := by
  subst hp
  intro w p l e R s m args below meth c cells slots Q C hc hs μ a μ' hT hk H locs ls a1 a2 a3
  obtain ⟨hx, hb, -⟩ := id C
  refine lv_icmp_lt hx hb hd ht (fun hq => ?_) (fun hq => ?_)
  · rw [if_pos hq] at hT
    exact h1 w p l e R s m args below meth c cells slots Q C hc hs μ a μ' hT hk H locs ls a1 a2 a3
  · rw [if_neg hq] at hT
    exact h2 w p l e R s m args below meth c cells slots Q C hc hs μ a μ' hT hk H locs ls a1 a2 a3
theorem sm_icmp_lt_t {x y : Int32} {off : Int} {tgt : Nat} (hd : m_D k pc (.if_icmp .lt off) 3) (ht : (pc : Int) + off = (tgt : Int)) (hq : x < y) (h1 : m_Sim k d mc ms (.inl (tgt, L, st)) T post) : m_Sim k d mc ms (.inl (pc, L, .inl y :: .inl x :: st)) T post := by
  refine m_step (fun w p l e R s m args below meth c cells slots Q C hcl hsl μ hk H locs ls a1 a2 a3 => ?_) h1
  obtain ⟨hx, hb, hml, hown, hts, hr, hlk, hnm, hK, hf, hlo, hga⟩ := C
  exact lv_icmp_lt hx hb hd ht (fun _ => hk H locs ls a1 a2 a3) (fun hn => absurd hq hn)
theorem sm_icmp_lt_f {x y : Int32} {off : Int} {tgt : Nat} (hd : m_D k pc (.if_icmp .lt off) 3) (ht : (pc : Int) + off = (tgt : Int)) (hp : pc + 3 = pc') (hq : ¬ (x < y)) (h2 : m_Sim k d mc ms (.inl (pc', L, st)) T post) : m_Sim k d mc ms (.inl (pc, L, .inl y :: .inl x :: st)) T post := by
  subst hp
  refine m_step (fun w p l e R s m args below meth c cells slots Q C hcl hsl μ hk H locs ls a1 a2 a3 => ?_) h2
  obtain ⟨hx, hb, hml, hown, hts, hr, hlk, hnm, hK, hf, hlo, hga⟩ := C
  exact lv_icmp_lt hx hb hd ht (fun hn => absurd hn hq) (fun _ => hk H locs ls a1 a2 a3)
theorem sm_if_ge {x : Int32} {off : Int} {tgt : Nat} (hd : m_D k pc (.ifCond .ge off) 3) (ht : (pc : Int) + off = (tgt : Int)) (hp : pc + 3 = pc') (h1 : m_Sim k d mc ms (.inl (tgt, L, st)) T1 post) (h2 : m_Sim k d mc ms (.inl (pc', L, st)) T2 post) : m_Sim k d mc ms (.inl (pc, L, .inl x :: st)) (if 0 ≤ x then T1 else T2) post := by
  subst hp
  intro w p l e R s m args below meth c cells slots Q C hc hs μ a μ' hT hk H locs ls a1 a2 a3
  obtain ⟨hx, hb, -⟩ := id C
  refine lv_if_ge hx hb hd ht (fun hq => ?_) (fun hq => ?_)
  · rw [if_pos hq] at hT
    exact h1 w p l e R s m args below meth c cells slots Q C hc hs μ a μ' hT hk H locs ls a1 a2 a3
  · rw [if_neg hq] at hT
    exact h2 w p l e R s m args below meth c cells slots Q C hc hs μ a μ' hT hk H locs ls a1 a2 a3
theorem sm_if_ge_t {x : Int32} {off : Int} {tgt : Nat} (hd : m_D k pc (.ifCond .ge off) 3) (ht : (pc : Int) + off = (tgt : Int)) (hq : 0 ≤ x) (h1 : m_Sim k d mc ms (.inl (tgt, L, st)) T post) : m_Sim k d mc ms (.inl (pc, L, .inl x :: st)) T post := by
  refine m_step (fun w p l e R s m args below meth c cells slots Q C hcl hsl μ hk H locs ls a1 a2 a3 => ?_) h1
  obtain ⟨hx, hb, hml, hown, hts, hr, hlk, hnm, hK, hf, hlo, hga⟩ := C
  exact lv_if_ge hx hb hd ht (fun _ => hk H locs ls a1 a2 a3) (fun hn => absurd hq hn)
theorem sm_if_ge_f {x : Int32} {off : Int} {tgt : Nat} (hd : m_D k pc (.ifCond .ge off) 3) (ht : (pc : Int) + off = (tgt : Int)) (hp : pc + 3 = pc') (hq : ¬ (0 ≤ x)) (h2 : m_Sim k d mc ms (.inl (pc', L, st)) T post) : m_Sim k d mc ms (.inl (pc, L, .inl x :: st)) T post := by
  subst hp
  refine m_step (fun w p l e R s m args below meth c cells slots Q C hcl hsl μ hk H locs ls a1 a2 a3 => ?_) h2
  obtain ⟨hx, hb, hml, hown, hts, hr, hlk, hnm, hK, hf, hlo, hga⟩ := C
  exact lv_if_ge hx hb hd ht (fun hn => absurd hn hq) (fun _ => hk H locs ls a1 a2 a3)
theorem sm_icmp_ge {x y : Int32} {off : Int} {tgt : Nat} (hd : m_D k pc (.if_icmp .ge off) 3) (ht : (pc : Int) + off = (tgt : Int)) (hp : pc + 3 = pc') (h1 : m_Sim k d mc ms (.inl (tgt, L, st)) T1 post) (h2 : m_Sim k d mc ms (.inl (pc', L, st)) T2 post) : m_Sim k d mc ms (.inl (pc, L, .inl y :: .inl x :: st)) (if y ≤ x then T1 else T2) post := by
  subst hp
  intro w p l e R s m args below meth c cells slots Q C hc hs μ a μ' hT hk H locs ls a1 a2 a3
  obtain ⟨hx, hb, -⟩ := id C
  refine lv_icmp_ge hx hb hd ht (fun hq => ?_) (fun hq => ?_)
  · rw [if_pos hq] at hT
    exact h1 w p l e R s m args below meth c cells slots Q C hc hs μ a μ' hT hk H locs ls a1 a2 a3
  · rw [if_neg hq] at hT
    exact h2 w p l e R s m args below meth c cells slots Q C hc hs μ a μ' hT hk H locs ls a1 a2 a3
theorem sm_icmp_ge_t {x y : Int32} {off : Int} {tgt : Nat} (hd : m_D k pc (.if_icmp .ge off) 3) (ht : (pc : Int) + off = (tgt : Int)) (hq : y ≤ x) (h1 : m_Sim k d mc ms (.inl (tgt, L, st)) T post) : m_Sim k d mc ms (.inl (pc, L, .inl y :: .inl x :: st)) T post := by
  refine m_step (fun w p l e R s m args below meth c cells slots Q C hcl hsl μ hk H locs ls a1 a2 a3 => ?_) h1
  obtain ⟨hx, hb, hml, hown, hts, hr, hlk, hnm, hK, hf, hlo, hga⟩ := C
  exact lv_icmp_ge hx hb hd ht (fun _ => hk H locs ls a1 a2 a3) (fun hn => absurd hq hn)
theorem sm_icmp_ge_f {x y : Int32} {off : Int} {tgt : Nat} (hd : m_D k pc (.if_icmp .ge off) 3) (ht : (pc : Int) + off = (tgt : Int)) (hp : pc + 3 = pc') (hq : ¬ (y ≤ x)) (h2 : m_Sim k d mc ms (.inl (pc', L, st)) T post) : m_Sim k d mc ms (.inl (pc, L, .inl y :: .inl x :: st)) T post := by
  subst hp
  refine m_step (fun w p l e R s m args below meth c cells slots Q C hcl hsl μ hk H locs ls a1 a2 a3 => ?_) h2
  obtain ⟨hx, hb, hml, hown, hts, hr, hlk, hnm, hK, hf, hlo, hga⟩ := C
  exact lv_icmp_ge hx hb hd ht (fun hn => absurd hn hq) (fun _ => hk H locs ls a1 a2 a3)
theorem sm_if_gt {x : Int32} {off : Int} {tgt : Nat} (hd : m_D k pc (.ifCond .gt off) 3) (ht : (pc : Int) + off = (tgt : Int)) (hp : pc + 3 = pc') (h1 : m_Sim k d mc ms (.inl (tgt, L, st)) T1 post) (h2 : m_Sim k d mc ms (.inl (pc', L, st)) T2 post) : m_Sim k d mc ms (.inl (pc, L, .inl x :: st)) (if 0 < x then T1 else T2) post := by
  subst hp
  intro w p l e R s m args below meth c cells slots Q C hc hs μ a μ' hT hk H locs ls a1 a2 a3
  obtain ⟨hx, hb, -⟩ := id C
  refine lv_if_gt hx hb hd ht (fun hq => ?_) (fun hq => ?_)
  · rw [if_pos hq] at hT
    exact h1 w p l e R s m args below meth c cells slots Q C hc hs μ a μ' hT hk H locs ls a1 a2 a3
  · rw [if_neg hq] at hT
    exact h2 w p l e R s m args below meth c cells slots Q C hc hs μ a μ' hT hk H locs ls a1 a2 a3
theorem sm_if_gt_t {x : Int32} {off : Int} {tgt : Nat} (hd : m_D k pc (.ifCond .gt off) 3) (ht : (pc : Int) + off = (tgt : Int)) (hq : 0 < x) (h1 : m_Sim k d mc ms (.inl (tgt, L, st)) T post) : m_Sim k d mc ms (.inl (pc, L, .inl x :: st)) T post := by
  refine m_step (fun w p l e R s m args below meth c cells slots Q C hcl hsl μ hk H locs ls a1 a2 a3 => ?_) h1
  obtain ⟨hx, hb, hml, hown, hts, hr, hlk, hnm, hK, hf, hlo, hga⟩ := C
  exact lv_if_gt hx hb hd ht (fun _ => hk H locs ls a1 a2 a3) (fun hn => absurd hq hn)
theorem sm_if_gt_f {x : Int32} {off : Int} {tgt : Nat} (hd : m_D k pc (.ifCond .gt off) 3) (ht : (pc : Int) + off = (tgt : Int)) (hp : pc + 3 = pc') (hq : ¬ (0 < x)) (h2 : m_Sim k d mc ms (.inl (pc', L, st)) T post) : m_Sim k d mc ms (.inl (pc, L, .inl x :: st)) T post := by
  subst hp
  refine m_step (fun w p l e R s m args below meth c cells slots Q C hcl hsl μ hk H locs ls a1 a2 a3 => ?_) h2
  obtain ⟨hx, hb, hml, hown, hts, hr, hlk, hnm, hK, hf, hlo, hga⟩ := C
  exact lv_if_gt hx hb hd ht (fun hn => absurd hn hq) (fun _ => hk H locs ls a1 a2 a3)
theorem sm_icmp_gt {x y : Int32} {off : Int} {tgt : Nat} (hd : m_D k pc (.if_icmp .gt off) 3) (ht : (pc : Int) + off = (tgt : Int)) (hp : pc + 3 = pc') (h1 : m_Sim k d mc ms (.inl (tgt, L, st)) T1 post) (h2 : m_Sim k d mc ms (.inl (pc', L, st)) T2 post) : m_Sim k d mc ms (.inl (pc, L, .inl y :: .inl x :: st)) (if y < x then T1 else T2) post := by
  subst hp
  intro w p l e R s m args below meth c cells slots Q C hc hs μ a μ' hT hk H locs ls a1 a2 a3
  obtain ⟨hx, hb, -⟩ := id C
  refine lv_icmp_gt hx hb hd ht (fun hq => ?_) (fun hq => ?_)
  · rw [if_pos hq] at hT
    exact h1 w p l e R s m args below meth c cells slots Q C hc hs μ a μ' hT hk H locs ls a1 a2 a3
  · rw [if_neg hq] at hT
    exact h2 w p l e R s m args below meth c cells slots Q C hc hs μ a μ' hT hk H locs ls a1 a2 a3
theorem sm_icmp_gt_t {x y : Int32} {off : Int} {tgt : Nat} (hd : m_D k pc (.if_icmp .gt off) 3) (ht : (pc : Int) + off = (tgt : Int)) (hq : y < x) (h1 : m_Sim k d mc ms (.inl (tgt, L, st)) T post) : m_Sim k d mc ms (.inl (pc, L, .inl y :: .inl x :: st)) T post := by
  refine m_step (fun w p l e R s m args below meth c cells slots Q C hcl hsl μ hk H locs ls a1 a2 a3 => ?_) h1
  obtain ⟨hx, hb, hml, hown, hts, hr, hlk, hnm, hK, hf, hlo, hga⟩ := C
  exact lv_icmp_gt hx hb hd ht (fun _ => hk H locs ls a1 a2 a3) (fun hn => absurd hq hn)
theorem sm_icmp_gt_f {x y : Int32} {off : Int} {tgt : Nat} (hd : m_D k pc (.if_icmp .gt off) 3) (ht : (pc : Int) + off = (tgt : Int)) (hp : pc + 3 = pc') (hq : ¬ (y < x)) (h2 : m_Sim k d mc ms (.inl (pc', L, st)) T post) : m_Sim k d mc ms (.inl (pc, L, .inl y :: .inl x :: st)) T post := by
  subst hp
  refine m_step (fun w p l e R s m args below meth c cells slots Q C hcl hsl μ hk H locs ls a1 a2 a3 => ?_) h2
  obtain ⟨hx, hb, hml, hown, hts, hr, hlk, hnm, hK, hf, hlo, hga⟩ := C
  exact lv_icmp_gt hx hb hd ht (fun hn => absurd hn hq) (fun _ => hk H locs ls a1 a2 a3)
theorem sm_if_le {x : Int32} {off : Int} {tgt : Nat} (hd : m_D k pc (.ifCond .le off) 3) (ht : (pc : Int) + off = (tgt : Int)) (hp : pc + 3 = pc') (h1 : m_Sim k d mc ms (.inl (tgt, L, st)) T1 post) (h2 : m_Sim k d mc ms (.inl (pc', L, st)) T2 post) : m_Sim k d mc ms (.inl (pc, L, .inl x :: st)) (if x ≤ 0 then T1 else T2) post := by
  subst hp
  intro w p l e R s m args below meth c cells slots Q C hc hs μ a μ' hT hk H locs ls a1 a2 a3
  obtain ⟨hx, hb, -⟩ := id C
  refine lv_if_le hx hb hd ht (fun hq => ?_) (fun hq => ?_)
  · rw [if_pos hq] at hT
    exact h1 w p l e R s m args below meth c cells slots Q C hc hs μ a μ' hT hk H locs ls a1 a2 a3
  · rw [if_neg hq] at hT
    exact h2 w p l e R s m args below meth c cells slots Q C hc hs μ a μ' hT hk H locs ls a1 a2 a3
theorem sm_if_le_t {x : Int32} {off : Int} {tgt : Nat} (hd : m_D k pc (.ifCond .le off) 3) (ht : (pc : Int) + off = (tgt : Int)) (hq : x ≤ 0) (h1 : m_Sim k d mc ms (.inl (tgt, L, st)) T post) : m_Sim k d mc ms (.inl (pc, L, .inl x :: st)) T post := by
  refine m_step (fun w p l e R s m args below meth c cells slots Q C hcl hsl μ hk H locs ls a1 a2 a3 => ?_) h1
  obtain ⟨hx, hb, hml, hown, hts, hr, hlk, hnm, hK, hf, hlo, hga⟩ := C
  exact lv_if_le hx hb hd ht (fun _ => hk H locs ls a1 a2 a3) (fun hn => absurd hq hn)
theorem sm_if_le_f {x : Int32} {off : Int} {tgt : Nat} (hd : m_D k pc (.ifCond .le off) 3) (ht : (pc : Int) + off = (tgt : Int)) (hp : pc + 3 = pc') (hq : ¬ (x ≤ 0)) (h2 : m_Sim k d mc ms (.inl (pc', L, st)) T post) : m_Sim k d mc ms (.inl (pc, L, .inl x :: st)) T post := by
  subst hp
  refine m_step (fun w p l e R s m args below meth c cells slots Q C hcl hsl μ hk H locs ls a1 a2 a3 => ?_) h2
  obtain ⟨hx, hb, hml, hown, hts, hr, hlk, hnm, hK, hf, hlo, hga⟩ := C
  exact lv_if_le hx hb hd ht (fun hn => absurd hn hq) (fun _ => hk H locs ls a1 a2 a3)
theorem sm_icmp_le {x y : Int32} {off : Int} {tgt : Nat} (hd : m_D k pc (.if_icmp .le off) 3) (ht : (pc : Int) + off = (tgt : Int)) (hp : pc + 3 = pc') (h1 : m_Sim k d mc ms (.inl (tgt, L, st)) T1 post) (h2 : m_Sim k d mc ms (.inl (pc', L, st)) T2 post) : m_Sim k d mc ms (.inl (pc, L, .inl y :: .inl x :: st)) (if x ≤ y then T1 else T2) post := by
  subst hp
  intro w p l e R s m args below meth c cells slots Q C hc hs μ a μ' hT hk H locs ls a1 a2 a3
  obtain ⟨hx, hb, -⟩ := id C
  refine lv_icmp_le hx hb hd ht (fun hq => ?_) (fun hq => ?_)
  · rw [if_pos hq] at hT
    exact h1 w p l e R s m args below meth c cells slots Q C hc hs μ a μ' hT hk H locs ls a1 a2 a3
  · rw [if_neg hq] at hT
    exact h2 w p l e R s m args below meth c cells slots Q C hc hs μ a μ' hT hk H locs ls a1 a2 a3
theorem sm_icmp_le_t {x y : Int32} {off : Int} {tgt : Nat} (hd : m_D k pc (.if_icmp .le off) 3) (ht : (pc : Int) + off = (tgt : Int)) (hq : x ≤ y) (h1 : m_Sim k d mc ms (.inl (tgt, L, st)) T post) : m_Sim k d mc ms (.inl (pc, L, .inl y :: .inl x :: st)) T post := by
  refine m_step (fun w p l e R s m args below meth c cells slots Q C hcl hsl μ hk H locs ls a1 a2 a3 => ?_) h1
  obtain ⟨hx, hb, hml, hown, hts, hr, hlk, hnm, hK, hf, hlo, hga⟩ := C
  exact lv_icmp_le hx hb hd ht (fun _ => hk H locs ls a1 a2 a3) (fun hn => absurd hq hn)
theorem sm_icmp_le_f {x y : Int32} {off : Int} {tgt : Nat} (hd : m_D k pc (.if_icmp .le off) 3) (ht : (pc : Int) + off = (tgt : Int)) (hp : pc + 3 = pc') (hq : ¬ (x ≤ y)) (h2 : m_Sim k d mc ms (.inl (pc', L, st)) T post) : m_Sim k d mc ms (.inl (pc, L, .inl y :: .inl x :: st)) T post := by
  subst hp
  refine m_step (fun w p l e R s m args below meth c cells slots Q C hcl hsl μ hk H locs ls a1 a2 a3 => ?_) h2
  obtain ⟨hx, hb, hml, hown, hts, hr, hlk, hnm, hK, hf, hlo, hga⟩ := C
  exact lv_icmp_le hx hb hd ht (fun hn => absurd hn hq) (fun _ => hk H locs ls a1 a2 a3)
theorem sm_idiv {x y : Int32} (hd : m_D k pc (.idiv) 1) (hp : pc + 1 = pc') (hne : ¬ y = 0) (h : m_Sim k d mc ms (.inl (pc', L, .inl (x / y) :: st)) T post) : m_Sim k d mc ms (.inl (pc, L, .inl (y) :: .inl (x) :: st)) T post := by
  subst hp
  refine m_step (fun w p l e R s m args below meth c cells slots Q C hcl hsl μ hk H locs ls a1 a2 a3 => ?_) h
  obtain ⟨hx, hb, hml, hown, hts, hr, hlk, hnm, hK, hf, hlo, hga⟩ := C
  exact lv_idiv hx hb hd hne (hk H locs ls a1 a2 a3)
theorem sm_idiv_v {x y : Int32} {f : Unit → mP α} (hd : m_D k pc .idiv 1) (hp : pc + 1 = pc') (h : m_Sim k d mc ms (.inl (pc', L, .inl (x / y) :: st)) (f ()) post) : m_Sim k d mc ms (.inl (pc, L, .inl (y) :: .inl (x) :: st)) (m_bd (m_nz y) f) post := by
  intro w p l e R s m args below meth c cells slots Q C hc hs μ a μ' hT hk
  obtain ⟨b, μ1, e1, e2⟩ := m_bd_some hT
  by_cases hne : y = 0
  · simp [m_nz, hne] at e1
  · simp [m_nz, hne] at e1
    subst e1
    exact sm_idiv hd hp hne h w p l e R s m args below meth c cells slots Q C hc hs μ a μ' e2 hk
theorem sm_irem {x y : Int32} (hd : m_D k pc (.irem) 1) (hp : pc + 1 = pc') (hne : ¬ y = 0) (h : m_Sim k d mc ms (.inl (pc', L, .inl (x - x / y * y) :: st)) T post) : m_Sim k d mc ms (.inl (pc, L, .inl (y) :: .inl (x) :: st)) T post := by
  subst hp
  refine m_step (fun w p l e R s m args below meth c cells slots Q C hcl hsl μ hk H locs ls a1 a2 a3 => ?_) h
  obtain ⟨hx, hb, hml, hown, hts, hr, hlk, hnm, hK, hf, hlo, hga⟩ := C
  exact lv_irem hx hb hd hne (hk H locs ls a1 a2 a3)
theorem sm_irem_v {x y : Int32} {f : Unit → mP α} (hd : m_D k pc .irem 1) (hp : pc + 1 = pc') (h : m_Sim k d mc ms (.inl (pc', L, .inl (x - x / y * y) :: st)) (f ()) post) : m_Sim k d mc ms (.inl (pc, L, .inl (y) :: .inl (x) :: st)) (m_bd (m_nz y) f) post := by
  intro w p l e R s m args below meth c cells slots Q C hc hs μ a μ' hT hk
  obtain ⟨b, μ1, e1, e2⟩ := m_bd_some hT
  by_cases hne : y = 0
  · simp [m_nz, hne] at e1
  · simp [m_nz, hne] at e1
    subst e1
    exact sm_irem hd hp hne h w p l e R s m args below meth c cells slots Q C hc hs μ a μ' e2 hk
theorem sm_ldiv {x y : Int64} (hd : m_D k pc (.ldiv) 1) (hp : pc + 1 = pc') (hne : ¬ y = 0) (h : m_Sim k d mc ms (.inl (pc', L, .inr (.inl (x / y)) :: st)) T post) : m_Sim k d mc ms (.inl (pc, L, .inr (.inl (y)) :: .inr (.inl (x)) :: st)) T post := by
  subst hp
  refine m_step (fun w p l e R s m args below meth c cells slots Q C hcl hsl μ hk H locs ls a1 a2 a3 => ?_) h
  obtain ⟨hx, hb, hml, hown, hts, hr, hlk, hnm, hK, hf, hlo, hga⟩ := C
  exact lv_ldiv hx hb hd hne (hk H locs ls a1 a2 a3)
theorem sm_ldiv_v {x y : Int64} {f : Unit → mP α} (hd : m_D k pc .ldiv 1) (hp : pc + 1 = pc') (h : m_Sim k d mc ms (.inl (pc', L, .inr (.inl (x / y)) :: st)) (f ()) post) : m_Sim k d mc ms (.inl (pc, L, .inr (.inl (y)) :: .inr (.inl (x)) :: st)) (m_bd (m_nzJ y) f) post := by
  intro w p l e R s m args below meth c cells slots Q C hc hs μ a μ' hT hk
  obtain ⟨b, μ1, e1, e2⟩ := m_bd_some hT
  by_cases hne : y = 0
  · simp [m_nzJ, hne] at e1
  · simp [m_nzJ, hne] at e1
    subst e1
    exact sm_ldiv hd hp hne h w p l e R s m args below meth c cells slots Q C hc hs μ a μ' e2 hk
theorem sm_lrem {x y : Int64} (hd : m_D k pc (.lrem) 1) (hp : pc + 1 = pc') (hne : ¬ y = 0) (h : m_Sim k d mc ms (.inl (pc', L, .inr (.inl (x - x / y * y)) :: st)) T post) : m_Sim k d mc ms (.inl (pc, L, .inr (.inl (y)) :: .inr (.inl (x)) :: st)) T post := by
  subst hp
  refine m_step (fun w p l e R s m args below meth c cells slots Q C hcl hsl μ hk H locs ls a1 a2 a3 => ?_) h
  obtain ⟨hx, hb, hml, hown, hts, hr, hlk, hnm, hK, hf, hlo, hga⟩ := C
  exact lv_lrem hx hb hd hne (hk H locs ls a1 a2 a3)
theorem sm_lrem_v {x y : Int64} {f : Unit → mP α} (hd : m_D k pc .lrem 1) (hp : pc + 1 = pc') (h : m_Sim k d mc ms (.inl (pc', L, .inr (.inl (x - x / y * y)) :: st)) (f ()) post) : m_Sim k d mc ms (.inl (pc, L, .inr (.inl (y)) :: .inr (.inl (x)) :: st)) (m_bd (m_nzJ y) f) post := by
  intro w p l e R s m args below meth c cells slots Q C hc hs μ a μ' hT hk
  obtain ⟨b, μ1, e1, e2⟩ := m_bd_some hT
  by_cases hne : y = 0
  · simp [m_nzJ, hne] at e1
  · simp [m_nzJ, hne] at e1
    subst e1
    exact sm_lrem hd hp hne h w p l e R s m args below meth c cells slots Q C hc hs μ a μ' e2 hk
theorem sm_ldc {index : Nat} {v : Int32} (hd : m_D k pc (.ldc index) 2) (hp : pc + 2 = pc') (hm : Cond.constant k.1.cls index v ∈ m_tb) (h : m_Sim k d mc ms (.inl (pc', L, .inl v :: st)) T post) : m_Sim k d mc ms (.inl (pc, L, st)) T post := by
  subst hp
  refine m_step (fun w p l e R s m args below meth c cells slots Q C hcl hsl μ hk H locs ls a1 a2 a3 => ?_) h
  obtain ⟨hx, hb, hml, hown, hts, hr, hlk, hnm, hK, hf, hlo, hga⟩ := C
  exact lv_ldc hx hb hown (hts _ hm) hd (hk H locs ls a1 a2 a3)
theorem sm_ldcw {index : Nat} {v : Int32} (hd : m_D k pc (.ldc_w index) 3) (hp : pc + 3 = pc') (hm : Cond.constant k.1.cls index v ∈ m_tb) (h : m_Sim k d mc ms (.inl (pc', L, .inl v :: st)) T post) : m_Sim k d mc ms (.inl (pc, L, st)) T post := by
  subst hp
  refine m_step (fun w p l e R s m args below meth c cells slots Q C hcl hsl μ hk H locs ls a1 a2 a3 => ?_) h
  obtain ⟨hx, hb, hml, hown, hts, hr, hlk, hnm, hK, hf, hlo, hga⟩ := C
  exact lv_ldcw hx hb hown (hts _ hm) hd (hk H locs ls a1 a2 a3)
theorem sm_ldc2 {index : Nat} {v : Int64} (hd : m_D k pc (.ldc2_w index) 3) (hp : pc + 3 = pc') (hm : Cond.constantLong k.1.cls index v ∈ m_tb) (h : m_Sim k d mc ms (.inl (pc', L, .inr (.inl v) :: st)) T post) : m_Sim k d mc ms (.inl (pc, L, st)) T post := by
  subst hp
  refine m_step (fun w p l e R s m args below meth c cells slots Q C hcl hsl μ hk H locs ls a1 a2 a3 => ?_) h
  obtain ⟨hx, hb, hml, hown, hts, hr, hlk, hnm, hK, hf, hlo, hga⟩ := C
  exact lv_ldc2 hx hb hown (hts _ hm) hd (hk H locs ls a1 a2 a3)
theorem sm_ldcS {index j : Nat} (hd : m_D k pc (.ldc index) 2) (hp : pc + 2 = pc') (hm : (k.1.cls, index, j) ∈ m_sTab) (h : m_Sim k d mc ms (.inl (pc', L, .inr (.inr (some (0, j, 0))) :: st)) T post) : m_Sim k d mc ms (.inl (pc, L, st)) T post := by
  subst hp
  refine m_step (fun w p l e R s m args below meth c cells slots Q C hcl hsl μ hk H locs ls a1 a2 a3 => ?_) h
  obtain ⟨hx, hb, hml, hown, hts, hr, hlk, hnm, hK, hf, hlo, hga⟩ := C
  exact va_ldcS hx hb hown (hK.2.2.2.1 _ hm) hd (hk H locs ls a1 a2 a3)
theorem sm_ifnonnull {x : Option mA} {off : Int} {tgt : Nat} (hd : m_D k pc (.ifnonnull off) 3) (ht : (pc : Int) + off = (tgt : Int)) (hp : pc + 3 = pc') (h1 : m_Sim k d mc ms (.inl (tgt, L, st)) T1 post) (h2 : m_Sim k d mc ms (.inl (pc', L, st)) T2 post) : m_Sim k d mc ms (.inl (pc, L, .inr (.inr x) :: st)) (if x.isSome = true then T1 else T2) post := by
  subst hp
  intro w p l e R s m args below meth c cells slots Q C hc hs μ a μ' hT hk H locs ls a1 a2 a3
  obtain ⟨hx, hb, -⟩ := id C
  cases x with
  | none =>
    rw [if_neg (by simp)] at hT
    exact lv_ifnonnullN hx hb hd (h2 w p l e R s m args below meth c cells slots Q C hc hs μ a μ' hT hk H locs ls a1 a2 a3)
  | some y =>
    rw [if_pos (by rfl)] at hT
    exact lv_ifnonnull hx hb hd ht (h1 w p l e R s m args below meth c cells slots Q C hc hs μ a μ' hT hk H locs ls a1 a2 a3)
theorem sm_tabIn {dflt lo hi : Int} {offs : Array Int} {len : Nat} {x : Int32} {off : Int} {tgt : Nat} (hd : m_D k pc (.tableswitch dflt lo hi offs) len) (h1 : ¬ x.toInt < lo) (h2 : ¬ hi < x.toInt) (ho : offs[(x.toInt - lo).toNat]? = some off) (ht : (pc : Int) + off = (tgt : Int)) (h : m_Sim k d mc ms (.inl (tgt, L, st)) T post) : m_Sim k d mc ms (.inl (pc, L, .inl x :: st)) T post := by
  refine m_step (fun w p l e R s m args below meth c cells slots Q C hcl hsl μ hk H locs ls a1 a2 a3 => ?_) h
  obtain ⟨hx, hb, hml, hown, hts, hr, hlk, hnm, hK, hf, hlo, hga⟩ := C
  exact lv_tableIn hx hb hd h1 h2 ho ht (hk H locs ls a1 a2 a3)
theorem sm_tabOut {dflt lo hi : Int} {offs : Array Int} {len : Nat} {x : Int32} {tgt : Nat} (hd : m_D k pc (.tableswitch dflt lo hi offs) len) (h0 : x.toInt < lo ∨ hi < x.toInt) (ht : (pc : Int) + dflt = (tgt : Int)) (h : m_Sim k d mc ms (.inl (tgt, L, st)) T post) : m_Sim k d mc ms (.inl (pc, L, .inl x :: st)) T post := by
  refine m_step (fun w p l e R s m args below meth c cells slots Q C hcl hsl μ hk H locs ls a1 a2 a3 => ?_) h
  obtain ⟨hx, hb, hml, hown, hts, hr, hlk, hnm, hK, hf, hlo, hga⟩ := C
  exact lv_tableOut hx hb hd h0 ht (hk H locs ls a1 a2 a3)
/-- a condition that the program asks and the machine does not -/
theorem sm_ite {cf : mC} {c : Prop} [Decidable c] (h1 : c → m_Sim k d mc ms cf T1 post) (h2 : ¬ c → m_Sim k d mc ms cf T2 post) : m_Sim k d mc ms cf (if c then T1 else T2) post := by
  by_cases hc : c
  · rw [if_pos hc]; exact h1 hc
  · rw [if_neg hc]; exact h2 hc
-- returns
theorem sm_ret {v : mV} {T : mP α} {a0 : α} (hd : m_D k pc (m_ri (some v)) 1) (ho : ∀ μ a μ', T μ = some (a, μ') → a = a0 ∧ μ' = μ ∧ m_ro k.2.2.2.1 (some v)) (hp : post a0 = .inr (some v)) : m_Sim k d 0 0 (.inl (pc, L, v :: [])) T post := by
  intro w p l e R s m args below meth c cells slots Q C hc hs μ a μ' hT hk H locs ls a1 a2 a3
  obtain ⟨rfl, rfl, hro⟩ := ho μ a μ' hT
  rw [hp] at hk
  exact hk hro H locs ls pc a1 a2 hd
theorem sm_ireturn {v : Int32} {a0 : α} (hd : m_D k pc .ireturn 1) (hr : k.2.2.2.1 = some .int) (hp : post a0 = .inr (some (.inl v))) : m_Sim k d 0 0 (.inl (pc, L, [.inl v])) (m_rt a0) post :=
  sm_ret hd (fun μ a μ' h => by cases h; exact ⟨rfl, rfl, Or.inl hr⟩) hp
theorem sm_zreturn {v : Int32} {a0 : α} (hd : m_D k pc .ireturn 1) (hr : k.2.2.2.1 = some .boolean) (hv : v = 0 ∨ v = 1) (hp : post a0 = .inr (some (.inl v))) : m_Sim k d 0 0 (.inl (pc, L, [.inl v])) (m_rt a0) post :=
  sm_ret hd (fun μ a μ' h => by cases h; exact ⟨rfl, rfl, Or.inr ⟨.boolean, hr, by rcases hv with rfl | rfl <;> rfl⟩⟩) hp
theorem sm_nreturn {v : Int32} {ty : FieldType} {a0 : α} (hd : m_D k pc .ireturn 1) (hr : k.2.2.2.1 = some ty) (hv : narrow ty (.int v) = .int v) (hp : post a0 = .inr (some (.inl v))) : m_Sim k d 0 0 (.inl (pc, L, [.inl v])) (m_rt a0) post :=
  sm_ret hd (fun μ a μ' h => by cases h; exact ⟨rfl, rfl, Or.inr ⟨ty, hr, hv⟩⟩) hp
theorem sm_zretC {v : Int32} {a0 : α} (hd : m_D k pc .ireturn 1) (hr : k.2.2.2.1 = some .boolean) (hp : post a0 = .inr (some (.inl v))) : m_Sim k d 0 0 (.inl (pc, L, [.inl v])) (m_bd (m_cz v) (fun _ => m_rt a0)) post := by
  refine sm_ret hd (fun μ a μ' h => ?_) hp
  obtain ⟨u, μ1, e1, e2⟩ := m_bd_some h
  unfold m_cz at e1
  split at e1
  next hv => cases e1; cases e2; exact ⟨rfl, rfl, Or.inr ⟨.boolean, hr, by rcases hv with rfl | rfl <;> rfl⟩⟩
  next => cases e1
theorem sm_lreturn {v : Int64} {a0 : α} (hd : m_D k pc .lreturn 1) (hr : k.2.2.2.1 = some .long) (hp : post a0 = .inr (some (.inr (.inl v)))) : m_Sim k d 0 0 (.inl (pc, L, [.inr (.inl v)])) (m_rt a0) post :=
  sm_ret (v := .inr (.inl v)) hd (fun μ a μ' h => by cases h; exact ⟨rfl, rfl, hr⟩) hp
theorem sm_areturn {v : Option mA} {n : String} {a0 : α} (hd : m_D k pc .areturn 1) (hr : k.2.2.2.1 = some (.object n)) (hp : post a0 = .inr (some (.inr (.inr v)))) : m_Sim k d 0 0 (.inl (pc, L, [.inr (.inr v)])) (m_rt a0) post :=
  sm_ret (v := .inr (.inr v)) hd (fun μ a μ' h => by cases h; exact ⟨rfl, rfl, n, hr⟩) hp
theorem sm_return {a0 : α} (hd : m_D k pc .return_ 1) (hr : k.2.2.2.1 = none) (hp : post a0 = .inr none) : m_Sim k d 0 0 (.inl (pc, L, [])) (m_rt a0) post := by
  intro w p l e R s m args below meth c cells slots Q C hc hs μ a μ' hT hk H locs ls a1 a2 a3
  cases hT
  rw [hp] at hk
  exact hk hr H locs ls pc a1 a2 hd
end SIM
