/-! Part 80, laid by wip/whole/startgen.py (the frame of it is the kit's skeleton): the law's start, the claim -/
def R_law : String := "RustFamilyLaw"
def lw_P (b : Addr) (xs : List Int32) (args : Array Value) (s : State) : Prop := args = #[.ref b] ∧ s.IntsAt b xs ∧ xs.length ≤ 3072 ∧ (Jvm.Cond.and given_1 narrow_1).before args s = true
def lw_Q (_ : Array Value) (s : State) (o : Outcome) (t : State) : Prop := o = .returned (some (.int 1)) ∧ Framed s o t [] 600000 7302250
def lw_Z (below : List Frame) (a : Array Value) (s : State) : State → Prop := fun t => ∃ o, t.status = .running ∧ Ended t below o ∧ lw_Q a s o t
/-- the law's own end, with 1 on the stack, nothing written that was there before, its room as the claim has it -/
theorem lw_ret {p : Program} {l : Launch} {e : Env} {s : State} {m : MethodId} {below : List Frame} {meth : Method} {c : Code} {b : Nat} (hx : p.tables.exec = Jvm.exec) (hb : c.code = code) (hr : meth.sig.returnType = ret) (hlocks : meth.locks = false) {pc : Nat} {H : Heap} {ls : Array Slot} (hdg : decode code pc = .ok (.ireturn, 1)) : W p l e room_1 s m #[Value.ref b] below meth c H [] 600000 7302250 (lw_Z below #[Value.ref b] s) (F0 m pc ls [.int 1]) := by
  intro T hT X
  obtain ⟨fs, hret, hrun, hended, hW, hframe⟩ := X.leave (v := some (.int 1)) (hlocks := hlocks) (fun h => by rw [hr] at h; cases h)
  have hmeth' : T.vm.method? m = some meth := X.method'
  refine ⟨T.setFrames fs, ?_, .returned (some (.int 1)), hrun, hended, rfl, ⟨_, rfl⟩, hW, hframe⟩
  jvm_step X.here [X.here.top, hx, hb, hdg, hmeth', hr, ret, narrow_b1]
  (try refine ⟨rfl, ?_⟩); (try refine ⟨rfl, ?_⟩)
  first | (intro acts; rw [hret _ acts rfl rfl rfl]) | rw [hret _ _ rfl rfl rfl]
  exact Steps.refl _
/-- what holds at the law's entry: the machine, the code, the tables' words (any of lw_tbl by 'hts w (by decide +kernel)'), the script of L ints xs at the cell b, what the Statement gives of the start (any of its parts by flat_of_before) -/
def lw_At (p : Program) (s : State) (m : MethodId) (meth : Method) (c : Code) (b L : Nat) (xs : Nat → Int32) : Prop :=
  p.tables.exec = Jvm.exec ∧ c.code = code ∧ meth.sig.returnType = ret ∧ c.maxLocals = 4 ∧ s.vm.findClass R_law = some m.cls ∧ (∀ w ∈ lw_tbl, w.before #[Value.ref b] s = true) ∧ va_X b L xs s s.heap ∧ b < s.heap.size ∧ meth.locks = false ∧ (Jvm.Cond.and given_1 narrow_1).before #[Value.ref b] s = true ∧ meth.name = x.name
theorem x_ao0 : Cond.arrayOver (.object "RustFamily$Tray") ∈ lw_tbl := List.mem_append_right _ (m_t1 (List.mem_of_getElem? (i := 31) rfl))
theorem x_ao1 : Cond.arrayOver (.object "RustFamily$Family") ∈ lw_tbl := List.mem_append_right _ (m_t2 (List.mem_of_getElem? (i := 71) rfl))
theorem x_ao2 : Cond.arrayOver (.object "RustFamily$Person") ∈ lw_tbl := List.mem_append_right _ (m_t1 (List.mem_of_getElem? (i := 109) rfl))
theorem x_ao3 : Cond.arrayOver (.object "RustFamily$Thing") ∈ lw_tbl := List.mem_append_right _ (m_t1 (List.mem_of_getElem? (i := 146) rfl))
theorem x_nw0 : Cond.methodLinkNest "RustFamily$Family" 37 ⟨"RustFamily$Thing", "<init>", "()V"⟩ "RustFamily" ∈ lw_tbl := List.mem_append_right _ (m_t1 (List.mem_of_getElem? (i := 148) rfl))
theorem x_nw1 : Cond.methodLinkNest "RustFamily$Ahead" 11 ⟨"RustFamily$Thing", "<init>", "()V"⟩ "RustFamily" ∈ lw_tbl := List.mem_append_right _ (m_t2 (List.mem_of_getElem? (i := 79) rfl))
theorem x_nw2 : Cond.methodLinkNest "RustFamily$Game" 15 ⟨"RustFamily$Thing", "<init>", "()V"⟩ "RustFamily" ∈ lw_tbl := List.mem_append_right _ (m_t2 (List.mem_of_getElem? (i := 147) rfl))
theorem x_nw3 : Cond.methodLinkNest "RustFamily$Text" 127 ⟨"RustFamily", "isWithin", "(III)Z"⟩ "RustFamily" ∈ lw_tbl := List.mem_append_right _ (m_t3 (List.mem_of_getElem? (i := 198) rfl))
theorem x_ls0 : Cond.laysStatic "java/lang/String" "COMPACT_STRINGS" "Z" ∈ lw_tbl := List.mem_append_right _ (m_t3 (List.mem_of_getElem? (i := 100) rfl))
theorem x_ls1 : Cond.laysStatic "jdk/internal/util/Preconditions" "SIOOBE_FORMATTER" "Ljava/util/function/BiFunction;" ∈ lw_tbl := List.mem_append_right _ (m_t3 (List.mem_of_getElem? (i := 116) rfl))
def x_ti : List Nat := [89, 77, 83, 85, 87, 91, 93, 95, 97, 99, 101, 103, 105, 107, 109, 111, 113, 115, 117, 119, 121]
def x_ri : List Nat := [24, 78, 86, 87, 88, 123, 128, 34, 134, 136, 39, 189, 190, 192, 194, 166, 215, 217, 198, 160, 196]
def x_tm (j : Nat) : Term := .string "RustFamily$Text" (x_ti.getD j 0)
def x_tr (j : Nat) : Term := .string "RustFamily$Reader" (x_ri.getD j 0)
def x_fl : List Cond := flatC (Cond.and given_1 narrow_1)
set_option maxRecDepth 100000 in
theorem x_s1 : ∀ j, j < m_nS → Cond.exactly (x_tm j) "java/lang/String" ∈ x_fl := by decide +kernel
set_option maxRecDepth 100000 in
theorem x_s2 : ∀ j, j < m_nS → Cond.eq (.field (x_tm j) "java/lang/String" "coder" "B") (.int 0) ∈ x_fl := by decide +kernel
set_option maxRecDepth 100000 in
theorem x_s3 : ∀ j, j < m_nS → Cond.arrayOf (.field (x_tm j) "java/lang/String" "value" "[B") .byte ∈ x_fl := by decide +kernel
set_option maxRecDepth 100000 in
theorem x_s4 : ∀ j, j < m_nS → Cond.eq (.length (.field (x_tm j) "java/lang/String" "value" "[B")) (.int (Int32.ofNat (m_sb.getD j []).length)) ∈ x_fl := by decide +kernel
set_option maxRecDepth 100000 in
theorem x_s5 : ∀ j, j < m_nS → ∀ i, i < (m_sb.getD j []).length → Cond.eq (.elem (.field (x_tm j) "java/lang/String" "value" "[B") (.int (Int32.ofNat i))) (.int ((m_sb.getD j []).getD i 0)) ∈ x_fl := by decide +kernel
set_option maxRecDepth 100000 in
theorem x_s6 : ∀ j, j < m_nS → Cond.eq (x_tr j) (x_tm j) ∈ x_fl ∨ Cond.eq (x_tm j) (x_tr j) ∈ x_fl := by decide +kernel
set_option maxRecDepth 100000 in
theorem x_s7 : ∀ q ∈ m_sTab, q.2.2 < m_nS ∧ (q.1 = "RustFamily$Text" ∧ q.2.1 = x_ti.getD q.2.2 0 ∨ q.1 = "RustFamily$Reader" ∧ q.2.1 = x_ri.getD q.2.2 0) := by decide +kernel
set_option maxRecDepth 100000 in
theorem x_s8 : ∀ q ∈ m_sTab, Cond.stringRef q.1 q.2.1 (m_sx.getD q.2.2 "") ∈ lw_tbl := by decide +kernel
theorem x_s9 : Cond.eq (.static "java/lang/String" "COMPACT_STRINGS" "Z") (.int 1) ∈ x_fl := by decide +kernel
theorem x_s10 : Cond.isRef (.static "jdk/internal/util/Preconditions" "SIOOBE_FORMATTER" "Ljava/util/function/BiFunction;") ∈ x_fl := by decide +kernel
theorem x_eqr {args : Array Value} {s : State} {t u : Term} {a : Nat} (h : (Cond.eq t u).before args s = true) (hu : u.eval args s none [] s = some (.ref a)) : t.eval args s none [] s = some (.ref a) := by
  cases hv : t.eval args s none [] s with
  | none => simp [Cond.before, Cond.holds, Cond.value, hv] at h
  | some v =>
    simp only [Cond.before, Cond.holds, Cond.value, hv, hu] at h
    cases v <;> simp_all
theorem x_eql {args : Array Value} {s : State} {t u : Term} {a : Nat} (h : (Cond.eq u t).before args s = true) (hu : u.eval args s none [] s = some (.ref a)) : t.eval args s none [] s = some (.ref a) := by
  cases hv : t.eval args s none [] s with
  | none => simp [Cond.before, Cond.holds, Cond.value, hv, hu] at h
  | some v =>
    simp only [Cond.before, Cond.holds, Cond.value, hv, hu] at h
    cases v <;> simp_all

theorem x_known {s : State} {args : Array Value} (htb : ∀ q ∈ m_tb, q.before args s = true) : ∀ (k : Nat) (q : vw_C), m_cl[k]? = some q → ∃ (cC : ClassId) (iS : Nat → Nat), u_Kn s q.1 q.2.1 q.2.2 cC iS := by
  intro k q hq
  match k, hq with
  | 0, hq => cases hq; exact u_known htb c_j0 (htb _ w_is_C)
  | 1, hq => cases hq; exact u_known htb c_j1 (htb _ w_is_Tr)
  | 2, hq => cases hq; exact u_known htb c_j2 (htb _ w_is_Tx)
  | 3, hq => cases hq; exact u_known htb c_j3 (htb _ w_is_Fa)
  | 4, hq => cases hq; exact u_known htb c_j4 (htb _ w_is_Pe)
  | 5, hq => cases hq; exact u_known htb c_j5 (htb _ w_is_Th)
  | 6, hq => cases hq; exact u_known htb c_j6 (htb _ w_is_Pl)
  | 7, hq => cases hq; exact u_known htb c_j7 (htb _ w_is_Ah)
  | 8, hq => cases hq; exact u_known htb c_j8 (htb _ w_is_Si)
  | 9, hq => cases hq; exact u_known htb c_j9 (htb _ w_is_Ke)
  | 10, hq => cases hq; exact u_known htb c_j10 (htb _ w_is_Ga)
  | 11, hq => cases hq; exact u_known htb c_j11 (htb _ w_is_M)
  | k + 12, hq => simp [m_cl] at hq
theorem x_arr {s : State} {args : Array Value} (hts : ∀ q ∈ lw_tbl, q.before args s = true) : ∀ t : Nat, ∃ cA : ClassId, t < 8 → ArrOfT s cA (m_ty t) ∧ va_RA s cA (m_ty t) := by
  have htb : ∀ q ∈ m_tb, q.before args s = true := fun q hq => hts q (List.mem_filter.mp hq).1
  have prim : ∀ ty : FieldType, (Cond.arrayClass ty).before args s = true → ∃ cA : ClassId, ArrOfT s cA ty ∧ s.vm.findClass ("[" ++ ty.toString) = some cA := by
    intro ty h
    obtain ⟨c, k, comp, h1, h2, h3⟩ := Cond.arrayClass_spec (args := args) (first := s) (o := none) (s := s) (idx := []) h
    exact ⟨c, fun n z => ⟨(fun q h => by cases h), k, h2, comp, h3⟩, h1⟩
  have refs : ∀ n : String, (Cond.arrayOver (.object n)).before args s = true → ∃ cA : ClassId, ArrOfT s cA (.object n) ∧ va_RA s cA (.object n) := by
    intro n h
    obtain ⟨comp, c, k, h1, -, h3, h4, h5⟩ := Cond.arrayOver_spec (args := args) (first := s) (o := none) (s := s) (idx := []) h
    exact ⟨c, fun N z => ⟨(fun q h => by cases h), k, h3, comp, h4⟩, k, comp, h3, h4, h1, h5⟩
  intro t
  match t with
  | 0 => obtain ⟨c, h1, h2⟩ := prim _ (htb _ w_ac_int); exact ⟨c, fun _ => ⟨h1, h2⟩⟩
  | 1 => obtain ⟨c, h1, h2⟩ := prim _ (htb _ w_ac_long); exact ⟨c, fun _ => ⟨h1, h2⟩⟩
  | 2 => obtain ⟨c, h1, h2⟩ := prim _ (htb _ w_ac_byte); exact ⟨c, fun _ => ⟨h1, h2⟩⟩
  | 3 => obtain ⟨c, h1, h2⟩ := prim _ (htb _ w_ac_boolean); exact ⟨c, fun _ => ⟨h1, h2⟩⟩
  | 4 => obtain ⟨c, h1, h2⟩ := refs _ (hts _ x_ao0); exact ⟨c, fun _ => ⟨h1, h2⟩⟩
  | 5 => obtain ⟨c, h1, h2⟩ := refs _ (hts _ x_ao1); exact ⟨c, fun _ => ⟨h1, h2⟩⟩
  | 6 => obtain ⟨c, h1, h2⟩ := refs _ (hts _ x_ao2); exact ⟨c, fun _ => ⟨h1, h2⟩⟩
  | 7 => obtain ⟨c, h1, h2⟩ := refs _ (hts _ x_ao3); exact ⟨c, fun _ => ⟨h1, h2⟩⟩
  | t + 8 => exact ⟨0, fun h => absurd h (by omega)⟩
theorem x_str {s : State} {args : Array Value} {A : Nat → Prop} (hgv : (Cond.and given_1 narrow_1).before args s = true) (hA : ∀ a : Nat, a < s.heap.size → ¬ A a) : ∀ j : Nat, ∃ q : Nat × Nat, j < m_nS → (x_tm j).eval args s none [] s = some (.ref q.1) ∧ (x_tr j).eval args s none [] s = some (.ref q.1) ∧ va_O "java/lang/String" q.1 A s s.heap ∧ va_OF "java/lang/String" "coder" "B" (.int 0) q.1 A s s.heap ∧ va_OF "java/lang/String" "value" "[B" (.ref q.2) q.1 A s s.heap ∧ va_T .byte q.2 (m_sb.getD j []).length (fun i => .int ((m_sb.getD j []).getD i 0)) A s s.heap := by
  have hs : ∀ q ∈ x_fl, q.before args s = true := flat_of_before _ hgv
  intro j
  by_cases hj : j < m_nS
  · obtain ⟨a, c, cA, kA, q1, q2, q3, q4, q5, q6, -⟩ := Cond.exactly_spec (args := args) (first := s) (o := none) (s := s) (idx := []) (t := x_tm j) (cls := "java/lang/String") (hs _ (x_s1 j hj))
    obtain ⟨t, ht, hT⟩ := va_Tof (f := fun i => .int ((m_sb.getD j []).getD i 0)) (A := A) (by have := (m_sb_all j hj).1; omega) (hs _ (x_s3 j hj)) (va_eqt (hs _ (x_s4 j hj))) (fun i hi => va_eqt (hs _ (x_s5 j hj i hi))) hA
    refine ⟨(a, t), fun _ => ⟨q1, ?_, ⟨cA, q3, q5, by rw [q6]; exact q2, hA a (Array.getElem?_eq_some_iff.mp q3).1⟩, vk_OFof q1 (va_eqt (hs _ (x_s2 j hj))) hA, vk_OFof q1 ht hA, hT⟩⟩
    rcases x_s6 j hj with h | h
    · exact x_eqr (hs _ h) q1
    · exact x_eql (hs _ h) q1
  · exact ⟨(0, 0), fun h => absurd h hj⟩
set_option maxHeartbeats 4000000 in
theorem whole_start {p : Program} {e : Env} {s : State} {m : MethodId} {below : List Frame} {meth : Method} {c : Code} (l : Launch) (hflags : l.flags = flags0) {b L : Nat} {xs : Nat → Int32} (hL : L ≤ 3072) (C0 : lw_At p s m meth c b L xs) : W p l e room_1 s m #[Value.ref b] below meth c s.heap [] 0 0 (lw_Z below #[Value.ref b] s) (entryFrame m ([Value.ref b] : List Value).toArray 4) := by
  obtain ⟨hx, hb, hr, hml, hown, hts, hX, hbl, hlocks, hgv, hname⟩ := C0
  have htb : ∀ q ∈ m_tb, q.before #[Value.ref b] s = true := fun q hq => hts q (List.mem_filter.mp hq).1
  have hk0 : ∀ k : Nat, ∃ r : ClassId × (Nat → Nat), ∀ q : vw_C, m_cl[k]? = some q → u_Kn s q.1 q.2.1 q.2.2 r.1 r.2 := by
    intro k
    cases hq : m_cl[k]? with
    | none => exact ⟨(0, fun _ => 0), fun q h => by cases h⟩
    | some q =>
      obtain ⟨cC, iS, h⟩ := x_known htb k q hq
      exact ⟨(cC, iS), fun q' h' => by cases h'; exact h⟩
  obtain ⟨ad, had⟩ := Classical.axiomOfChoice hk0
  obtain ⟨ca, hca⟩ := Classical.axiomOfChoice (x_arr hts)
  obtain ⟨sa, hsa⟩ := Classical.axiomOfChoice (x_str (A := fun q => s.heap.size ≤ q) hgv (fun a h => Nat.not_le.mpr h))
  let w : mW := (s.heap.size, s.heap, (fun k => (ad k).1, fun k => (ad k).2), ca, fun j => (sa j).1, fun j => (sa j).2)
  have hw1 : w.1 = s.heap.size := rfl
  have hfl : ∀ q ∈ x_fl, q.before #[Value.ref b] s = true := flat_of_before _ hgv
  have hA : ∀ a : Nat, a < s.heap.size → ¬ m_A w a := fun a h => Nat.not_le.mpr h
  have hKw : m_K w s := by
    refine ⟨⟨fun k q hq => had k q hq, fun t q hq => ?_⟩, rfl, ⟨fun q hq => ?_, fun C hC => ?_⟩, fun q hq => ?_, fun j hj => ?_, ?_, ?_⟩
    · have ht : t < 8 := by
        have := (List.getElem?_eq_some_iff.mp hq).1
        simpa [m_tys] using this
      rw [m_tys_at ht] at hq
      cases hq
      exact hca t ht
    · have h4 : ∀ q ∈ m_nw, Cond.methodLinkNest q.1 q.2.1 q.2.2.1 q.2.2.2 ∈ lw_tbl := by
        intro q hq
        simp only [m_nw, List.mem_cons, List.not_mem_nil, or_false] at hq
        rcases hq with rfl | rfl | rfl | rfl
        · exact x_nw0
        · exact x_nw1
        · exact x_nw2
        · exact x_nw3
      exact va_Nw.of rfl (hts _ (h4 q hq))
    · have h4 : ∀ C ∈ m_ao, Cond.arrayOver (.object C) ∈ lw_tbl := by
        intro C hC
        simp only [m_ao, List.mem_cons, List.not_mem_nil, or_false] at hC
        rcases hC with rfl | rfl | rfl | rfl
        · exact x_ao0
        · exact x_ao1
        · exact x_ao2
        · exact x_ao3
      exact va_AO.of (hts _ (h4 C hC))
    · obtain ⟨hj, h7⟩ := x_s7 q hq
      have h8 := hts _ (x_s8 q hq)
      obtain ⟨e1, e2, -⟩ := hsa q.2.2 hj
      rcases h7 with ⟨g1, g2⟩ | ⟨g1, g2⟩
      · rw [g1, g2] at h8 ⊢
        exact vk_R.of h8 e1
      · rw [g1, g2] at h8 ⊢
        exact vk_R.of h8 e2
    · exact (hsa j hj).2.2
    · exact va_Zof (hts _ x_ls0) (htb _ w_in_JS) (va_eqt (hfl _ x_s9)) hA
    · exact va_Zqof (hts _ x_ls1) (htb _ w_in_JP) (hfl _ x_s10) hA
  have C : m_Cx w (k_L b L xs) 27 p room_1 s m #[Value.ref b] meth c := ⟨hx, hb, hml, hown, htb, hr, hlocks, hname, hKw, by decide, by decide, hX, hbl⟩
  obtain ⟨μ', hmain⟩ := m_main b L xs hL
  have hH0 : m_H w m_mu0 s.heap := ⟨fun k q hq => by simp [m_WS, m_mu0] at hq, rfl⟩
  have hS0 : va_S (m_A w) w.2.1 s.heap [] := va_S.rf
  have hw := (sd_L_law b L xs).2 w p l e room_1 s m #[Value.ref b] below meth c 0 0 (lw_Z below #[Value.ref b] s) C (by decide) (by decide) m_mu0 1 μ' hmain (by
    intro hro H locs ls pc b1 b2 hd
    refine va_forget (fun q hq => b2.2.2 q hq) ?_
    refine W.widen (k := 600000) (n := 7302250) (by decide) (by decide) ?_
    exact lw_ret hx hb hr hlocks hd)
  rw [lg_entry_eq]
  have hl := lv_entry ([Value.ref b] : List Value) (n := 4) (Nat.le_of_ble_eq_true rfl)
  exact hw s.heap [] _ hH0 hS0 hl

set_option maxHeartbeats 4000000 in
theorem lw_walk (l : Launch) (hflags : l.flags = flags0) (b : Addr) (xs : List Int32) : MetFree l x (headSpec (Jvm.Cond.code x code maxLocals ret :: tables_1) room_1) (lw_P b xs) (fun _ _ _ _ _ => True) lw_Q := by
  refine MetFree.of_bodyS (code := code) (maxLocals := maxLocals) (ret := ret) (by decide) ?_ ?_
  · intro args s m h hn
    obtain ⟨meth, c, h1, h2, h3, h4, h5, h6, -, -⟩ := Cond.code_spec hn (atoms_spec (ws := Jvm.Cond.code x code maxLocals ret :: tables_1) h _ List.mem_cons_self)
    exact ⟨meth, c, h1, h2, h3, h4, h5, h6⟩
  · intro p e s m args below meth c s₁ B hml0 hP _
    obtain ⟨rfl, hx, hbd, hgv⟩ := hP
    obtain ⟨scr, harrAt, hlist, hof, hsmall⟩ := hx
    obtain ⟨hcb, hkn, -, -⟩ := State.arrayAt?_spec harrAt
    have hown : s.vm.findClass R_law = some m.cls := findClass_of_methodNamed B.named
    have hts0 : ∀ c ∈ (Jvm.Cond.code x code maxLocals ret :: tables_1), c.before #[Value.ref b] s = true := atoms_spec (ws := Jvm.Cond.code x code maxLocals ret :: tables_1) B.pre
    have hts : ∀ w ∈ lw_tbl, w.before #[Value.ref b] s = true := k2_hts_sels lw_privs (fun w hw => hts0 w (List.mem_cons_of_mem _ hw)) lw_privs_ok
    have hml : c.maxLocals = 4 := B.maxLocals_eq (hts0 _ List.mem_cons_self)
    have X₀ : Stand p l e room_1 s m #[Value.ref b] below meth c s₁ [] 0 0 := Stand.of_body B
    have hh0 : s₁.heap = s.heap := by rw [B.state]; rfl
    have hsz : scr.slots.size = xs.length := by rw [← Array.length_toList, hlist, List.length_map]
    have hval : ∀ j : Nat, j < xs.length → scr.slots[j]? = some (.int (xs.getD j 0)) := fun j hj => by
      rw [← Array.getElem?_toList, hlist]
      simp [hj]
    have hbl : b < s.heap.size := (Array.getElem?_eq_some_iff.mp hcb).1
    have hX : va_X b xs.length (fun j => xs.getD j 0) s s.heap := ⟨scr, hcb, hof, hkn, hsz, hval⟩
    have K : W p l e room_1 s m #[Value.ref b] below meth c s₁.heap [] 0 0 (lw_Z below #[Value.ref b] s) (entryFrame m ([Value.ref b] : List Value).toArray 4) := by
      rw [hh0]
      exact whole_start l hflags hbd ⟨B.exec, B.bytes, B.returns, hml, hown, hts, hX, hbl, B.notSynchronized, hgv, (name_of_methodNamed B.named B.method).1⟩
    obtain ⟨t, a1, o, b1, b2, b3⟩ := K s₁ rfl X₀
    exact ⟨t, o, a1, b1, b2, b3⟩
theorem lw_pre_spec {args : Array Value} {s : State} (h : (Jvm.Cond.and given_1 narrow_1).before args s = true) (hr : rest_1_c.before args s = true) : ∃ (b : Addr) (xs : List Int32), lw_P b xs args s := by
  have hs := flat_of_before _ h
  have hq := flat_of_before _ hr
  have hc : (Cond.count 1).before args s = true := hs _ (by decide +kernel)
  have harr : (Cond.arrayOf (.arg 0) .int).before args s = true := hs _ (by decide +kernel)
  have hle : (Cond.le (.length (.arg 0)) (.int 3072)).before args s = true := hs _ (by decide +kernel)
  have hlen : (Cond.isInt (.length (.arg 0))).before args s = true := hq _ (by decide +kernel)
  have hall : (Cond.all (.arg 0) (.isInt (.elem (.arg 0) (.index 0)))).before args s = true := hq _ (by decide +kernel)
  obtain ⟨b, xs, hb, hx⟩ := State.ints_of_pre rfl harr hlen hall
  have hsm : xs.length < 2 ^ 31 := hx.choose_spec.2.2.2
  have hev : (Term.length (.arg 0)).eval args s none [] s = some (.int xs.length.toInt32) := hx.length_eval hb
  have hv := Cond.le_ints hev (show (Term.int 3072).eval args s none [] s = some (.int 3072) from rfl)
  have hd : xs.length.toInt32 ≤ 3072 := by
    simpa [Cond.before, Cond.holds, hv] using hle
  have hN : xs.length ≤ 3072 := (Int32.ofNat_le_ofNat hsm (by decide)).mp (show Int32.ofNat xs.length ≤ Int32.ofNat 3072 from hd)
  exact ⟨b, xs, Cond.one_arg hc (show args[0]? = some (.ref b) from hb), hx, hN, h⟩
theorem lw_comes (l : Launch) (hflags : l.flags = flags0) : Comes l x (Jvm.Cond.code x code maxLocals ret :: tables_1) room_1 (fun tb e args s => Calls_1 tb e args s ∧ rest_1 tb e args s ∧ Pre_1 tb e args s)
    (fun _ _ args s o t => lw_Q args s o t) := by
  intro p e ha hc hk s m args below hf hfit hheap happ hpre
  obtain ⟨b, xs, hP⟩ := lw_pre_spec hpre.2.2 hpre.2.1
  obtain ⟨k, o, h1, h2, h3, hQ⟩ := lw_walk l hflags b xs p e ha hc hk s m args below hf ((Spec.applies_iff_loose hf).mp happ).1 hP trivial
  exact ⟨k, o, h1, h2, h3, hQ⟩
theorem lw_frame {s t : State} {o : Outcome} {args : Array Value} (h : Framed s o t [] 600000 7302250) :
    Framed s o t (fieldLocs frame_1_writes args s ++ arrayLocs frame_1_arrays args s ++ staticLocs frame_1_statics s) 600000 7302250 := h
theorem lw_limb (L : Cond) (hL : ∀ (args : Array Value) (s t : State), L.after args s (.returned (some (.int 1))) t = true) :
    ArmFor flags0 classFile x code maxLocals ret World_1 tables_1 room_1 Calls_1 rest_1 Pre_1
      (fun tb e a s o t => postC L tb e a s o t ∧ Framed s o t (fieldLocs frame_1_writes a s ++ arrayLocs frame_1_arrays a s ++ staticLocs frame_1_statics s) 600000 7302250) := by
  intro l hflags _ _ p e ha hc hk s m args below hf hfit hheap happ hpre
  obtain ⟨k, o, h1, h2, h3, rfl, hF⟩ := lw_comes l hflags p e ha hc hk s m args below hf hfit hheap happ hpre
  exact ⟨k, _, h1, h2, h3, hL args s _, lw_frame hF⟩
theorem i_vc : Claimed_1_1 ∧ Claimed_1_2 := ⟨lw_limb limb_1_1 (fun args s t => by simp [limb_1_1, Cond.after, Cond.holds, Cond.value]), lw_limb limb_1_2 (fun args s t => Cond.after_iff.mpr (by
  first | (rw [show limb_1_2 = Cond.eq .result (.int 1) from rfl, Cond.eq_ints (x := 1) (y := 1) rfl rfl]; simp; done) | (simp [limb_1_2, Cond.value, Term.eval]; done)))⟩

