/-! Part 07, laid by wip/whole/gen.py: words of the tables, methods, calls by what they give -/
theorem m_t1 {q : Cond} (h : q ∈ tables_1_1) : q ∈ tables_1 := List.mem_append_left _ h
theorem m_t2 {q : Cond} (h : q ∈ tables_1_2) : q ∈ tables_1 := List.mem_append_right _ (List.mem_append_left _ h)
theorem m_t3 {q : Cond} (h : q ∈ tables_1_3) : q ∈ tables_1 := List.mem_append_right _ (List.mem_append_right _ (List.mem_append_left _ h))
theorem m_t4 {q : Cond} (h : q ∈ tables_1_4) : q ∈ tables_1 := List.mem_append_right _ (List.mem_append_right _ (List.mem_append_right _ (List.mem_append_left _ h)))
theorem m_t5 {q : Cond} (h : q ∈ tables_1_5) : q ∈ tables_1 := List.mem_append_right _ (List.mem_append_right _ (List.mem_append_right _ (List.mem_append_right _ (List.mem_append_left _ h))))
theorem m_t6 {q : Cond} (h : q ∈ tables_1_6) : q ∈ tables_1 := List.mem_append_right _ (List.mem_append_right _ (List.mem_append_right _ (List.mem_append_right _ (List.mem_append_right _ (List.mem_append_left _ h)))))
theorem m_t7 {q : Cond} (h : q ∈ tables_1_7) : q ∈ tables_1 := List.mem_append_right _ (List.mem_append_right _ (List.mem_append_right _ (List.mem_append_right _ (List.mem_append_right _ (List.mem_append_right _ (List.mem_append_left _ h))))))
theorem m_t8 {q : Cond} (h : q ∈ tables_1_8) : q ∈ tables_1 := List.mem_append_right _ (List.mem_append_right _ (List.mem_append_right _ (List.mem_append_right _ (List.mem_append_right _ (List.mem_append_right _ (List.mem_append_right _ (List.mem_append_left _ h)))))))
theorem m_t9 {q : Cond} (h : q ∈ tables_1_9) : q ∈ tables_1 := List.mem_append_right _ (List.mem_append_right _ (List.mem_append_right _ (List.mem_append_right _ (List.mem_append_right _ (List.mem_append_right _ (List.mem_append_right _ (List.mem_append_right _ (List.mem_append_left _ h))))))))
theorem m_t10 {q : Cond} (h : q ∈ tables_1_10) : q ∈ tables_1 := List.mem_append_right _ (List.mem_append_right _ (List.mem_append_right _ (List.mem_append_right _ (List.mem_append_right _ (List.mem_append_right _ (List.mem_append_right _ (List.mem_append_right _ (List.mem_append_right _ (h)))))))))
theorem m_in {q : Cond} (h : q ∈ tables_1) (hg : goodWord q = true) : q ∈ m_tb := List.mem_filter.mpr ⟨List.mem_append_right _ h, hg⟩
theorem m_inS {q : Cond} (h : q ∈ k2_sels lw_privs) (hg : goodWord q = true) : q ∈ m_tb := List.mem_filter.mpr ⟨List.mem_append_left _ h, hg⟩
def m_F : Nat := 5000
def iMax (x y : Int32) : Int32 := if x < y then y else x
def iMin (x y : Int32) : Int32 := if y < x then y else x
def jMax (x y : Int64) : Int64 := if y < x then x else y
def jAbs (x : Int64) : Int64 := if 0 < x then x else -x
abbrev iR (x y : Int32) : Int32 := x - x / y * y
abbrev jR (x y : Int64) : Int64 := x - x / y * y
abbrev iU (x y : Int32) : Int32 := (x.toUInt32 >>> (y.toUInt32 &&& Int32.toUInt32 31)).toInt32
def m_Lv {β : Type} (ci : Nat) (x : Option mA) (T : mP β) : Prop := ∀ μ r, T μ = some r → ∃ y, m_oo μ ci x = some y
theorem m_lv {β : Type} {ci : Nat} {x : Option mA} {Tc : mP β} : m_Lv ci x (m_th ci x Tc) := fun μ r h => by
  unfold m_th at h
  split at h
  next => cases h
  next y hy => exact ⟨y, hy⟩
theorem m_lv0 {β : Type} {ci : Nat} {x : Option mA} : m_Lv ci x (m_fl : mP β) := fun μ r h => by cases h
theorem sm_fl {k : mKt} {d mc ms : Nat} {cf : mC} {α : Type} {post : α → mC} : m_Sim k d mc ms cf (m_fl : mP α) post := by
  intro w p l e R s m args below meth c cells slots Q C hc hs μ a μ' hT hk
  cases hT
theorem m_Sm_mono {k : mKt} {d d' mc ms : Nat} {av : List mV} {α : Type} {T : mP α} {rv : α → Option mV} (h : d ≤ d') (H : m_Sm k d mc ms av T rv) : m_Sm k d' mc ms av T rv := by
  refine ⟨H.1, fun w p l e R s m args below meth c cells slots Q C hc hs μ a μ' hT hk => H.2 w p l e R s m args below meth c cells slots Q ?_ hc hs μ a μ' hT hk⟩
  obtain ⟨hx, hb, hml, hown, hts, hr, hlk, hnm, hK, hf, hlo, hga⟩ := C
  exact ⟨hx, hb, hml, hown, hts, hr, hlk, hnm, hK, by omega, by omega, hga⟩
def m_lk (x : Option mA) (n : Nat) : mP Unit := fun μ => match m_ln x μ with
  | some r => if r.1 = Int32.ofNat n then some ((), μ) else none
  | none => none
theorem sm_alenK {k : mKt} {d mc ms : Nat} {α : Type} {pc pc' : Nat} {L : List (Nat × mV)} {st : List mV} {post : α → mC} {x : Option mA} {v : Nat} {f : Unit → mP α} (hd : m_D k pc .arraylength 1) (hp : pc + 1 = pc') (h : m_Sim k d mc ms (.inl (pc', L, .inl (Int32.ofNat v) :: st)) (f ()) post) : m_Sim k d mc ms (.inl (pc, L, .inr (.inr x) :: st)) (m_bd (m_lk x v) f) post := by
  intro w p l e R s m args below meth c cells slots Q C hc hs μ a μ' hT hk
  obtain ⟨u, μ1, e1, e2⟩ := m_bd_some hT
  unfold m_lk at e1
  split at e1
  next r hr =>
    split at e1
    next hv =>
      cases e1
      have hr2 : m_ln x μ = some (Int32.ofNat v, μ) := by
        rw [hr]
        have : r.2 = μ := by
          unfold m_ln at hr
          split at hr
          next => cases hr
          next =>
            split at hr
            next =>
              split at hr
              next => cases hr; rfl
              next => cases hr
            next => cases hr
        rw [← this, ← hv]
      refine sm_alen (f := fun z => if z = Int32.ofNat v then f () else m_fl) hd hp (fun z => ?_) w p l e R s m args below meth c cells slots Q C hc hs μ a μ' ?_ hk
      · refine sm_ite (fun hz => ?_) (fun _ => sm_fl)
        rw [hz]
        exact h
      · unfold m_bd
        rw [hr2]
        simp only [if_pos]
        exact e2
    next => cases e1
  next => cases e1
theorem sm_callVv {k : mKt} {d mc ms : Nat} {α : Type} {pc pc' : Nat} {L : List (Nat × mV)} {st S : List mV} {post : α → mC} {kc : mKt} {dc mcc msc n idx ci mc' ms' : Nat} {av : List mV} {x : Option mA} {T : mP Unit} {f : Unit → mP α} (hd : m_D k pc (.invokevirtual idx) 3) (hp : pc + 3 = pc') (hM : m_Sm kc dc mcc msc (.inr (.inr x) :: av) T (fun _ => none)) (hth : m_Lv ci x T) (hci : m_cl[ci]?.map (fun q => q.1) = some kc.1.cls) (hB : m_CV kc n) (hl : Cond.methodLink k.1.cls idx kc.1 ∈ m_tb) (hS : S = av.reverse ++ .inr (.inr x) :: st) (hn : av.length = n) (hdd : dc + 1 ≤ d) (hw : m_wd st ≤ 8) (h1 : mcc + mc = mc') (h2 : msc + ms = ms') (h : m_Sim k d mc ms (.inl (pc', L, st)) (f ()) post) : m_Sim k d mc' ms' (.inl (pc, L, S)) (m_bd T f) post :=
  sm_callV hd hp hM hth hci hB hl hS hn hdd hw h1 h2 (fun _ => h)
theorem sm_callSv {k : mKt} {d mc ms : Nat} {α : Type} {pc pc' : Nat} {L : List (Nat × mV)} {st S : List mV} {post : α → mC} {kc : mKt} {dc mcc msc n idx mc' ms' : Nat} {av : List mV} {T : mP Unit} {f : Unit → mP α} (hd : m_D k pc (.invokestatic idx) 3) (hp : pc + 3 = pc') (hM : m_Sm kc dc mcc msc av T (fun _ => none)) (hB : m_CS kc n) (hl : Cond.methodLink k.1.cls idx kc.1 ∈ m_tb) (hS : S = av.reverse ++ st) (hn : av.length = n) (hdd : dc + 1 ≤ d) (hw : m_wd st ≤ 8) (h1 : mcc + mc = mc') (h2 : msc + ms = ms') (h : m_Sim k d mc ms (.inl (pc', L, st)) (f ()) post) : m_Sim k d mc' ms' (.inl (pc, L, S)) (m_bd T f) post :=
  sm_callS hd hp hM hB hl hS hn hdd hw h1 h2 (fun _ => h)
theorem sm_callNv {k : mKt} {d mc ms : Nat} {α : Type} {pc pc' : Nat} {L : List (Nat × mV)} {st S : List mV} {post : α → mC} {kc : mKt} {dc mcc msc n idx mc' ms' : Nat} {av : List mV} {host : String} {T : mP Unit} {f : Unit → mP α} (hd : m_D k pc (.invokestatic idx) 3) (hp : pc + 3 = pc') (hM : m_Sm kc dc mcc msc av T (fun _ => none)) (hB : m_CS kc n) (hl : (k.1.cls, idx, kc.1, host) ∈ m_nw) (hS : S = av.reverse ++ st) (hn : av.length = n) (hdd : dc + 1 ≤ d) (hw : m_wd st ≤ 8) (h1 : mcc + mc = mc') (h2 : msc + ms = ms') (h : m_Sim k d mc ms (.inl (pc', L, st)) (f ()) post) : m_Sim k d mc' ms' (.inl (pc, L, S)) (m_bd T f) post :=
  sm_callSN hd hp hM hB hl hS hn hdd hw h1 h2 (fun _ => h)
theorem sm_callVi {k : mKt} {d mc ms : Nat} {α : Type} {pc pc' : Nat} {L : List (Nat × mV)} {st S : List mV} {post : α → mC} {kc : mKt} {dc mcc msc n idx ci mc' ms' : Nat} {av : List mV} {x : Option mA} {T : mP (Int32)} {f : (Int32) → mP α} (hd : m_D k pc (.invokevirtual idx) 3) (hp : pc + 3 = pc') (hM : m_Sm kc dc mcc msc (.inr (.inr x) :: av) T (fun b => some (.inl b))) (hth : m_Lv ci x T) (hci : m_cl[ci]?.map (fun q => q.1) = some kc.1.cls) (hB : m_CV kc n) (hl : Cond.methodLink k.1.cls idx kc.1 ∈ m_tb) (hS : S = av.reverse ++ .inr (.inr x) :: st) (hn : av.length = n) (hdd : dc + 1 ≤ d) (hw : m_wd st ≤ 8) (h1 : mcc + mc = mc') (h2 : msc + ms = ms') (h : ∀ b, m_Sim k d mc ms (.inl (pc', L, .inl b :: st)) (f b) post) : m_Sim k d mc' ms' (.inl (pc, L, S)) (m_bd T f) post :=
  sm_callV hd hp hM hth hci hB hl hS hn hdd hw h1 h2 h
theorem sm_callSi {k : mKt} {d mc ms : Nat} {α : Type} {pc pc' : Nat} {L : List (Nat × mV)} {st S : List mV} {post : α → mC} {kc : mKt} {dc mcc msc n idx mc' ms' : Nat} {av : List mV} {T : mP (Int32)} {f : (Int32) → mP α} (hd : m_D k pc (.invokestatic idx) 3) (hp : pc + 3 = pc') (hM : m_Sm kc dc mcc msc av T (fun b => some (.inl b))) (hB : m_CS kc n) (hl : Cond.methodLink k.1.cls idx kc.1 ∈ m_tb) (hS : S = av.reverse ++ st) (hn : av.length = n) (hdd : dc + 1 ≤ d) (hw : m_wd st ≤ 8) (h1 : mcc + mc = mc') (h2 : msc + ms = ms') (h : ∀ b, m_Sim k d mc ms (.inl (pc', L, .inl b :: st)) (f b) post) : m_Sim k d mc' ms' (.inl (pc, L, S)) (m_bd T f) post :=
  sm_callS hd hp hM hB hl hS hn hdd hw h1 h2 h
theorem sm_callNi {k : mKt} {d mc ms : Nat} {α : Type} {pc pc' : Nat} {L : List (Nat × mV)} {st S : List mV} {post : α → mC} {kc : mKt} {dc mcc msc n idx mc' ms' : Nat} {av : List mV} {host : String} {T : mP (Int32)} {f : (Int32) → mP α} (hd : m_D k pc (.invokestatic idx) 3) (hp : pc + 3 = pc') (hM : m_Sm kc dc mcc msc av T (fun b => some (.inl b))) (hB : m_CS kc n) (hl : (k.1.cls, idx, kc.1, host) ∈ m_nw) (hS : S = av.reverse ++ st) (hn : av.length = n) (hdd : dc + 1 ≤ d) (hw : m_wd st ≤ 8) (h1 : mcc + mc = mc') (h2 : msc + ms = ms') (h : ∀ b, m_Sim k d mc ms (.inl (pc', L, .inl b :: st)) (f b) post) : m_Sim k d mc' ms' (.inl (pc, L, S)) (m_bd T f) post :=
  sm_callSN hd hp hM hB hl hS hn hdd hw h1 h2 h
theorem sm_callVj {k : mKt} {d mc ms : Nat} {α : Type} {pc pc' : Nat} {L : List (Nat × mV)} {st S : List mV} {post : α → mC} {kc : mKt} {dc mcc msc n idx ci mc' ms' : Nat} {av : List mV} {x : Option mA} {T : mP (Int64)} {f : (Int64) → mP α} (hd : m_D k pc (.invokevirtual idx) 3) (hp : pc + 3 = pc') (hM : m_Sm kc dc mcc msc (.inr (.inr x) :: av) T (fun b => some (.inr (.inl b)))) (hth : m_Lv ci x T) (hci : m_cl[ci]?.map (fun q => q.1) = some kc.1.cls) (hB : m_CV kc n) (hl : Cond.methodLink k.1.cls idx kc.1 ∈ m_tb) (hS : S = av.reverse ++ .inr (.inr x) :: st) (hn : av.length = n) (hdd : dc + 1 ≤ d) (hw : m_wd st ≤ 8) (h1 : mcc + mc = mc') (h2 : msc + ms = ms') (h : ∀ b, m_Sim k d mc ms (.inl (pc', L, .inr (.inl b) :: st)) (f b) post) : m_Sim k d mc' ms' (.inl (pc, L, S)) (m_bd T f) post :=
  sm_callV hd hp hM hth hci hB hl hS hn hdd hw h1 h2 h
theorem sm_callSj {k : mKt} {d mc ms : Nat} {α : Type} {pc pc' : Nat} {L : List (Nat × mV)} {st S : List mV} {post : α → mC} {kc : mKt} {dc mcc msc n idx mc' ms' : Nat} {av : List mV} {T : mP (Int64)} {f : (Int64) → mP α} (hd : m_D k pc (.invokestatic idx) 3) (hp : pc + 3 = pc') (hM : m_Sm kc dc mcc msc av T (fun b => some (.inr (.inl b)))) (hB : m_CS kc n) (hl : Cond.methodLink k.1.cls idx kc.1 ∈ m_tb) (hS : S = av.reverse ++ st) (hn : av.length = n) (hdd : dc + 1 ≤ d) (hw : m_wd st ≤ 8) (h1 : mcc + mc = mc') (h2 : msc + ms = ms') (h : ∀ b, m_Sim k d mc ms (.inl (pc', L, .inr (.inl b) :: st)) (f b) post) : m_Sim k d mc' ms' (.inl (pc, L, S)) (m_bd T f) post :=
  sm_callS hd hp hM hB hl hS hn hdd hw h1 h2 h
theorem sm_callNj {k : mKt} {d mc ms : Nat} {α : Type} {pc pc' : Nat} {L : List (Nat × mV)} {st S : List mV} {post : α → mC} {kc : mKt} {dc mcc msc n idx mc' ms' : Nat} {av : List mV} {host : String} {T : mP (Int64)} {f : (Int64) → mP α} (hd : m_D k pc (.invokestatic idx) 3) (hp : pc + 3 = pc') (hM : m_Sm kc dc mcc msc av T (fun b => some (.inr (.inl b)))) (hB : m_CS kc n) (hl : (k.1.cls, idx, kc.1, host) ∈ m_nw) (hS : S = av.reverse ++ st) (hn : av.length = n) (hdd : dc + 1 ≤ d) (hw : m_wd st ≤ 8) (h1 : mcc + mc = mc') (h2 : msc + ms = ms') (h : ∀ b, m_Sim k d mc ms (.inl (pc', L, .inr (.inl b) :: st)) (f b) post) : m_Sim k d mc' ms' (.inl (pc, L, S)) (m_bd T f) post :=
  sm_callSN hd hp hM hB hl hS hn hdd hw h1 h2 h
theorem sm_callVr {k : mKt} {d mc ms : Nat} {α : Type} {pc pc' : Nat} {L : List (Nat × mV)} {st S : List mV} {post : α → mC} {kc : mKt} {dc mcc msc n idx ci mc' ms' : Nat} {av : List mV} {x : Option mA} {T : mP (Option mA)} {f : (Option mA) → mP α} (hd : m_D k pc (.invokevirtual idx) 3) (hp : pc + 3 = pc') (hM : m_Sm kc dc mcc msc (.inr (.inr x) :: av) T (fun b => some (.inr (.inr b)))) (hth : m_Lv ci x T) (hci : m_cl[ci]?.map (fun q => q.1) = some kc.1.cls) (hB : m_CV kc n) (hl : Cond.methodLink k.1.cls idx kc.1 ∈ m_tb) (hS : S = av.reverse ++ .inr (.inr x) :: st) (hn : av.length = n) (hdd : dc + 1 ≤ d) (hw : m_wd st ≤ 8) (h1 : mcc + mc = mc') (h2 : msc + ms = ms') (h : ∀ b, m_Sim k d mc ms (.inl (pc', L, .inr (.inr b) :: st)) (f b) post) : m_Sim k d mc' ms' (.inl (pc, L, S)) (m_bd T f) post :=
  sm_callV hd hp hM hth hci hB hl hS hn hdd hw h1 h2 h
theorem sm_callSr {k : mKt} {d mc ms : Nat} {α : Type} {pc pc' : Nat} {L : List (Nat × mV)} {st S : List mV} {post : α → mC} {kc : mKt} {dc mcc msc n idx mc' ms' : Nat} {av : List mV} {T : mP (Option mA)} {f : (Option mA) → mP α} (hd : m_D k pc (.invokestatic idx) 3) (hp : pc + 3 = pc') (hM : m_Sm kc dc mcc msc av T (fun b => some (.inr (.inr b)))) (hB : m_CS kc n) (hl : Cond.methodLink k.1.cls idx kc.1 ∈ m_tb) (hS : S = av.reverse ++ st) (hn : av.length = n) (hdd : dc + 1 ≤ d) (hw : m_wd st ≤ 8) (h1 : mcc + mc = mc') (h2 : msc + ms = ms') (h : ∀ b, m_Sim k d mc ms (.inl (pc', L, .inr (.inr b) :: st)) (f b) post) : m_Sim k d mc' ms' (.inl (pc, L, S)) (m_bd T f) post :=
  sm_callS hd hp hM hB hl hS hn hdd hw h1 h2 h
theorem sm_callNr {k : mKt} {d mc ms : Nat} {α : Type} {pc pc' : Nat} {L : List (Nat × mV)} {st S : List mV} {post : α → mC} {kc : mKt} {dc mcc msc n idx mc' ms' : Nat} {av : List mV} {host : String} {T : mP (Option mA)} {f : (Option mA) → mP α} (hd : m_D k pc (.invokestatic idx) 3) (hp : pc + 3 = pc') (hM : m_Sm kc dc mcc msc av T (fun b => some (.inr (.inr b)))) (hB : m_CS kc n) (hl : (k.1.cls, idx, kc.1, host) ∈ m_nw) (hS : S = av.reverse ++ st) (hn : av.length = n) (hdd : dc + 1 ≤ d) (hw : m_wd st ≤ 8) (h1 : mcc + mc = mc') (h2 : msc + ms = ms') (h : ∀ b, m_Sim k d mc ms (.inl (pc', L, .inr (.inr b) :: st)) (f b) post) : m_Sim k d mc' ms' (.inl (pc, L, S)) (m_bd T f) post :=
  sm_callSN hd hp hM hB hl hS hn hdd hw h1 h2 h
theorem ib_m2 : (Int8.ofInt (-2)).toInt32 = (-2) := by decide
theorem ib_6 : (Int8.ofInt 6).toInt32 = 6 := by decide
theorem ib_7 : (Int8.ofInt 7).toInt32 = 7 := by decide
theorem ib_8 : (Int8.ofInt 8).toInt32 = 8 := by decide
theorem ib_9 : (Int8.ofInt 9).toInt32 = 9 := by decide
theorem ib_10 : (Int8.ofInt 10).toInt32 = 10 := by decide
theorem ib_11 : (Int8.ofInt 11).toInt32 = 11 := by decide
theorem ib_12 : (Int8.ofInt 12).toInt32 = 12 := by decide
theorem ib_13 : (Int8.ofInt 13).toInt32 = 13 := by decide
theorem ib_14 : (Int8.ofInt 14).toInt32 = 14 := by decide
theorem ib_16 : (Int8.ofInt 16).toInt32 = 16 := by decide
theorem ib_18 : (Int8.ofInt 18).toInt32 = 18 := by decide
theorem ib_19 : (Int8.ofInt 19).toInt32 = 19 := by decide
theorem ib_20 : (Int8.ofInt 20).toInt32 = 20 := by decide
theorem ib_24 : (Int8.ofInt 24).toInt32 = 24 := by decide
theorem ib_25 : (Int8.ofInt 25).toInt32 = 25 := by decide
theorem ib_30 : (Int8.ofInt 30).toInt32 = 30 := by decide
theorem ib_32 : (Int8.ofInt 32).toInt32 = 32 := by decide
theorem ib_33 : (Int8.ofInt 33).toInt32 = 33 := by decide
theorem ib_40 : (Int8.ofInt 40).toInt32 = 40 := by decide
theorem ib_41 : (Int8.ofInt 41).toInt32 = 41 := by decide
theorem ib_48 : (Int8.ofInt 48).toInt32 = 48 := by decide
theorem ib_49 : (Int8.ofInt 49).toInt32 = 49 := by decide
theorem ib_50 : (Int8.ofInt 50).toInt32 = 50 := by decide
theorem ib_56 : (Int8.ofInt 56).toInt32 = 56 := by decide
theorem ib_57 : (Int8.ofInt 57).toInt32 = 57 := by decide
theorem ib_59 : (Int8.ofInt 59).toInt32 = 59 := by decide
theorem ib_60 : (Int8.ofInt 60).toInt32 = 60 := by decide
theorem ib_61 : (Int8.ofInt 61).toInt32 = 61 := by decide
theorem ib_62 : (Int8.ofInt 62).toInt32 = 62 := by decide
theorem ib_63 : (Int8.ofInt 63).toInt32 = 63 := by decide
theorem ib_70 : (Int8.ofInt 70).toInt32 = 70 := by decide
theorem ib_97 : (Int8.ofInt 97).toInt32 = 97 := by decide
theorem ib_98 : (Int8.ofInt 98).toInt32 = 98 := by decide
theorem ib_99 : (Int8.ofInt 99).toInt32 = 99 := by decide
theorem ib_100 : (Int8.ofInt 100).toInt32 = 100 := by decide
theorem ib_101 : (Int8.ofInt 101).toInt32 = 101 := by decide
theorem ib_102 : (Int8.ofInt 102).toInt32 = 102 := by decide
theorem ib_103 : (Int8.ofInt 103).toInt32 = 103 := by decide
theorem ib_104 : (Int8.ofInt 104).toInt32 = 104 := by decide
theorem ib_105 : (Int8.ofInt 105).toInt32 = 105 := by decide
theorem ib_106 : (Int8.ofInt 106).toInt32 = 106 := by decide
theorem ib_107 : (Int8.ofInt 107).toInt32 = 107 := by decide
theorem ib_108 : (Int8.ofInt 108).toInt32 = 108 := by decide
theorem ib_109 : (Int8.ofInt 109).toInt32 = 109 := by decide
theorem ib_110 : (Int8.ofInt 110).toInt32 = 110 := by decide
theorem ib_111 : (Int8.ofInt 111).toInt32 = 111 := by decide
theorem ib_112 : (Int8.ofInt 112).toInt32 = 112 := by decide
theorem ib_114 : (Int8.ofInt 114).toInt32 = 114 := by decide
theorem ib_115 : (Int8.ofInt 115).toInt32 = 115 := by decide
theorem ib_116 : (Int8.ofInt 116).toInt32 = 116 := by decide
theorem ib_117 : (Int8.ofInt 117).toInt32 = 117 := by decide
theorem ib_118 : (Int8.ofInt 118).toInt32 = 118 := by decide
theorem ib_119 : (Int8.ofInt 119).toInt32 = 119 := by decide
theorem ib_120 : (Int8.ofInt 120).toInt32 = 120 := by decide
theorem ib_121 : (Int8.ofInt 121).toInt32 = 121 := by decide
theorem ib_122 : (Int8.ofInt 122).toInt32 = 122 := by decide
theorem ic_m8 : Int32.ofInt (-8) = (-8) := by decide
theorem ix_m8 (x : Int32) : x + Int32.ofInt (-8) = x + (-8) := by rw [ic_m8]
theorem ic_m1 : Int32.ofInt (-1) = (-1) := by decide
theorem ix_m1 (x : Int32) : x + Int32.ofInt (-1) = x + (-1) := by rw [ic_m1]
theorem ic_0 : Int32.ofInt 0 = 0 := by decide
theorem ix_0 (x : Int32) : x + Int32.ofInt 0 = x + 0 := by rw [ic_0]
theorem ic_1 : Int32.ofInt 1 = 1 := by decide
theorem ix_1 (x : Int32) : x + Int32.ofInt 1 = x + 1 := by rw [ic_1]
theorem ic_2 : Int32.ofInt 2 = 2 := by decide
theorem ix_2 (x : Int32) : x + Int32.ofInt 2 = x + 2 := by rw [ic_2]
theorem ic_3 : Int32.ofInt 3 = 3 := by decide
theorem ix_3 (x : Int32) : x + Int32.ofInt 3 = x + 3 := by rw [ic_3]
theorem ic_4 : Int32.ofInt 4 = 4 := by decide
theorem ix_4 (x : Int32) : x + Int32.ofInt 4 = x + 4 := by rw [ic_4]
theorem ic_5 : Int32.ofInt 5 = 5 := by decide
theorem ix_5 (x : Int32) : x + Int32.ofInt 5 = x + 5 := by rw [ic_5]
theorem is_200 : (Int16.ofInt 200).toInt32 = 200 := by decide
theorem is_201 : (Int16.ofInt 201).toInt32 = 201 := by decide
theorem is_240 : (Int16.ofInt 240).toInt32 = 240 := by decide
theorem is_255 : (Int16.ofInt 255).toInt32 = 255 := by decide
theorem is_256 : (Int16.ofInt 256).toInt32 = 256 := by decide
theorem is_300 : (Int16.ofInt 300).toInt32 = 300 := by decide
theorem is_377 : (Int16.ofInt 377).toInt32 = 377 := by decide
theorem is_525 : (Int16.ofInt 525).toInt32 = 525 := by decide
theorem is_727 : (Int16.ofInt 727).toInt32 = 727 := by decide
theorem is_800 : (Int16.ofInt 800).toInt32 = 800 := by decide
theorem is_900 : (Int16.ofInt 900).toInt32 = 900 := by decide
theorem is_999 : (Int16.ofInt 999).toInt32 = 999 := by decide
theorem is_1508 : (Int16.ofInt 1508).toInt32 = 1508 := by decide
theorem is_1509 : (Int16.ofInt 1509).toInt32 = 1509 := by decide
theorem is_1515 : (Int16.ofInt 1515).toInt32 = 1515 := by decide
theorem is_1521 : (Int16.ofInt 1521).toInt32 = 1521 := by decide
theorem is_1527 : (Int16.ofInt 1527).toInt32 = 1527 := by decide
theorem is_1533 : (Int16.ofInt 1533).toInt32 = 1533 := by decide
theorem is_1541 : (Int16.ofInt 1541).toInt32 = 1541 := by decide
theorem is_1565 : (Int16.ofInt 1565).toInt32 = 1565 := by decide
theorem is_1615 : (Int16.ofInt 1615).toInt32 = 1615 := by decide
theorem is_1885 : (Int16.ofInt 1885).toInt32 = 1885 := by decide
theorem is_2971 : (Int16.ofInt 2971).toInt32 = 2971 := by decide
theorem is_4096 : (Int16.ofInt 4096).toInt32 = 4096 := by decide
theorem is_9999 : (Int16.ofInt 9999).toInt32 = 9999 := by decide
theorem is_10000 : (Int16.ofInt 10000).toInt32 = 10000 := by decide
theorem is_10831 : (Int16.ofInt 10831).toInt32 = 10831 := by decide
theorem w_ac_boolean : Cond.arrayClass Jvm.ClassFile.FieldType.boolean ∈ m_tb := m_in (m_t2 (List.mem_of_getElem? (i := 113) rfl)) rfl
theorem w_ac_byte : Cond.arrayClass Jvm.ClassFile.FieldType.byte ∈ m_tb := m_in (m_t1 (List.mem_of_getElem? (i := 101) rfl)) rfl
theorem w_ac_int : Cond.arrayClass Jvm.ClassFile.FieldType.int ∈ m_tb := m_in (m_t1 (List.mem_of_getElem? (i := 144) rfl)) rfl
theorem w_ac_long : Cond.arrayClass Jvm.ClassFile.FieldType.long ∈ m_tb := m_in (m_t1 (List.mem_of_getElem? (i := 50) rfl)) rfl
theorem w_kl_Ah_9 : Cond.classLink "RustFamily$Ahead" 9 "RustFamily$Thing" ∈ m_tb := m_in (m_t2 (List.mem_of_getElem? (i := 78) rfl)) rfl
theorem w_kl_Fa_24 : Cond.classLink "RustFamily$Family" 24 "RustFamily$Person" ∈ m_tb := m_in (m_t1 (List.mem_of_getElem? (i := 108) rfl)) rfl
theorem w_kl_Fa_31 : Cond.classLink "RustFamily$Family" 31 "RustFamily$Thing" ∈ m_tb := m_in (m_t1 (List.mem_of_getElem? (i := 145) rfl)) rfl
theorem w_kl_Fa_38 : Cond.classLink "RustFamily$Family" 38 "RustFamily$Plan" ∈ m_tb := m_in (m_t1 (List.mem_of_getElem? (i := 183) rfl)) rfl
theorem w_kl_Ga_9 : Cond.classLink "RustFamily$Game" 9 "RustFamily$Thing" ∈ m_tb := m_in (m_t2 (List.mem_of_getElem? (i := 146) rfl)) rfl
theorem w_kl_C_20 : Cond.classLink "RustFamily" 20 "RustFamily$Tray" ∈ m_tb := m_in (m_t1 (List.mem_of_getElem? (i := 30) rfl)) rfl
theorem w_kl_C_27 : Cond.classLink "RustFamily" 27 "RustFamily$Text" ∈ m_tb := m_in (m_t1 (List.mem_of_getElem? (i := 51) rfl)) rfl
theorem w_kl_C_34 : Cond.classLink "RustFamily" 34 "RustFamily$Family" ∈ m_tb := m_in (m_t1 (List.mem_of_getElem? (i := 102) rfl)) rfl
theorem w_kl_C_44 : Cond.classLink "RustFamily" 44 "RustFamily$Plan" ∈ m_tb := m_in (m_t2 (List.mem_of_getElem? (i := 69) rfl)) rfl
theorem w_kl_C_58 : Cond.classLink "RustFamily" 58 "RustFamily$Ahead" ∈ m_tb := m_in (m_t2 (List.mem_of_getElem? (i := 72) rfl)) rfl
theorem w_kl_C_65 : Cond.classLink "RustFamily" 65 "RustFamily$Sight" ∈ m_tb := m_in (m_t2 (List.mem_of_getElem? (i := 97) rfl)) rfl
theorem w_kl_C_72 : Cond.classLink "RustFamily" 72 "RustFamily$Keepers" ∈ m_tb := m_in (m_t2 (List.mem_of_getElem? (i := 114) rfl)) rfl
theorem w_kl_C_79 : Cond.classLink "RustFamily" 79 "RustFamily$Game" ∈ m_tb := m_in (m_t2 (List.mem_of_getElem? (i := 140) rfl)) rfl
theorem w_co_Ah_init : Cond.code ⟨"RustFamily$Ahead", "<init>", "()V"⟩ prog_2_method_1_code 1 (Option.none : Option Jvm.ClassFile.FieldType) ∈ m_tb := m_in (m_t2 (List.mem_of_getElem? (i := 76) rfl)) rfl
theorem w_co_Ah_allRustWithout : Cond.code ⟨"RustFamily$Ahead", "allRustWithout", "(LRustFamily$Family;II)I"⟩ prog_2_method_4_code 6 (Option.some Jvm.ClassFile.FieldType.int) ∈ m_tb := m_in (m_t5 (List.mem_of_getElem? (i := 32) rfl)) rfl
theorem w_co_Ah_fewestJars : Cond.code ⟨"RustFamily$Ahead", "fewestJars", "(LRustFamily$Family;II)I"⟩ prog_2_method_5_code 10 (Option.some Jvm.ClassFile.FieldType.int) ∈ m_tb := m_in (m_t5 (List.mem_of_getElem? (i := 40) rfl)) rfl
theorem w_co_Ah_rustAfter : Cond.code ⟨"RustFamily$Ahead", "rustAfter", "(LRustFamily$Family;II)I"⟩ prog_2_method_3_code 4 (Option.some Jvm.ClassFile.FieldType.int) ∈ m_tb := m_in (m_t4 (List.mem_of_getElem? (i := 226) rfl)) rfl
theorem w_co_Ah_spread : Cond.code ⟨"RustFamily$Ahead", "spread", "(LRustFamily$Family;II)V"⟩ prog_2_method_7_code 5 (Option.none : Option Jvm.ClassFile.FieldType) ∈ m_tb := m_in (m_t6 (List.mem_of_getElem? (i := 23) rfl)) rfl
theorem w_co_Ah_spreadYear : Cond.code ⟨"RustFamily$Ahead", "spreadYear", "(IZ)V"⟩ prog_2_method_8_code 8 (Option.none : Option Jvm.ClassFile.FieldType) ∈ m_tb := m_in (m_t6 (List.mem_of_getElem? (i := 27) rfl)) rfl
theorem w_co_Ah_takeMostSaving : Cond.code ⟨"RustFamily$Ahead", "takeMostSaving", "(I)I"⟩ prog_2_method_6_code 4 (Option.some Jvm.ClassFile.FieldType.int) ∈ m_tb := m_in (m_t5 (List.mem_of_getElem? (i := 46) rfl)) rfl
theorem w_co_Ah_walk : Cond.code ⟨"RustFamily$Ahead", "walk", "(LRustFamily$Family;IIII)I"⟩ prog_2_method_2_code 9 (Option.some Jvm.ClassFile.FieldType.int) ∈ m_tb := m_in (m_t4 (List.mem_of_getElem? (i := 230) rfl)) rfl
theorem w_co_Ah_waysToLast : Cond.code ⟨"RustFamily$Ahead", "waysToLast", "(LRustFamily$Thing;I)I"⟩ prog_2_method_9_code 4 (Option.some Jvm.ClassFile.FieldType.int) ∈ m_tb := m_in (m_t6 (List.mem_of_getElem? (i := 31) rfl)) rfl
theorem w_co_Fa_init : Cond.code ⟨"RustFamily$Family", "<init>", "()V"⟩ prog_3_method_1_code 2 (Option.none : Option Jvm.ClassFile.FieldType) ∈ m_tb := m_in (m_t1 (List.mem_of_getElem? (i := 106) rfl)) rfl
theorem w_co_Fa_addPerson : Cond.code ⟨"RustFamily$Family", "addPerson", "(JIZ)V"⟩ prog_3_method_3_code 6 (Option.none : Option Jvm.ClassFile.FieldType) ∈ m_tb := m_in (m_t3 (List.mem_of_getElem? (i := 209) rfl)) rfl
theorem w_co_Fa_addThing : Cond.code ⟨"RustFamily$Family", "addThing", "(JII)V"⟩ prog_3_method_4_code 6 (Option.none : Option Jvm.ClassFile.FieldType) ∈ m_tb := m_in (m_t3 (List.mem_of_getElem? (i := 222) rfl)) rfl
theorem w_co_Fa_allRust : Cond.code ⟨"RustFamily$Family", "allRust", "()I"⟩ prog_3_method_14_code 3 (Option.some Jvm.ClassFile.FieldType.int) ∈ m_tb := m_in (m_t4 (List.mem_of_getElem? (i := 84) rfl)) rfl
theorem w_co_Fa_copyPeopleAndThings : Cond.code ⟨"RustFamily$Family", "copyPeopleAndThings", "(LRustFamily$Family;)V"⟩ prog_3_method_2_code 3 (Option.none : Option Jvm.ClassFile.FieldType) ∈ m_tb := m_in (m_t6 (List.mem_of_getElem? (i := 116) rfl)) rfl
theorem w_co_Fa_livingSet : Cond.code ⟨"RustFamily$Family", "livingSet", "()I"⟩ prog_3_method_11_code 3 (Option.some Jvm.ClassFile.FieldType.int) ∈ m_tb := m_in (m_t4 (List.mem_of_getElem? (i := 60) rfl)) rfl
theorem w_co_Fa_lovedAhead : Cond.code ⟨"RustFamily$Family", "lovedAhead", "(II)I"⟩ prog_3_method_10_code 3 (Option.some Jvm.ClassFile.FieldType.int) ∈ m_tb := m_in (m_t4 (List.mem_of_getElem? (i := 109) rfl)) rfl
theorem w_co_Fa_lovedBy : Cond.code ⟨"RustFamily$Family", "lovedBy", "(II)I"⟩ prog_3_method_9_code 5 (Option.some Jvm.ClassFile.FieldType.int) ∈ m_tb := m_in (m_t4 (List.mem_of_getElem? (i := 114) rfl)) rfl
theorem w_co_Fa_oiledSet : Cond.code ⟨"RustFamily$Family", "oiledSet", "()I"⟩ prog_3_method_13_code 3 (Option.some Jvm.ClassFile.FieldType.int) ∈ m_tb := m_in (m_t4 (List.mem_of_getElem? (i := 80) rfl)) rfl
theorem w_co_Fa_passYear : Cond.code ⟨"RustFamily$Family", "passYear", "()V"⟩ prog_3_method_16_code 3 (Option.none : Option Jvm.ClassFile.FieldType) ∈ m_tb := m_in (m_t4 (List.mem_of_getElem? (i := 149) rfl)) rfl
theorem w_co_Fa_passYears : Cond.code ⟨"RustFamily$Family", "passYears", "(I)Z"⟩ prog_3_method_15_code 4 (Option.some Jvm.ClassFile.FieldType.boolean) ∈ m_tb := m_in (m_t4 (List.mem_of_getElem? (i := 144) rfl)) rfl
theorem w_co_Fa_personNamed : Cond.code ⟨"RustFamily$Family", "personNamed", "(J)I"⟩ prog_3_method_5_code 4 (Option.some Jvm.ClassFile.FieldType.int) ∈ m_tb := m_in (m_t3 (List.mem_of_getElem? (i := 153) rfl)) rfl
theorem w_co_Fa_showingSet : Cond.code ⟨"RustFamily$Family", "showingSet", "(I)I"⟩ prog_3_method_8_code 4 (Option.some Jvm.ClassFile.FieldType.int) ∈ m_tb := m_in (m_t4 (List.mem_of_getElem? (i := 64) rfl)) rfl
theorem w_co_Fa_showsAhead : Cond.code ⟨"RustFamily$Family", "showsAhead", "(II)Z"⟩ prog_3_method_7_code 5 (Option.some Jvm.ClassFile.FieldType.boolean) ∈ m_tb := m_in (m_t4 (List.mem_of_getElem? (i := 68) rfl)) rfl
theorem w_co_Fa_thingNamed : Cond.code ⟨"RustFamily$Family", "thingNamed", "(J)I"⟩ prog_3_method_6_code 4 (Option.some Jvm.ClassFile.FieldType.int) ∈ m_tb := m_in (m_t3 (List.mem_of_getElem? (i := 157) rfl)) rfl
theorem w_co_Fa_throughSet : Cond.code ⟨"RustFamily$Family", "throughSet", "()I"⟩ prog_3_method_12_code 3 (Option.some Jvm.ClassFile.FieldType.int) ∈ m_tb := m_in (m_t4 (List.mem_of_getElem? (i := 72) rfl)) rfl
theorem w_co_Ga_init : Cond.code ⟨"RustFamily$Game", "<init>", "()V"⟩ prog_4_method_1_code 2 (Option.none : Option Jvm.ClassFile.FieldType) ∈ m_tb := m_in (m_t2 (List.mem_of_getElem? (i := 144) rfl)) rfl
theorem w_co_Ga_bestFrom : Cond.code ⟨"RustFamily$Game", "bestFrom", "(LRustFamily$Family;II)I"⟩ prog_4_method_3_code 8 (Option.some Jvm.ClassFile.FieldType.int) ∈ m_tb := m_in (m_t5 (List.mem_of_getElem? (i := 227) rfl)) rfl
theorem w_co_Ga_canMove : Cond.code ⟨"RustFamily$Game", "canMove", "(II)Z"⟩ prog_4_method_6_code 3 (Option.some Jvm.ClassFile.FieldType.boolean) ∈ m_tb := m_in (m_t5 (List.mem_of_getElem? (i := 231) rfl)) rfl
theorem w_co_Ga_makeMove : Cond.code ⟨"RustFamily$Game", "makeMove", "(LRustFamily$Family;II)V"⟩ prog_4_method_7_code 6 (Option.none : Option Jvm.ClassFile.FieldType) ∈ m_tb := m_in (m_t6 (List.mem_of_getElem? (i := 4) rfl)) rfl
theorem w_co_Ga_otherOf : Cond.code ⟨"RustFamily$Game", "otherOf", "(II)LRustFamily$Thing;"⟩ prog_4_method_5_code 3 (Option.some (Jvm.ClassFile.FieldType.object "RustFamily$Thing")) ∈ m_tb := m_in (m_t5 (List.mem_of_getElem? (i := 235) rfl)) rfl
theorem w_co_Ga_ownOf : Cond.code ⟨"RustFamily$Game", "ownOf", "(II)LRustFamily$Thing;"⟩ prog_4_method_4_code 3 (Option.some (Jvm.ClassFile.FieldType.object "RustFamily$Thing")) ∈ m_tb := m_in (m_t6 (List.mem_of_getElem? (i := 0) rfl)) rfl
theorem w_co_Ga_play : Cond.code ⟨"RustFamily$Game", "play", "(LRustFamily$Family;III)I"⟩ prog_4_method_2_code 6 (Option.some Jvm.ClassFile.FieldType.int) ∈ m_tb := m_in (m_t5 (List.mem_of_getElem? (i := 221) rfl)) rfl
theorem w_co_Ke_init : Cond.code ⟨"RustFamily$Keepers", "<init>", "()V"⟩ prog_5_method_1_code 1 (Option.none : Option Jvm.ClassFile.FieldType) ∈ m_tb := m_in (m_t2 (List.mem_of_getElem? (i := 118) rfl)) rfl
theorem w_co_Ke_askAround : Cond.code ⟨"RustFamily$Keepers", "askAround", "(LRustFamily$Family;I)V"⟩ prog_5_method_9_code 4 (Option.none : Option Jvm.ClassFile.FieldType) ∈ m_tb := m_in (m_t5 (List.mem_of_getElem? (i := 173) rfl)) rfl
theorem w_co_Ke_askFor : Cond.code ⟨"RustFamily$Keepers", "askFor", "(LRustFamily$Family;II)V"⟩ prog_5_method_12_code 4 (Option.none : Option Jvm.ClassFile.FieldType) ∈ m_tb := m_in (m_t5 (List.mem_of_getElem? (i := 185) rfl)) rfl
theorem w_co_Ke_askOnce : Cond.code ⟨"RustFamily$Keepers", "askOnce", "(LRustFamily$Family;)Z"⟩ prog_5_method_10_code 5 (Option.some Jvm.ClassFile.FieldType.boolean) ∈ m_tb := m_in (m_t5 (List.mem_of_getElem? (i := 177) rfl)) rfl
theorem w_co_Ke_cheapestOf : Cond.code ⟨"RustFamily$Keepers", "cheapestOf", "(LRustFamily$Family;I)I"⟩ prog_5_method_7_code 6 (Option.some Jvm.ClassFile.FieldType.int) ∈ m_tb := m_in (m_t5 (List.mem_of_getElem? (i := 161) rfl)) rfl
theorem w_co_Ke_countFrom : Cond.code ⟨"RustFamily$Keepers", "countFrom", "(LRustFamily$Family;I)I"⟩ prog_5_method_15_code 6 (Option.some Jvm.ClassFile.FieldType.int) ∈ m_tb := m_in (m_t5 (List.mem_of_getElem? (i := 201) rfl)) rfl
theorem w_co_Ke_countStable : Cond.code ⟨"RustFamily$Keepers", "countStable", "(LRustFamily$Family;I)I"⟩ prog_5_method_14_code 3 (Option.some Jvm.ClassFile.FieldType.int) ∈ m_tb := m_in (m_t5 (List.mem_of_getElem? (i := 197) rfl)) rfl
theorem w_co_Ke_firstLeast : Cond.code ⟨"RustFamily$Keepers", "firstLeast", "(LRustFamily$Family;II)I"⟩ prog_5_method_8_code 5 (Option.some Jvm.ClassFile.FieldType.int) ∈ m_tb := m_in (m_t5 (List.mem_of_getElem? (i := 165) rfl)) rfl
theorem w_co_Ke_gather : Cond.code ⟨"RustFamily$Keepers", "gather", "(LRustFamily$Family;I)V"⟩ prog_5_method_2_code 4 (Option.none : Option Jvm.ClassFile.FieldType) ∈ m_tb := m_in (m_t5 (List.mem_of_getElem? (i := 133) rfl)) rfl
theorem w_co_Ke_isFree : Cond.code ⟨"RustFamily$Keepers", "isFree", "(LRustFamily$Family;II)Z"⟩ prog_5_method_5_code 3 (Option.some Jvm.ClassFile.FieldType.boolean) ∈ m_tb := m_in (m_t5 (List.mem_of_getElem? (i := 143) rfl)) rfl
theorem w_co_Ke_isStable : Cond.code ⟨"RustFamily$Keepers", "isStable", "(LRustFamily$Family;)Z"⟩ prog_5_method_16_code 3 (Option.some Jvm.ClassFile.FieldType.boolean) ∈ m_tb := m_in (m_t5 (List.mem_of_getElem? (i := 205) rfl)) rfl
theorem w_co_Ke_leastFrom : Cond.code ⟨"RustFamily$Keepers", "leastFrom", "(LRustFamily$Family;II)I"⟩ prog_5_method_4_code 6 (Option.some Jvm.ClassFile.FieldType.int) ∈ m_tb := m_in (m_t5 (List.mem_of_getElem? (i := 139) rfl)) rfl
theorem w_co_Ke_leastLove : Cond.code ⟨"RustFamily$Keepers", "leastLove", "(LRustFamily$Family;I)I"⟩ prog_5_method_3_code 5 (Option.some Jvm.ClassFile.FieldType.int) ∈ m_tb := m_in (m_t5 (List.mem_of_getElem? (i := 129) rfl)) rfl
theorem w_co_Ke_loveAndBehind : Cond.code ⟨"RustFamily$Keepers", "loveAndBehind", "(LRustFamily$Family;III)I"⟩ prog_5_method_6_code 5 (Option.some Jvm.ClassFile.FieldType.int) ∈ m_tb := m_in (m_t5 (List.mem_of_getElem? (i := 148) rfl)) rfl
theorem w_co_Ke_mostLoved : Cond.code ⟨"RustFamily$Keepers", "mostLoved", "(LRustFamily$Family;I)I"⟩ prog_5_method_11_code 7 (Option.some Jvm.ClassFile.FieldType.int) ∈ m_tb := m_in (m_t5 (List.mem_of_getElem? (i := 181) rfl)) rfl
theorem w_co_Ke_wouldChange : Cond.code ⟨"RustFamily$Keepers", "wouldChange", "(LRustFamily$Family;I)Z"⟩ prog_5_method_17_code 6 (Option.some Jvm.ClassFile.FieldType.boolean) ∈ m_tb := m_in (m_t5 (List.mem_of_getElem? (i := 209) rfl)) rfl
theorem w_co_Ke_wouldTake : Cond.code ⟨"RustFamily$Keepers", "wouldTake", "(LRustFamily$Family;II)Z"⟩ prog_5_method_13_code 4 (Option.some Jvm.ClassFile.FieldType.boolean) ∈ m_tb := m_in (m_t5 (List.mem_of_getElem? (i := 189) rfl)) rfl
theorem w_co_Pe_init : Cond.code ⟨"RustFamily$Person", "<init>", "()V"⟩ prog_6_method_1_code 1 (Option.none : Option Jvm.ClassFile.FieldType) ∈ m_tb := m_in (m_t1 (List.mem_of_getElem? (i := 113) rfl)) rfl
theorem w_co_Pe_copyFrom : Cond.code ⟨"RustFamily$Person", "copyFrom", "(LRustFamily$Person;)V"⟩ prog_6_method_2_code 2 (Option.none : Option Jvm.ClassFile.FieldType) ∈ m_tb := m_in (m_t6 (List.mem_of_getElem? (i := 120) rfl)) rfl
theorem w_co_Pe_lovedSet : Cond.code ⟨"RustFamily$Person", "lovedSet", "(I)I"⟩ prog_6_method_3_code 4 (Option.some Jvm.ClassFile.FieldType.int) ∈ m_tb := m_in (m_t4 (List.mem_of_getElem? (i := 97) rfl)) rfl
theorem w_co_Pl_init : Cond.code ⟨"RustFamily$Plan", "<init>", "()V"⟩ prog_7_method_1_code 1 (Option.none : Option Jvm.ClassFile.FieldType) ∈ m_tb := m_in (m_t1 (List.mem_of_getElem? (i := 187) rfl)) rfl
theorem w_co_Pl_act : Cond.code ⟨"RustFamily$Plan", "act", "(LRustFamily$Family;)Z"⟩ prog_7_method_11_code 2 (Option.some Jvm.ClassFile.FieldType.boolean) ∈ m_tb := m_in (m_t6 (List.mem_of_getElem? (i := 73) rfl)) rfl
theorem w_co_Pl_actAny : Cond.code ⟨"RustFamily$Plan", "actAny", "(LRustFamily$Family;)Z"⟩ prog_7_method_14_code 3 (Option.some Jvm.ClassFile.FieldType.boolean) ∈ m_tb := m_in (m_t6 (List.mem_of_getElem? (i := 84) rfl)) rfl
theorem w_co_Pl_actDamp : Cond.code ⟨"RustFamily$Plan", "actDamp", "(LRustFamily$Family;I)Z"⟩ prog_7_method_12_code 3 (Option.some Jvm.ClassFile.FieldType.boolean) ∈ m_tb := m_in (m_t6 (List.mem_of_getElem? (i := 77) rfl)) rfl
theorem w_co_Pl_actLove : Cond.code ⟨"RustFamily$Plan", "actLove", "(LRustFamily$Person;II)Z"⟩ prog_7_method_13_code 4 (Option.some Jvm.ClassFile.FieldType.boolean) ∈ m_tb := m_in (m_t6 (List.mem_of_getElem? (i := 80) rfl)) rfl
theorem w_co_Pl_actOn : Cond.code ⟨"RustFamily$Plan", "actOn", "(LRustFamily$Thing;II)Z"⟩ prog_7_method_15_code 3 (Option.some Jvm.ClassFile.FieldType.boolean) ∈ m_tb := m_in (m_t6 (List.mem_of_getElem? (i := 93) rfl)) rfl
theorem w_co_Pl_clear : Cond.code ⟨"RustFamily$Plan", "clear", "()V"⟩ prog_7_method_2_code 1 (Option.none : Option Jvm.ClassFile.FieldType) ∈ m_tb := m_in (m_t3 (List.mem_of_getElem? (i := 82) rfl)) rfl
theorem w_co_Pl_copyFrom : Cond.code ⟨"RustFamily$Plan", "copyFrom", "(LRustFamily$Plan;)V"⟩ prog_7_method_3_code 2 (Option.none : Option Jvm.ClassFile.FieldType) ∈ m_tb := m_in (m_t6 (List.mem_of_getElem? (i := 130) rfl)) rfl
theorem w_co_Pl_draw : Cond.code ⟨"RustFamily$Plan", "draw", "(I)I"⟩ prog_7_method_16_code 2 (Option.some Jvm.ClassFile.FieldType.int) ∈ m_tb := m_in (m_t6 (List.mem_of_getElem? (i := 88) rfl)) rfl
theorem w_co_Pl_enterLoop : Cond.code ⟨"RustFamily$Plan", "enterLoop", "()V"⟩ prog_7_method_8_code 1 (Option.none : Option Jvm.ClassFile.FieldType) ∈ m_tb := m_in (m_t6 (List.mem_of_getElem? (i := 63) rfl)) rfl
theorem w_co_Pl_goRound : Cond.code ⟨"RustFamily$Plan", "goRound", "()V"⟩ prog_7_method_9_code 2 (Option.none : Option Jvm.ClassFile.FieldType) ∈ m_tb := m_in (m_t6 (List.mem_of_getElem? (i := 100) rfl)) rfl
theorem w_co_Pl_holds : Cond.code ⟨"RustFamily$Plan", "holds", "(LRustFamily$Family;)Z"⟩ prog_7_method_10_code 3 (Option.some Jvm.ClassFile.FieldType.boolean) ∈ m_tb := m_in (m_t6 (List.mem_of_getElem? (i := 67) rfl)) rfl
theorem w_co_Pl_isLeft : Cond.code ⟨"RustFamily$Plan", "isLeft", "()Z"⟩ prog_7_method_7_code 1 (Option.some Jvm.ClassFile.FieldType.boolean) ∈ m_tb := m_in (m_t6 (List.mem_of_getElem? (i := 104) rfl)) rfl
theorem w_co_Pl_latestOpen : Cond.code ⟨"RustFamily$Plan", "latestOpen", "()I"⟩ prog_7_method_5_code 2 (Option.some Jvm.ClassFile.FieldType.int) ∈ m_tb := m_in (m_t4 (List.mem_of_getElem? (i := 7) rfl)) rfl
theorem w_co_Pl_openBlocks : Cond.code ⟨"RustFamily$Plan", "openBlocks", "()I"⟩ prog_7_method_4_code 3 (Option.some Jvm.ClassFile.FieldType.int) ∈ m_tb := m_in (m_t4 (List.mem_of_getElem? (i := 19) rfl)) rfl
theorem w_co_Pl_run : Cond.code ⟨"RustFamily$Plan", "run", "(LRustFamily$Family;I)V"⟩ prog_7_method_6_code 4 (Option.none : Option Jvm.ClassFile.FieldType) ∈ m_tb := m_in (m_t6 (List.mem_of_getElem? (i := 59) rfl)) rfl
theorem w_co_Re_clear : Cond.code ⟨"RustFamily$Reader", "clear", "(LRustFamily$Family;)V"⟩ prog_8_method_3_code 1 (Option.none : Option Jvm.ClassFile.FieldType) ∈ m_tb := m_in (m_t3 (List.mem_of_getElem? (i := 78) rfl)) rfl
theorem w_co_Re_closeBlock : Cond.code ⟨"RustFamily$Reader", "closeBlock", "(LRustFamily$Text;LRustFamily$Plan;)Z"⟩ prog_8_method_12_code 3 (Option.some Jvm.ClassFile.FieldType.boolean) ∈ m_tb := m_in (m_t4 (List.mem_of_getElem? (i := 11) rfl)) rfl
theorem w_co_Re_isNew : Cond.code ⟨"RustFamily$Reader", "isNew", "(LRustFamily$Family;J)Z"⟩ prog_8_method_7_code 3 (Option.some Jvm.ClassFile.FieldType.boolean) ∈ m_tb := m_in (m_t3 (List.mem_of_getElem? (i := 149) rfl)) rfl
theorem w_co_Re_openStep : Cond.code ⟨"RustFamily$Reader", "openStep", "(LRustFamily$Text;LRustFamily$Plan;I)Z"⟩ prog_8_method_14_code 4 (Option.some Jvm.ClassFile.FieldType.boolean) ∈ m_tb := m_in (m_t4 (List.mem_of_getElem? (i := 15) rfl)) rfl
theorem w_co_Re_setDefaults : Cond.code ⟨"RustFamily$Reader", "setDefaults", "(LRustFamily$Family;)V"⟩ prog_8_method_4_code 1 (Option.none : Option Jvm.ClassFile.FieldType) ∈ m_tb := m_in (m_t3 (List.mem_of_getElem? (i := 85) rfl)) rfl
theorem w_co_Re_stepKind : Cond.code ⟨"RustFamily$Reader", "stepKind", "(LRustFamily$Text;)I"⟩ prog_8_method_13_code 1 (Option.some Jvm.ClassFile.FieldType.int) ∈ m_tb := m_in (m_t4 (List.mem_of_getElem? (i := 39) rfl)) rfl
theorem w_co_Re_takeCompares : Cond.code ⟨"RustFamily$Reader", "takeCompares", "(LRustFamily$Text;LRustFamily$Plan;)Z"⟩ prog_8_method_17_code 2 (Option.some Jvm.ClassFile.FieldType.boolean) ∈ m_tb := m_in (m_t4 (List.mem_of_getElem? (i := 33) rfl)) rfl
theorem w_co_Re_takeFamily : Cond.code ⟨"RustFamily$Reader", "takeFamily", "(LRustFamily$Text;LRustFamily$Family;)Z"⟩ prog_8_method_2_code 4 (Option.some Jvm.ClassFile.FieldType.boolean) ∈ m_tb := m_in (m_t3 (List.mem_of_getElem? (i := 75) rfl)) rfl
theorem w_co_Re_takeLove : Cond.code ⟨"RustFamily$Reader", "takeLove", "(LRustFamily$Text;LRustFamily$Family;)Z"⟩ prog_8_method_10_code 4 (Option.some Jvm.ClassFile.FieldType.boolean) ∈ m_tb := m_in (m_t3 (List.mem_of_getElem? (i := 226) rfl)) rfl
theorem w_co_Re_takeMuch : Cond.code ⟨"RustFamily$Reader", "takeMuch", "(LRustFamily$Text;LRustFamily$Plan;II)Z"⟩ prog_8_method_18_code 5 (Option.some Jvm.ClassFile.FieldType.boolean) ∈ m_tb := m_in (m_t4 (List.mem_of_getElem? (i := 36) rfl)) rfl
theorem w_co_Re_takeOnce : Cond.code ⟨"RustFamily$Reader", "takeOnce", "(LRustFamily$Text;III)Z"⟩ prog_8_method_6_code 4 (Option.some Jvm.ClassFile.FieldType.boolean) ∈ m_tb := m_in (m_t3 (List.mem_of_getElem? (i := 233) rfl)) rfl
theorem w_co_Re_takePerson : Cond.code ⟨"RustFamily$Reader", "takePerson", "(LRustFamily$Text;LRustFamily$Family;)Z"⟩ prog_8_method_8_code 5 (Option.some Jvm.ClassFile.FieldType.boolean) ∈ m_tb := m_in (m_t3 (List.mem_of_getElem? (i := 141) rfl)) rfl
theorem w_co_Re_takePersonName : Cond.code ⟨"RustFamily$Reader", "takePersonName", "(LRustFamily$Text;LRustFamily$Family;LRustFamily$Plan;)Z"⟩ prog_8_method_19_code 4 (Option.some Jvm.ClassFile.FieldType.boolean) ∈ m_tb := m_in (m_t4 (List.mem_of_getElem? (i := 29) rfl)) rfl
theorem w_co_Re_takePlan : Cond.code ⟨"RustFamily$Reader", "takePlan", "(LRustFamily$Text;LRustFamily$Family;LRustFamily$Plan;)Z"⟩ prog_8_method_11_code 5 (Option.some Jvm.ClassFile.FieldType.boolean) ∈ m_tb := m_in (m_t4 (List.mem_of_getElem? (i := 3) rfl)) rfl
theorem w_co_Re_takeRest : Cond.code ⟨"RustFamily$Reader", "takeRest", "(LRustFamily$Text;LRustFamily$Family;LRustFamily$Plan;)Z"⟩ prog_8_method_15_code 3 (Option.some Jvm.ClassFile.FieldType.boolean) ∈ m_tb := m_in (m_t4 (List.mem_of_getElem? (i := 48) rfl)) rfl
theorem w_co_Re_takeRule : Cond.code ⟨"RustFamily$Reader", "takeRule", "(LRustFamily$Text;LRustFamily$Family;)Z"⟩ prog_8_method_5_code 3 (Option.some Jvm.ClassFile.FieldType.boolean) ∈ m_tb := m_in (m_t3 (List.mem_of_getElem? (i := 229) rfl)) rfl
theorem w_co_Re_takeTest : Cond.code ⟨"RustFamily$Reader", "takeTest", "(LRustFamily$Text;LRustFamily$Family;LRustFamily$Plan;)Z"⟩ prog_8_method_16_code 3 (Option.some Jvm.ClassFile.FieldType.boolean) ∈ m_tb := m_in (m_t4 (List.mem_of_getElem? (i := 22) rfl)) rfl
theorem w_co_Re_takeThing : Cond.code ⟨"RustFamily$Reader", "takeThing", "(LRustFamily$Text;LRustFamily$Family;)Z"⟩ prog_8_method_9_code 6 (Option.some Jvm.ClassFile.FieldType.boolean) ∈ m_tb := m_in (m_t3 (List.mem_of_getElem? (i := 216) rfl)) rfl
theorem w_co_Re_takeThingName : Cond.code ⟨"RustFamily$Reader", "takeThingName", "(LRustFamily$Text;LRustFamily$Family;LRustFamily$Plan;)Z"⟩ prog_8_method_20_code 4 (Option.some Jvm.ClassFile.FieldType.boolean) ∈ m_tb := m_in (m_t4 (List.mem_of_getElem? (i := 26) rfl)) rfl
theorem w_co_Si_init : Cond.code ⟨"RustFamily$Sight", "<init>", "()V"⟩ prog_9_method_1_code 1 (Option.none : Option Jvm.ClassFile.FieldType) ∈ m_tb := m_in (m_t2 (List.mem_of_getElem? (i := 101) rfl)) rfl
theorem w_co_Si_bestDamp : Cond.code ⟨"RustFamily$Sight", "bestDamp", "()I"⟩ prog_9_method_8_code 5 (Option.some Jvm.ClassFile.FieldType.int) ∈ m_tb := m_in (m_t5 (List.mem_of_getElem? (i := 112) rfl)) rfl
theorem w_co_Si_canLove : Cond.code ⟨"RustFamily$Sight", "canLove", "(I)Z"⟩ prog_9_method_7_code 3 (Option.some Jvm.ClassFile.FieldType.boolean) ∈ m_tb := m_in (m_t5 (List.mem_of_getElem? (i := 104) rfl)) rfl
theorem w_co_Si_countSums : Cond.code ⟨"RustFamily$Sight", "countSums", "()V"⟩ prog_9_method_5_code 4 (Option.none : Option Jvm.ClassFile.FieldType) ∈ m_tb := m_in (m_t5 (List.mem_of_getElem? (i := 91) rfl)) rfl
theorem w_co_Si_fitsAll : Cond.code ⟨"RustFamily$Sight", "fitsAll", "(I[JI)Z"⟩ prog_9_method_3_code 4 (Option.some Jvm.ClassFile.FieldType.boolean) ∈ m_tb := m_in (m_t5 (List.mem_of_getElem? (i := 83) rfl)) rfl
theorem w_co_Si_look : Cond.code ⟨"RustFamily$Sight", "look", "(I[JI)V"⟩ prog_9_method_2_code 5 (Option.none : Option Jvm.ClassFile.FieldType) ∈ m_tb := m_in (m_t5 (List.mem_of_getElem? (i := 74) rfl)) rfl
theorem w_co_Si_onlyLove : Cond.code ⟨"RustFamily$Sight", "onlyLove", "()I"⟩ prog_9_method_6_code 3 (Option.some Jvm.ClassFile.FieldType.int) ∈ m_tb := m_in (m_t5 (List.mem_of_getElem? (i := 100) rfl)) rfl
theorem w_co_Si_unlikeBites : Cond.code ⟨"RustFamily$Sight", "unlikeBites", "(I)I"⟩ prog_9_method_9_code 5 (Option.some Jvm.ClassFile.FieldType.int) ∈ m_tb := m_in (m_t5 (List.mem_of_getElem? (i := 116) rfl)) rfl
theorem w_co_Si_ways : Cond.code ⟨"RustFamily$Sight", "ways", "()I"⟩ prog_9_method_4_code 3 (Option.some Jvm.ClassFile.FieldType.int) ∈ m_tb := m_in (m_t5 (List.mem_of_getElem? (i := 87) rfl)) rfl
theorem w_co_Tx_init : Cond.code ⟨"RustFamily$Text", "<init>", "()V"⟩ prog_10_method_1_code 1 (Option.none : Option Jvm.ClassFile.FieldType) ∈ m_tb := m_in (m_t1 (List.mem_of_getElem? (i := 55) rfl)) rfl
theorem w_co_Tx_advance : Cond.code ⟨"RustFamily$Text", "advance", "()V"⟩ prog_10_method_4_code 1 (Option.none : Option Jvm.ClassFile.FieldType) ∈ m_tb := m_in (m_t3 (List.mem_of_getElem? (i := 53) rfl)) rfl
theorem w_co_Tx_is : Cond.code ⟨"RustFamily$Text", "is", "(Ljava/lang/String;)Z"⟩ prog_10_method_11_code 3 (Option.some Jvm.ClassFile.FieldType.boolean) ∈ m_tb := m_in (m_t3 (List.mem_of_getElem? (i := 90) rfl)) rfl
theorem w_co_Tx_isDigit : Cond.code ⟨"RustFamily$Text", "isDigit", "(B)Z"⟩ prog_10_method_9_code 1 (Option.some Jvm.ClassFile.FieldType.boolean) ∈ m_tb := m_in (m_t3 (List.mem_of_getElem? (i := 68) rfl)) rfl
theorem w_co_Tx_isLetter : Cond.code ⟨"RustFamily$Text", "isLetter", "(B)Z"⟩ prog_10_method_8_code 1 (Option.some Jvm.ClassFile.FieldType.boolean) ∈ m_tb := m_in (m_t3 (List.mem_of_getElem? (i := 60) rfl)) rfl
theorem w_co_Tx_isReserved : Cond.code ⟨"RustFamily$Text", "isReserved", "()Z"⟩ prog_10_method_12_code 1 (Option.some Jvm.ClassFile.FieldType.boolean) ∈ m_tb := m_in (m_t3 (List.mem_of_getElem? (i := 165) rfl)) rfl
theorem w_co_Tx_open : Cond.code ⟨"RustFamily$Text", "open", "(I)V"⟩ prog_10_method_3_code 2 (Option.none : Option Jvm.ClassFile.FieldType) ∈ m_tb := m_in (m_t3 (List.mem_of_getElem? (i := 49) rfl)) rfl
theorem w_co_Tx_put : Cond.code ⟨"RustFamily$Text", "put", "(I)V"⟩ prog_10_method_2_code 3 (Option.none : Option Jvm.ClassFile.FieldType) ∈ m_tb := m_in (m_t3 (List.mem_of_getElem? (i := 41) rfl)) rfl
theorem w_co_Tx_refuse : Cond.code ⟨"RustFamily$Text", "refuse", "(I)Z"⟩ prog_10_method_10_code 2 (Option.some Jvm.ClassFile.FieldType.boolean) ∈ m_tb := m_in (m_t3 (List.mem_of_getElem? (i := 145) rfl)) rfl
theorem w_co_Tx_scanNumber : Cond.code ⟨"RustFamily$Text", "scanNumber", "()V"⟩ prog_10_method_7_code 1 (Option.none : Option Jvm.ClassFile.FieldType) ∈ m_tb := m_in (m_t3 (List.mem_of_getElem? (i := 72) rfl)) rfl
theorem w_co_Tx_scanWord : Cond.code ⟨"RustFamily$Text", "scanWord", "()V"⟩ prog_10_method_6_code 1 (Option.none : Option Jvm.ClassFile.FieldType) ∈ m_tb := m_in (m_t3 (List.mem_of_getElem? (i := 64) rfl)) rfl
theorem w_co_Tx_skipBlanks : Cond.code ⟨"RustFamily$Text", "skipBlanks", "()V"⟩ prog_10_method_5_code 1 (Option.none : Option Jvm.ClassFile.FieldType) ∈ m_tb := m_in (m_t3 (List.mem_of_getElem? (i := 57) rfl)) rfl
theorem w_co_Tx_takeEndSign : Cond.code ⟨"RustFamily$Text", "takeEndSign", "()Z"⟩ prog_10_method_14_code 1 (Option.some Jvm.ClassFile.FieldType.boolean) ∈ m_tb := m_in (m_t3 (List.mem_of_getElem? (i := 205) rfl)) rfl
theorem w_co_Tx_takeName : Cond.code ⟨"RustFamily$Text", "takeName", "(Z)Z"⟩ prog_10_method_16_code 2 (Option.some Jvm.ClassFile.FieldType.boolean) ∈ m_tb := m_in (m_t3 (List.mem_of_getElem? (i := 161) rfl)) rfl
theorem w_co_Tx_takeNumber : Cond.code ⟨"RustFamily$Text", "takeNumber", "(II)Z"⟩ prog_10_method_15_code 3 (Option.some Jvm.ClassFile.FieldType.boolean) ∈ m_tb := m_in (m_t3 (List.mem_of_getElem? (i := 197) rfl)) rfl
theorem w_co_Tx_takeWord : Cond.code ⟨"RustFamily$Text", "takeWord", "(Ljava/lang/String;)Z"⟩ prog_10_method_13_code 2 (Option.some Jvm.ClassFile.FieldType.boolean) ∈ m_tb := m_in (m_t3 (List.mem_of_getElem? (i := 193) rfl)) rfl
theorem w_co_Th_init : Cond.code ⟨"RustFamily$Thing", "<init>", "()V"⟩ prog_11_method_1_code 1 (Option.none : Option Jvm.ClassFile.FieldType) ∈ m_tb := m_in (m_t1 (List.mem_of_getElem? (i := 150) rfl)) rfl
theorem w_co_Th_bite : Cond.code ⟨"RustFamily$Thing", "bite", "(II)I"⟩ prog_11_method_5_code 3 (Option.some Jvm.ClassFile.FieldType.int) ∈ m_tb := m_in (m_t4 (List.mem_of_getElem? (i := 118) rfl)) rfl
theorem w_co_Th_biteBy : Cond.code ⟨"RustFamily$Thing", "biteBy", "(IIZ)I"⟩ prog_11_method_4_code 4 (Option.some Jvm.ClassFile.FieldType.int) ∈ m_tb := m_in (m_t4 (List.mem_of_getElem? (i := 122) rfl)) rfl
theorem w_co_Th_copyFrom : Cond.code ⟨"RustFamily$Thing", "copyFrom", "(LRustFamily$Thing;)V"⟩ prog_11_method_2_code 2 (Option.none : Option Jvm.ClassFile.FieldType) ∈ m_tb := m_in (m_t4 (List.mem_of_getElem? (i := 234) rfl)) rfl
theorem w_co_Th_halveRust : Cond.code ⟨"RustFamily$Thing", "halveRust", "()V"⟩ prog_11_method_10_code 1 (Option.none : Option Jvm.ClassFile.FieldType) ∈ m_tb := m_in (m_t4 (List.mem_of_getElem? (i := 193) rfl)) rfl
theorem w_co_Th_isThrough : Cond.code ⟨"RustFamily$Thing", "isThrough", "()Z"⟩ prog_11_method_3_code 1 (Option.some Jvm.ClassFile.FieldType.boolean) ∈ m_tb := m_in (m_t4 (List.mem_of_getElem? (i := 76) rfl)) rfl
theorem w_co_Th_passYear : Cond.code ⟨"RustFamily$Thing", "passYear", "(II)V"⟩ prog_11_method_6_code 5 (Option.none : Option Jvm.ClassFile.FieldType) ∈ m_tb := m_in (m_t4 (List.mem_of_getElem? (i := 153) rfl)) rfl
theorem w_co_Th_putCoat : Cond.code ⟨"RustFamily$Thing", "putCoat", "(I)V"⟩ prog_11_method_9_code 2 (Option.none : Option Jvm.ClassFile.FieldType) ∈ m_tb := m_in (m_t4 (List.mem_of_getElem? (i := 185) rfl)) rfl
theorem w_co_Th_putOil : Cond.code ⟨"RustFamily$Thing", "putOil", "()V"⟩ prog_11_method_8_code 1 (Option.none : Option Jvm.ClassFile.FieldType) ∈ m_tb := m_in (m_t4 (List.mem_of_getElem? (i := 177) rfl)) rfl
theorem w_co_Th_takeBreath : Cond.code ⟨"RustFamily$Thing", "takeBreath", "(I)V"⟩ prog_11_method_7_code 2 (Option.none : Option Jvm.ClassFile.FieldType) ∈ m_tb := m_in (m_t4 (List.mem_of_getElem? (i := 201) rfl)) rfl
theorem w_co_Tr_init : Cond.code ⟨"RustFamily$Tray", "<init>", "()V"⟩ prog_12_method_1_code 1 (Option.none : Option Jvm.ClassFile.FieldType) ∈ m_tb := m_in (m_t1 (List.mem_of_getElem? (i := 35) rfl)) rfl
theorem w_co_Tr_holds : Cond.code ⟨"RustFamily$Tray", "holds", "(II)Z"⟩ prog_12_method_4_code 3 (Option.some Jvm.ClassFile.FieldType.boolean) ∈ m_tb := m_in (m_t3 (List.mem_of_getElem? (i := 13) rfl)) rfl
theorem w_co_Tr_isMissing : Cond.code ⟨"RustFamily$Tray", "isMissing", "()Z"⟩ prog_12_method_2_code 1 (Option.some Jvm.ClassFile.FieldType.boolean) ∈ m_tb := m_in (m_t3 (List.mem_of_getElem? (i := 9) rfl)) rfl
theorem w_co_Tr_lay : Cond.code ⟨"RustFamily$Tray", "lay", "(II)V"⟩ prog_12_method_3_code 3 (Option.none : Option Jvm.ClassFile.FieldType) ∈ m_tb := m_in (m_t2 (List.mem_of_getElem? (i := 230) rfl)) rfl
theorem w_co_Tr_put : Cond.code ⟨"RustFamily$Tray", "put", "(IJ)V"⟩ prog_12_method_5_code 4 (Option.none : Option Jvm.ClassFile.FieldType) ∈ m_tb := m_in (m_t3 (List.mem_of_getElem? (i := 17) rfl)) rfl
theorem w_co_C_init : Cond.code ⟨"RustFamily", "<init>", "()V"⟩ prog_1_method_1_code 2 (Option.none : Option Jvm.ClassFile.FieldType) ∈ m_tb := m_in (m_t1 (List.mem_of_getElem? (i := 26) rfl)) rfl
theorem w_co_C_areTwos : Cond.code ⟨"RustFamily", "areTwos", "([JI)Z"⟩ prog_1_method_53_code 3 (Option.some Jvm.ClassFile.FieldType.boolean) ∈ m_tb := m_in (m_t5 (List.mem_of_getElem? (i := 69) rfl)) rfl
theorem w_co_C_ask : Cond.code ⟨"RustFamily", "ask", "(II)I"⟩ prog_1_method_51_code 3 (Option.some Jvm.ClassFile.FieldType.int) ∈ m_tb := m_in (m_t5 (List.mem_of_getElem? (i := 108) rfl)) rfl
theorem w_co_C_back : Cond.code ⟨"RustFamily", "back", "()I"⟩ prog_1_method_73_code 2 (Option.some Jvm.ClassFile.FieldType.int) ∈ m_tb := m_in (m_t6 (List.mem_of_getElem? (i := 135) rfl)) rfl
theorem w_co_C_blame : Cond.code ⟨"RustFamily", "blame", "(I)Z"⟩ prog_1_method_64_code 5 (Option.some Jvm.ClassFile.FieldType.boolean) ∈ m_tb := m_in (m_t6 (List.mem_of_getElem? (i := 51) rfl)) rfl
theorem w_co_C_born : Cond.code ⟨"RustFamily", "born", "(IZ)I"⟩ prog_1_method_33_code 3 (Option.some Jvm.ClassFile.FieldType.int) ∈ m_tb := m_in (m_t4 (List.mem_of_getElem? (i := 210) rfl)) rfl
theorem w_co_C_bottom : Cond.code ⟨"RustFamily", "bottom", "()J"⟩ prog_1_method_4_code 1 (Option.some Jvm.ClassFile.FieldType.long) ∈ m_tb := m_in (m_t2 (List.mem_of_getElem? (i := 219) rfl)) rfl
theorem w_co_C_breathe : Cond.code ⟨"RustFamily", "breathe", "(I)I"⟩ prog_1_method_31_code 2 (Option.some Jvm.ClassFile.FieldType.int) ∈ m_tb := m_in (m_t4 (List.mem_of_getElem? (i := 197) rfl)) rfl
theorem w_co_C_canRule : Cond.code ⟨"RustFamily", "canRule", "(II)Z"⟩ prog_1_method_35_code 2 (Option.some Jvm.ClassFile.FieldType.boolean) ∈ m_tb := m_in (m_t4 (List.mem_of_getElem? (i := 218) rfl)) rfl
theorem w_co_C_coat : Cond.code ⟨"RustFamily", "coat", "(II)I"⟩ prog_1_method_29_code 3 (Option.some Jvm.ClassFile.FieldType.int) ∈ m_tb := m_in (m_t4 (List.mem_of_getElem? (i := 181) rfl)) rfl
theorem w_co_C_commonDivisor : Cond.code ⟨"RustFamily", "commonDivisor", "(JJ)J"⟩ prog_1_method_68_code 11 (Option.some Jvm.ClassFile.FieldType.long) ∈ m_tb := m_in (m_t6 (List.mem_of_getElem? (i := 39) rfl)) rfl
theorem w_co_C_copyRust : Cond.code ⟨"RustFamily", "copyRust", "(I)I"⟩ prog_1_method_21_code 4 (Option.some Jvm.ClassFile.FieldType.int) ∈ m_tb := m_in (m_t4 (List.mem_of_getElem? (i := 135) rfl)) rfl
theorem w_co_C_diesIn : Cond.code ⟨"RustFamily", "diesIn", "(I)I"⟩ prog_1_method_42_code 2 (Option.some Jvm.ClassFile.FieldType.int) ∈ m_tb := m_in (m_t5 (List.mem_of_getElem? (i := 24) rfl)) rfl
theorem w_co_C_dote : Cond.code ⟨"RustFamily", "dote", "(III)I"⟩ prog_1_method_27_code 6 (Option.some Jvm.ClassFile.FieldType.int) ∈ m_tb := m_in (m_t4 (List.mem_of_getElem? (i := 165) rfl)) rfl
theorem w_co_C_family : Cond.code ⟨"RustFamily", "family", "(I)I"⟩ prog_1_method_14_code 3 (Option.some Jvm.ClassFile.FieldType.int) ∈ m_tb := m_in (m_t3 (List.mem_of_getElem? (i := 45) rfl)) rfl
theorem w_co_C_fault : Cond.code ⟨"RustFamily", "fault", "(I)I"⟩ prog_1_method_16_code 2 (Option.some Jvm.ClassFile.FieldType.int) ∈ m_tb := m_in (m_t4 (List.mem_of_getElem? (i := 52) rfl)) rfl
theorem w_co_C_feed : Cond.code ⟨"RustFamily", "feed", "(IIIII)I"⟩ prog_1_method_13_code 6 (Option.some Jvm.ClassFile.FieldType.int) ∈ m_tb := m_in (m_t3 (List.mem_of_getElem? (i := 37) rfl)) rfl
theorem w_co_C_firstThrough : Cond.code ⟨"RustFamily", "firstThrough", "()I"⟩ prog_1_method_39_code 5 (Option.some Jvm.ClassFile.FieldType.int) ∈ m_tb := m_in (m_t5 (List.mem_of_getElem? (i := 11) rfl)) rfl
theorem w_co_C_forge : Cond.code ⟨"RustFamily", "forge", "(I)I"⟩ prog_1_method_32_code 2 (Option.some Jvm.ClassFile.FieldType.int) ∈ m_tb := m_in (m_t4 (List.mem_of_getElem? (i := 205) rfl)) rfl
theorem w_co_C_game : Cond.code ⟨"RustFamily", "game", "(III)I"⟩ prog_1_method_60_code 4 (Option.some Jvm.ClassFile.FieldType.int) ∈ m_tb := m_in (m_t5 (List.mem_of_getElem? (i := 213) rfl)) rfl
theorem w_co_C_gameStatus : Cond.code ⟨"RustFamily", "gameStatus", "(IIII)I"⟩ prog_1_method_65_code 5 (Option.some Jvm.ClassFile.FieldType.int) ∈ m_tb := m_in (m_t5 (List.mem_of_getElem? (i := 217) rfl)) rfl
theorem w_co_C_isPerson : Cond.code ⟨"RustFamily", "isPerson", "(I)Z"⟩ prog_1_method_22_code 2 (Option.some Jvm.ClassFile.FieldType.boolean) ∈ m_tb := m_in (m_t4 (List.mem_of_getElem? (i := 92) rfl)) rfl
theorem w_co_C_isSet : Cond.code ⟨"RustFamily", "isSet", "(II)Z"⟩ prog_1_method_48_code 2 (Option.some Jvm.ClassFile.FieldType.boolean) ∈ m_tb := m_in (m_t5 (List.mem_of_getElem? (i := 53) rfl)) rfl
theorem w_co_C_isThing : Cond.code ⟨"RustFamily", "isThing", "(I)Z"⟩ prog_1_method_23_code 2 (Option.some Jvm.ClassFile.FieldType.boolean) ∈ m_tb := m_in (m_t4 (List.mem_of_getElem? (i := 105) rfl)) rfl
theorem w_co_C_isTray : Cond.code ⟨"RustFamily", "isTray", "(I)Z"⟩ prog_1_method_10_code 1 (Option.some Jvm.ClassFile.FieldType.boolean) ∈ m_tb := m_in (m_t2 (List.mem_of_getElem? (i := 226) rfl)) rfl
theorem w_co_C_isWithin : Cond.code ⟨"RustFamily", "isWithin", "(III)Z"⟩ prog_1_method_25_code 3 (Option.some Jvm.ClassFile.FieldType.boolean) ∈ m_tb := m_in (m_t3 (List.mem_of_getElem? (i := 200) rfl)) rfl
theorem w_co_C_jars : Cond.code ⟨"RustFamily", "jars", "(II)I"⟩ prog_1_method_45_code 3 (Option.some Jvm.ClassFile.FieldType.int) ∈ m_tb := m_in (m_t5 (List.mem_of_getElem? (i := 36) rfl)) rfl
theorem w_co_C_jarsFor : Cond.code ⟨"RustFamily", "jarsFor", "(II)I"⟩ prog_1_method_46_code 6 (Option.some Jvm.ClassFile.FieldType.int) ∈ m_tb := m_in (m_t5 (List.mem_of_getElem? (i := 50) rfl)) rfl
theorem w_co_C_keeping : Cond.code ⟨"RustFamily", "keeping", "(I)I"⟩ prog_1_method_54_code 2 (Option.some Jvm.ClassFile.FieldType.int) ∈ m_tb := m_in (m_t5 (List.mem_of_getElem? (i := 120) rfl)) rfl
theorem w_co_C_keepingStatus : Cond.code ⟨"RustFamily", "keepingStatus", "(I)I"⟩ prog_1_method_59_code 3 (Option.some Jvm.ClassFile.FieldType.int) ∈ m_tb := m_in (m_t5 (List.mem_of_getElem? (i := 124) rfl)) rfl
theorem w_co_C_keeps : Cond.code ⟨"RustFamily", "keeps", "(II)I"⟩ prog_1_method_55_code 4 (Option.some Jvm.ClassFile.FieldType.int) ∈ m_tb := m_in (m_t5 (List.mem_of_getElem? (i := 153) rfl)) rfl
theorem w_co_C_lasts : Cond.code ⟨"RustFamily", "lasts", "(II)Z"⟩ prog_1_method_62_code 3 (Option.some Jvm.ClassFile.FieldType.boolean) ∈ m_tb := m_in (m_t6 (List.mem_of_getElem? (i := 15) rfl)) rfl
theorem w_co_C_less : Cond.code ⟨"RustFamily", "less", "(III)I"⟩ prog_1_method_47_code 7 (Option.some Jvm.ClassFile.FieldType.int) ∈ m_tb := m_in (m_t5 (List.mem_of_getElem? (i := 57) rfl)) rfl
theorem w_co_C_live : Cond.code ⟨"RustFamily", "live", "(I)I"⟩ prog_1_method_69_code 5 (Option.some Jvm.ClassFile.FieldType.int) ∈ m_tb := m_in (m_t6 (List.mem_of_getElem? (i := 55) rfl)) rfl
theorem w_co_C_lived : Cond.code ⟨"RustFamily", "lived", "(I)I"⟩ prog_1_method_70_code 2 (Option.some Jvm.ClassFile.FieldType.int) ∈ m_tb := m_in (m_t6 (List.mem_of_getElem? (i := 108) rfl)) rfl
theorem w_co_C_love : Cond.code ⟨"RustFamily", "love", "(II)I"⟩ prog_1_method_20_code 3 (Option.some Jvm.ClassFile.FieldType.int) ∈ m_tb := m_in (m_t4 (List.mem_of_getElem? (i := 127) rfl)) rfl
theorem w_co_C_many : Cond.code ⟨"RustFamily", "many", "(I)I"⟩ prog_1_method_17_code 2 (Option.some Jvm.ClassFile.FieldType.int) ∈ m_tb := m_in (m_t4 (List.mem_of_getElem? (i := 56) rfl)) rfl
theorem w_co_C_mark : Cond.code ⟨"RustFamily", "mark", "()I"⟩ prog_1_method_72_code 1 (Option.some Jvm.ClassFile.FieldType.int) ∈ m_tb := m_in (m_t6 (List.mem_of_getElem? (i := 126) rfl)) rfl
theorem w_co_C_mean : Cond.code ⟨"RustFamily", "mean", "(II)Z"⟩ prog_1_method_71_code 5 (Option.some Jvm.ClassFile.FieldType.boolean) ∈ m_tb := m_in (m_t6 (List.mem_of_getElem? (i := 112) rfl)) rfl
theorem w_co_C_memberStatus : Cond.code ⟨"RustFamily", "memberStatus", "(II)I"⟩ prog_1_method_58_code 3 (Option.some Jvm.ClassFile.FieldType.int) ∈ m_tb := m_in (m_t5 (List.mem_of_getElem? (i := 157) rfl)) rfl
theorem w_co_C_mend : Cond.code ⟨"RustFamily", "mend", "(I)I"⟩ prog_1_method_30_code 2 (Option.some Jvm.ClassFile.FieldType.int) ∈ m_tb := m_in (m_t4 (List.mem_of_getElem? (i := 189) rfl)) rfl
theorem w_co_C_moveOf : Cond.code ⟨"RustFamily", "moveOf", "(III)I"⟩ prog_1_method_61_code 4 (Option.some Jvm.ClassFile.FieldType.int) ∈ m_tb := m_in (m_t6 (List.mem_of_getElem? (i := 11) rfl)) rfl
theorem w_co_C_oddsStatus : Cond.code ⟨"RustFamily", "oddsStatus", "(II)I"⟩ prog_1_method_66_code 3 (Option.some Jvm.ClassFile.FieldType.int) ∈ m_tb := m_in (m_t6 (List.mem_of_getElem? (i := 19) rfl)) rfl
theorem w_co_C_oil : Cond.code ⟨"RustFamily", "oil", "(I)I"⟩ prog_1_method_28_code 2 (Option.some Jvm.ClassFile.FieldType.int) ∈ m_tb := m_in (m_t4 (List.mem_of_getElem? (i := 169) rfl)) rfl
theorem w_co_C_orNone : Cond.code ⟨"RustFamily", "orNone", "(I)I"⟩ prog_1_method_44_code 2 (Option.some Jvm.ClassFile.FieldType.int) ∈ m_tb := m_in (m_t5 (List.mem_of_getElem? (i := 7) rfl)) rfl
theorem w_co_C_pairStatus : Cond.code ⟨"RustFamily", "pairStatus", "(II)I"⟩ prog_1_method_24_code 3 (Option.some Jvm.ClassFile.FieldType.int) ∈ m_tb := m_in (m_t4 (List.mem_of_getElem? (i := 131) rfl)) rfl
theorem w_co_C_person : Cond.code ⟨"RustFamily", "person", "(II)I"⟩ prog_1_method_18_code 4 (Option.some Jvm.ClassFile.FieldType.int) ∈ m_tb := m_in (m_t4 (List.mem_of_getElem? (i := 88) rfl)) rfl
theorem w_co_C_placeStatus : Cond.code ⟨"RustFamily", "placeStatus", "(II)I"⟩ prog_1_method_12_code 4 (Option.some Jvm.ClassFile.FieldType.int) ∈ m_tb := m_in (m_t3 (List.mem_of_getElem? (i := 1) rfl)) rfl
theorem w_co_C_pour : Cond.code ⟨"RustFamily", "pour", "(IIIII)Z"⟩ prog_1_method_8_code 6 (Option.some Jvm.ClassFile.FieldType.boolean) ∈ m_tb := m_in (m_t3 (List.mem_of_getElem? (i := 26) rfl)) rfl
theorem w_co_C_pourStatus : Cond.code ⟨"RustFamily", "pourStatus", "(IIIII)I"⟩ prog_1_method_9_code 6 (Option.some Jvm.ClassFile.FieldType.int) ∈ m_tb := m_in (m_t3 (List.mem_of_getElem? (i := 30) rfl)) rfl
theorem w_co_C_read : Cond.code ⟨"RustFamily", "read", "(II)J"⟩ prog_1_method_7_code 3 (Option.some Jvm.ClassFile.FieldType.long) ∈ m_tb := m_in (m_t3 (List.mem_of_getElem? (i := 21) rfl)) rfl
theorem w_co_C_rule : Cond.code ⟨"RustFamily", "rule", "(II)Z"⟩ prog_1_method_34_code 3 (Option.some Jvm.ClassFile.FieldType.boolean) ∈ m_tb := m_in (m_t4 (List.mem_of_getElem? (i := 215) rfl)) rfl
theorem w_co_C_rustIn : Cond.code ⟨"RustFamily", "rustIn", "(II)I"⟩ prog_1_method_37_code 3 (Option.some Jvm.ClassFile.FieldType.int) ∈ m_tb := m_in (m_t4 (List.mem_of_getElem? (i := 222) rfl)) rfl
theorem w_co_C_seen : Cond.code ⟨"RustFamily", "seen", "(II)I"⟩ prog_1_method_49_code 3 (Option.some Jvm.ClassFile.FieldType.int) ∈ m_tb := m_in (m_t5 (List.mem_of_getElem? (i := 61) rfl)) rfl
theorem w_co_C_seenStatus : Cond.code ⟨"RustFamily", "seenStatus", "(II)I"⟩ prog_1_method_52_code 4 (Option.some Jvm.ClassFile.FieldType.int) ∈ m_tb := m_in (m_t5 (List.mem_of_getElem? (i := 65) rfl)) rfl
theorem w_co_C_showsIn : Cond.code ⟨"RustFamily", "showsIn", "(I)I"⟩ prog_1_method_41_code 3 (Option.some Jvm.ClassFile.FieldType.int) ∈ m_tb := m_in (m_t5 (List.mem_of_getElem? (i := 19) rfl)) rfl
theorem w_co_C_stable : Cond.code ⟨"RustFamily", "stable", "(II)I"⟩ prog_1_method_56_code 3 (Option.some Jvm.ClassFile.FieldType.int) ∈ m_tb := m_in (m_t5 (List.mem_of_getElem? (i := 169) rfl)) rfl
theorem w_co_C_stables : Cond.code ⟨"RustFamily", "stables", "(I)I"⟩ prog_1_method_57_code 2 (Option.some Jvm.ClassFile.FieldType.int) ∈ m_tb := m_in (m_t5 (List.mem_of_getElem? (i := 193) rfl)) rfl
theorem w_co_C_status : Cond.code ⟨"RustFamily", "status", "()I"⟩ prog_1_method_2_code 1 (Option.some Jvm.ClassFile.FieldType.int) ∈ m_tb := m_in (m_t2 (List.mem_of_getElem? (i := 211) rfl)) rfl
theorem w_co_C_sure : Cond.code ⟨"RustFamily", "sure", "(III)I"⟩ prog_1_method_50_code 4 (Option.some Jvm.ClassFile.FieldType.int) ∈ m_tb := m_in (m_t5 (List.mem_of_getElem? (i := 96) rfl)) rfl
theorem w_co_C_tell : Cond.code ⟨"RustFamily", "tell", "(JJ)V"⟩ prog_1_method_67_code 7 (Option.none : Option Jvm.ClassFile.FieldType) ∈ m_tb := m_in (m_t6 (List.mem_of_getElem? (i := 36) rfl)) rfl
theorem w_co_C_thickFor : Cond.code ⟨"RustFamily", "thickFor", "(III)I"⟩ prog_1_method_63_code 6 (Option.some Jvm.ClassFile.FieldType.int) ∈ m_tb := m_in (m_t6 (List.mem_of_getElem? (i := 46) rfl)) rfl
theorem w_co_C_thing : Cond.code ⟨"RustFamily", "thing", "(II)I"⟩ prog_1_method_19_code 4 (Option.some Jvm.ClassFile.FieldType.int) ∈ m_tb := m_in (m_t4 (List.mem_of_getElem? (i := 101) rfl)) rfl
theorem w_co_C_throughBy : Cond.code ⟨"RustFamily", "throughBy", "(I)I"⟩ prog_1_method_40_code 4 (Option.some Jvm.ClassFile.FieldType.int) ∈ m_tb := m_in (m_t5 (List.mem_of_getElem? (i := 15) rfl)) rfl
theorem w_co_C_throughIn : Cond.code ⟨"RustFamily", "throughIn", "(I)I"⟩ prog_1_method_38_code 2 (Option.some Jvm.ClassFile.FieldType.int) ∈ m_tb := m_in (m_t5 (List.mem_of_getElem? (i := 2) rfl)) rfl
theorem w_co_C_top : Cond.code ⟨"RustFamily", "top", "()J"⟩ prog_1_method_3_code 1 (Option.some Jvm.ClassFile.FieldType.long) ∈ m_tb := m_in (m_t2 (List.mem_of_getElem? (i := 215) rfl)) rfl
theorem w_co_C_tray : Cond.code ⟨"RustFamily", "tray", "(III)Z"⟩ prog_1_method_5_code 4 (Option.some Jvm.ClassFile.FieldType.boolean) ∈ m_tb := m_in (m_t2 (List.mem_of_getElem? (i := 223) rfl)) rfl
theorem w_co_C_trayStatus : Cond.code ⟨"RustFamily", "trayStatus", "(I)I"⟩ prog_1_method_11_code 2 (Option.some Jvm.ClassFile.FieldType.int) ∈ m_tb := m_in (m_t3 (List.mem_of_getElem? (i := 5) rfl)) rfl
theorem w_co_C_wholeStatus : Cond.code ⟨"RustFamily", "wholeStatus", "(I)I"⟩ prog_1_method_36_code 2 (Option.some Jvm.ClassFile.FieldType.int) ∈ m_tb := m_in (m_t4 (List.mem_of_getElem? (i := 173) rfl)) rfl
theorem w_co_C_worst : Cond.code ⟨"RustFamily", "worst", "(I)I"⟩ prog_1_method_43_code 6 (Option.some Jvm.ClassFile.FieldType.int) ∈ m_tb := m_in (m_t5 (List.mem_of_getElem? (i := 28) rfl)) rfl
theorem w_co_C_write : Cond.code ⟨"RustFamily", "write", "(IIJ)Z"⟩ prog_1_method_6_code 5 (Option.some Jvm.ClassFile.FieldType.boolean) ∈ m_tb := m_in (m_t2 (List.mem_of_getElem? (i := 237) rfl)) rfl
theorem w_co_C_year : Cond.code ⟨"RustFamily", "year", "(I)I"⟩ prog_1_method_26_code 3 (Option.some Jvm.ClassFile.FieldType.int) ∈ m_tb := m_in (m_t4 (List.mem_of_getElem? (i := 139) rfl)) rfl
theorem w_co_C_years : Cond.code ⟨"RustFamily", "years", "(I)I"⟩ prog_1_method_15_code 3 (Option.some Jvm.ClassFile.FieldType.int) ∈ m_tb := m_in (m_t4 (List.mem_of_getElem? (i := 0) rfl)) rfl
theorem w_co_M_init : Cond.code ⟨"RustFamilyModel", "<init>", "()V"⟩ prog_14_method_1_code 2 (Option.none : Option Jvm.ClassFile.FieldType) ∈ m_tb := m_in (m_t6 (List.mem_of_getElem? (i := 140) rfl)) rfl
theorem w_co_M_advance : Cond.code ⟨"RustFamilyModel", "advance", "()V"⟩ prog_14_method_25_code 2 (Option.none : Option Jvm.ClassFile.FieldType) ∈ m_tb := m_in (m_t7 (List.mem_of_getElem? (i := 127) rfl)) rfl
theorem w_co_M_ages : Cond.code ⟨"RustFamilyModel", "ages", "()V"⟩ prog_14_method_89_code 2 (Option.none : Option Jvm.ClassFile.FieldType) ∈ m_tb := m_in (m_t8 (List.mem_of_getElem? (i := 167) rfl)) rfl
theorem w_co_M_allRust : Cond.code ⟨"RustFamilyModel", "allRust", "()I"⟩ prog_14_method_82_code 3 (Option.some Jvm.ClassFile.FieldType.int) ∈ m_tb := m_in (m_t8 (List.mem_of_getElem? (i := 103) rfl)) rfl
theorem w_co_M_amiss : Cond.code ⟨"RustFamilyModel", "amiss", "()V"⟩ prog_14_method_46_code 1 (Option.none : Option Jvm.ClassFile.FieldType) ∈ m_tb := m_in (m_t7 (List.mem_of_getElem? (i := 177) rfl)) rfl
theorem w_co_M_anyYears : Cond.code ⟨"RustFamilyModel", "anyYears", "(I)Z"⟩ prog_14_method_153_code 4 (Option.some Jvm.ClassFile.FieldType.boolean) ∈ m_tb := m_in (m_t9 (List.mem_of_getElem? (i := 216) rfl)) rfl
theorem w_co_M_arePeople : Cond.code ⟨"RustFamilyModel", "arePeople", "(I)Z"⟩ prog_14_method_127_code 2 (Option.some Jvm.ClassFile.FieldType.boolean) ∈ m_tb := m_in (m_t9 (List.mem_of_getElem? (i := 91) rfl)) rfl
theorem w_co_M_ask : Cond.code ⟨"RustFamilyModel", "ask", "(II)I"⟩ prog_14_method_126_code 5 (Option.some Jvm.ClassFile.FieldType.int) ∈ m_tb := m_in (m_t9 (List.mem_of_getElem? (i := 79) rfl)) rfl
theorem w_co_M_asker : Cond.code ⟨"RustFamilyModel", "asker", "(I)I"⟩ prog_14_method_133_code 3 (Option.some Jvm.ClassFile.FieldType.int) ∈ m_tb := m_in (m_t9 (List.mem_of_getElem? (i := 115) rfl)) rfl
theorem w_co_M_back : Cond.code ⟨"RustFamilyModel", "back", "()I"⟩ prog_14_method_168_code 1 (Option.some Jvm.ClassFile.FieldType.int) ∈ m_tb := m_in (m_t10 (List.mem_of_getElem? (i := 17) rfl)) rfl
theorem w_co_M_becomes : Cond.code ⟨"RustFamilyModel", "becomes", "(II)Z"⟩ prog_14_method_154_code 3 (Option.some Jvm.ClassFile.FieldType.boolean) ∈ m_tb := m_in (m_t9 (List.mem_of_getElem? (i := 220) rfl)) rfl
theorem w_co_M_behindWord : Cond.code ⟨"RustFamilyModel", "behindWord", "(ZII)I"⟩ prog_14_method_49_code 4 (Option.some Jvm.ClassFile.FieldType.int) ∈ m_tb := m_in (m_t8 (List.mem_of_getElem? (i := 17) rfl)) rfl
theorem w_co_M_biteOf : Cond.code ⟨"RustFamilyModel", "biteOf", "(I)I"⟩ prog_14_method_77_code 2 (Option.some Jvm.ClassFile.FieldType.int) ∈ m_tb := m_in (m_t8 (List.mem_of_getElem? (i := 137) rfl)) rfl
theorem w_co_M_bitten : Cond.code ⟨"RustFamilyModel", "bitten", "(IIZ)I"⟩ prog_14_method_76_code 3 (Option.some Jvm.ClassFile.FieldType.int) ∈ m_tb := m_in (m_t8 (List.mem_of_getElem? (i := 140) rfl)) rfl
theorem w_co_M_blame : Cond.code ⟨"RustFamilyModel", "blame", "(I)Z"⟩ prog_14_method_151_code 5 (Option.some Jvm.ClassFile.FieldType.boolean) ∈ m_tb := m_in (m_t9 (List.mem_of_getElem? (i := 191) rfl)) rfl
theorem w_co_M_born : Cond.code ⟨"RustFamilyModel", "born", "(IZ)I"⟩ prog_14_method_102_code 5 (Option.some Jvm.ClassFile.FieldType.int) ∈ m_tb := m_in (m_t8 (List.mem_of_getElem? (i := 214) rfl)) rfl
theorem w_co_M_bottom : Cond.code ⟨"RustFamilyModel", "bottom", "()J"⟩ prog_14_method_5_code 1 (Option.some Jvm.ClassFile.FieldType.long) ∈ m_tb := m_in (m_t7 (List.mem_of_getElem? (i := 71) rfl)) rfl
theorem w_co_M_breathe : Cond.code ⟨"RustFamilyModel", "breathe", "(I)I"⟩ prog_14_method_100_code 2 (Option.some Jvm.ClassFile.FieldType.int) ∈ m_tb := m_in (m_t8 (List.mem_of_getElem? (i := 202) rfl)) rfl
theorem w_co_M_breathed : Cond.code ⟨"RustFamilyModel", "breathed", "(I)Z"⟩ prog_14_method_99_code 2 (Option.some Jvm.ClassFile.FieldType.boolean) ∈ m_tb := m_in (m_t8 (List.mem_of_getElem? (i := 206) rfl)) rfl
theorem w_co_M_canKeep : Cond.code ⟨"RustFamilyModel", "canKeep", "(I)Z"⟩ prog_14_method_128_code 2 (Option.some Jvm.ClassFile.FieldType.boolean) ∈ m_tb := m_in (m_t9 (List.mem_of_getElem? (i := 95) rfl)) rfl
theorem w_co_M_coat : Cond.code ⟨"RustFamilyModel", "coat", "(II)I"⟩ prog_14_method_96_code 3 (Option.some Jvm.ClassFile.FieldType.int) ∈ m_tb := m_in (m_t8 (List.mem_of_getElem? (i := 185) rfl)) rfl
theorem w_co_M_coats : Cond.code ⟨"RustFamilyModel", "coats", "(II)I"⟩ prog_14_method_95_code 3 (Option.some Jvm.ClassFile.FieldType.int) ∈ m_tb := m_in (m_t8 (List.mem_of_getElem? (i := 190) rfl)) rfl
theorem w_co_M_copy : Cond.code ⟨"RustFamilyModel", "copy", "(II)V"⟩ prog_14_method_166_code 4 (Option.none : Option Jvm.ClassFile.FieldType) ∈ m_tb := m_in (m_t8 (List.mem_of_getElem? (i := 50) rfl)) rfl
theorem w_co_M_copyRust : Cond.code ⟨"RustFamilyModel", "copyRust", "(I)I"⟩ prog_14_method_88_code 3 (Option.some Jvm.ClassFile.FieldType.int) ∈ m_tb := m_in (m_t8 (List.mem_of_getElem? (i := 148) rfl)) rfl
theorem w_co_M_count : Cond.code ⟨"RustFamilyModel", "count", "(II)I"⟩ prog_14_method_48_code 4 (Option.some Jvm.ClassFile.FieldType.int) ∈ m_tb := m_in (m_t7 (List.mem_of_getElem? (i := 173) rfl)) rfl
theorem w_co_M_cut : Cond.code ⟨"RustFamilyModel", "cut", "(IJ)J"⟩ prog_14_method_10_code 3 (Option.some Jvm.ClassFile.FieldType.long) ∈ m_tb := m_in (m_t7 (List.mem_of_getElem? (i := 94) rfl)) rfl
theorem w_co_M_diesIn : Cond.code ⟨"RustFamilyModel", "diesIn", "(I)I"⟩ prog_14_method_113_code 2 (Option.some Jvm.ClassFile.FieldType.int) ∈ m_tb := m_in (m_t9 (List.mem_of_getElem? (i := 22) rfl)) rfl
theorem w_co_M_doAll : Cond.code ⟨"RustFamilyModel", "doAll", "(II)V"⟩ prog_14_method_161_code 4 (Option.none : Option Jvm.ClassFile.FieldType) ∈ m_tb := m_in (m_t9 (List.mem_of_getElem? (i := 204) rfl)) rfl
theorem w_co_M_doOne : Cond.code ⟨"RustFamilyModel", "doOne", "(I)V"⟩ prog_14_method_160_code 5 (Option.none : Option Jvm.ClassFile.FieldType) ∈ m_tb := m_in (m_t9 (List.mem_of_getElem? (i := 208) rfl)) rfl
theorem w_co_M_does : Cond.code ⟨"RustFamilyModel", "does", "(I)Z"⟩ prog_14_method_158_code 3 (Option.some Jvm.ClassFile.FieldType.boolean) ∈ m_tb := m_in (m_t9 (List.mem_of_getElem? (i := 212) rfl)) rfl
theorem w_co_M_dote : Cond.code ⟨"RustFamilyModel", "dote", "(III)I"⟩ prog_14_method_93_code 5 (Option.some Jvm.ClassFile.FieldType.int) ∈ m_tb := m_in (m_t8 (List.mem_of_getElem? (i := 176) rfl)) rfl
theorem w_co_M_draw : Cond.code ⟨"RustFamilyModel", "draw", "(I)I"⟩ prog_14_method_152_code 2 (Option.some Jvm.ClassFile.FieldType.int) ∈ m_tb := m_in (m_t9 (List.mem_of_getElem? (i := 228) rfl)) rfl
theorem w_co_M_empties : Cond.code ⟨"RustFamilyModel", "empties", "(I)V"⟩ prog_14_method_56_code 4 (Option.none : Option Jvm.ClassFile.FieldType) ∈ m_tb := m_in (m_t6 (List.mem_of_getElem? (i := 145) rfl)) rfl
theorem w_co_M_fail : Cond.code ⟨"RustFamilyModel", "fail", "(II)V"⟩ prog_14_method_45_code 3 (Option.none : Option Jvm.ClassFile.FieldType) ∈ m_tb := m_in (m_t7 (List.mem_of_getElem? (i := 169) rfl)) rfl
theorem w_co_M_family : Cond.code ⟨"RustFamilyModel", "family", "(I)I"⟩ prog_14_method_65_code 2 (Option.some Jvm.ClassFile.FieldType.int) ∈ m_tb := m_in (m_t7 (List.mem_of_getElem? (i := 119) rfl)) rfl
theorem w_co_M_fault : Cond.code ⟨"RustFamilyModel", "fault", "(I)I"⟩ prog_14_method_55_code 2 (Option.some Jvm.ClassFile.FieldType.int) ∈ m_tb := m_in (m_t7 (List.mem_of_getElem? (i := 115) rfl)) rfl
theorem w_co_M_feed : Cond.code ⟨"RustFamilyModel", "feed", "(IIIII)I"⟩ prog_14_method_51_code 6 (Option.some Jvm.ClassFile.FieldType.int) ∈ m_tb := m_in (m_t7 (List.mem_of_getElem? (i := 107) rfl)) rfl
theorem w_co_M_firstThrough : Cond.code ⟨"RustFamilyModel", "firstThrough", "()I"⟩ prog_14_method_110_code 2 (Option.some Jvm.ClassFile.FieldType.int) ∈ m_tb := m_in (m_t9 (List.mem_of_getElem? (i := 10) rfl)) rfl
theorem w_co_M_forge : Cond.code ⟨"RustFamilyModel", "forge", "(I)I"⟩ prog_14_method_101_code 4 (Option.some Jvm.ClassFile.FieldType.int) ∈ m_tb := m_in (m_t8 (List.mem_of_getElem? (i := 210) rfl)) rfl
theorem w_co_M_fraction : Cond.code ⟨"RustFamilyModel", "fraction", "(JJ)Z"⟩ prog_14_method_9_code 11 (Option.some Jvm.ClassFile.FieldType.boolean) ∈ m_tb := m_in (m_t9 (List.mem_of_getElem? (i := 180) rfl)) rfl
theorem w_co_M_game : Cond.code ⟨"RustFamilyModel", "game", "(III)I"⟩ prog_14_method_145_code 4 (Option.some Jvm.ClassFile.FieldType.int) ∈ m_tb := m_in (m_t9 (List.mem_of_getElem? (i := 139) rfl)) rfl
theorem w_co_M_gives : Cond.code ⟨"RustFamilyModel", "gives", "()V"⟩ prog_14_method_105_code 2 (Option.none : Option Jvm.ClassFile.FieldType) ∈ m_tb := m_in (m_t8 (List.mem_of_getElem? (i := 238) rfl)) rfl
theorem w_co_M_goesYear : Cond.code ⟨"RustFamilyModel", "goesYear", "()V"⟩ prog_14_method_91_code 2 (Option.none : Option Jvm.ClassFile.FieldType) ∈ m_tb := m_in (m_t8 (List.mem_of_getElem? (i := 163) rfl)) rfl
theorem w_co_M_has : Cond.code ⟨"RustFamilyModel", "has", "(II)Z"⟩ prog_14_method_19_code 2 (Option.some Jvm.ClassFile.FieldType.boolean) ∈ m_tb := m_in (m_t7 (List.mem_of_getElem? (i := 165) rfl)) rfl
theorem w_co_M_isAge : Cond.code ⟨"RustFamilyModel", "isAge", "()Z"⟩ prog_14_method_34_code 1 (Option.some Jvm.ClassFile.FieldType.boolean) ∈ m_tb := m_in (m_t7 (List.mem_of_getElem? (i := 216) rfl)) rfl
theorem w_co_M_isAhead : Cond.code ⟨"RustFamilyModel", "isAhead", "(I)Z"⟩ prog_14_method_106_code 1 (Option.some Jvm.ClassFile.FieldType.boolean) ∈ m_tb := m_in (m_t8 (List.mem_of_getElem? (i := 229) rfl)) rfl
theorem w_co_M_isAny : Cond.code ⟨"RustFamilyModel", "isAny", "()Z"⟩ prog_14_method_156_code 1 (Option.some Jvm.ClassFile.FieldType.boolean) ∈ m_tb := m_in (m_t9 (List.mem_of_getElem? (i := 224) rfl)) rfl
theorem w_co_M_isBitten : Cond.code ⟨"RustFamilyModel", "isBitten", "(II)V"⟩ prog_14_method_90_code 4 (Option.none : Option Jvm.ClassFile.FieldType) ∈ m_tb := m_in (m_t8 (List.mem_of_getElem? (i := 171) rfl)) rfl
theorem w_co_M_isBreath : Cond.code ⟨"RustFamilyModel", "isBreath", "()Z"⟩ prog_14_method_32_code 1 (Option.some Jvm.ClassFile.FieldType.boolean) ∈ m_tb := m_in (m_t7 (List.mem_of_getElem? (i := 192) rfl)) rfl
theorem w_co_M_isBreathed : Cond.code ⟨"RustFamilyModel", "isBreathed", "(I)Z"⟩ prog_14_method_155_code 2 (Option.some Jvm.ClassFile.FieldType.boolean) ∈ m_tb := m_in (m_t9 (List.mem_of_getElem? (i := 233) rfl)) rfl
theorem w_co_M_isCoat : Cond.code ⟨"RustFamilyModel", "isCoat", "()Z"⟩ prog_14_method_38_code 1 (Option.some Jvm.ClassFile.FieldType.boolean) ∈ m_tb := m_in (m_t8 (List.mem_of_getElem? (i := 0) rfl)) rfl
theorem w_co_M_isDamp : Cond.code ⟨"RustFamilyModel", "isDamp", "()Z"⟩ prog_14_method_31_code 1 (Option.some Jvm.ClassFile.FieldType.boolean) ∈ m_tb := m_in (m_t7 (List.mem_of_getElem? (i := 188) rfl)) rfl
theorem w_co_M_isDigit : Cond.code ⟨"RustFamilyModel", "isDigit", "(I)Z"⟩ prog_14_method_23_code 1 (Option.some Jvm.ClassFile.FieldType.boolean) ∈ m_tb := m_in (m_t7 (List.mem_of_getElem? (i := 139) rfl)) rfl
theorem w_co_M_isEnd : Cond.code ⟨"RustFamilyModel", "isEnd", "()Z"⟩ prog_14_method_42_code 1 (Option.some Jvm.ClassFile.FieldType.boolean) ∈ m_tb := m_in (m_t8 (List.mem_of_getElem? (i := 9) rfl)) rfl
theorem w_co_M_isIn : Cond.code ⟨"RustFamilyModel", "isIn", "(JJJ)Z"⟩ prog_14_method_8_code 6 (Option.some Jvm.ClassFile.FieldType.boolean) ∈ m_tb := m_in (m_t7 (List.mem_of_getElem? (i := 180) rfl)) rfl
theorem w_co_M_isKept : Cond.code ⟨"RustFamilyModel", "isKept", "()Z"⟩ prog_14_method_43_code 1 (Option.some Jvm.ClassFile.FieldType.boolean) ∈ m_tb := m_in (m_t7 (List.mem_of_getElem? (i := 212) rfl)) rfl
theorem w_co_M_isLetter : Cond.code ⟨"RustFamilyModel", "isLetter", "(I)Z"⟩ prog_14_method_22_code 1 (Option.some Jvm.ClassFile.FieldType.boolean) ∈ m_tb := m_in (m_t7 (List.mem_of_getElem? (i := 134) rfl)) rfl
theorem w_co_M_isLife : Cond.code ⟨"RustFamilyModel", "isLife", "()Z"⟩ prog_14_method_30_code 1 (Option.some Jvm.ClassFile.FieldType.boolean) ∈ m_tb := m_in (m_t7 (List.mem_of_getElem? (i := 184) rfl)) rfl
theorem w_co_M_isLoves : Cond.code ⟨"RustFamilyModel", "isLoves", "()Z"⟩ prog_14_method_39_code 1 (Option.some Jvm.ClassFile.FieldType.boolean) ∈ m_tb := m_in (m_t7 (List.mem_of_getElem? (i := 236) rfl)) rfl
theorem w_co_M_isName : Cond.code ⟨"RustFamilyModel", "isName", "()Z"⟩ prog_14_method_44_code 1 (Option.some Jvm.ClassFile.FieldType.boolean) ∈ m_tb := m_in (m_t7 (List.mem_of_getElem? (i := 208) rfl)) rfl
theorem w_co_M_isOf : Cond.code ⟨"RustFamilyModel", "isOf", "()Z"⟩ prog_14_method_35_code 1 (Option.some Jvm.ClassFile.FieldType.boolean) ∈ m_tb := m_in (m_t7 (List.mem_of_getElem? (i := 220) rfl)) rfl
theorem w_co_M_isPerson : Cond.code ⟨"RustFamilyModel", "isPerson", "()Z"⟩ prog_14_method_33_code 1 (Option.some Jvm.ClassFile.FieldType.boolean) ∈ m_tb := m_in (m_t7 (List.mem_of_getElem? (i := 196) rfl)) rfl
theorem w_co_M_isPersonAt : Cond.code ⟨"RustFamilyModel", "isPersonAt", "(I)Z"⟩ prog_14_method_70_code 2 (Option.some Jvm.ClassFile.FieldType.boolean) ∈ m_tb := m_in (m_t8 (List.mem_of_getElem? (i := 111) rfl)) rfl
theorem w_co_M_isSeen : Cond.code ⟨"RustFamilyModel", "isSeen", "(III)Z"⟩ prog_14_method_121_code 5 (Option.some Jvm.ClassFile.FieldType.boolean) ∈ m_tb := m_in (m_t9 (List.mem_of_getElem? (i := 71) rfl)) rfl
theorem w_co_M_isShows : Cond.code ⟨"RustFamilyModel", "isShows", "()Z"⟩ prog_14_method_29_code 1 (Option.some Jvm.ClassFile.FieldType.boolean) ∈ m_tb := m_in (m_t7 (List.mem_of_getElem? (i := 151) rfl)) rfl
theorem w_co_M_isSign : Cond.code ⟨"RustFamilyModel", "isSign", "(I)Z"⟩ prog_14_method_26_code 2 (Option.some Jvm.ClassFile.FieldType.boolean) ∈ m_tb := m_in (m_t8 (List.mem_of_getElem? (i := 42) rfl)) rfl
theorem w_co_M_isSignByte : Cond.code ⟨"RustFamilyModel", "isSignByte", "(I)Z"⟩ prog_14_method_24_code 2 (Option.some Jvm.ClassFile.FieldType.boolean) ∈ m_tb := m_in (m_t7 (List.mem_of_getElem? (i := 143) rfl)) rfl
theorem w_co_M_isSo : Cond.code ⟨"RustFamilyModel", "isSo", "(I)Z"⟩ prog_14_method_159_code 5 (Option.some Jvm.ClassFile.FieldType.boolean) ∈ m_tb := m_in (m_t10 (List.mem_of_getElem? (i := 1) rfl)) rfl
theorem w_co_M_isStable : Cond.code ⟨"RustFamilyModel", "isStable", "(I)Z"⟩ prog_14_method_136_code 5 (Option.some Jvm.ClassFile.FieldType.boolean) ∈ m_tb := m_in (m_t9 (List.mem_of_getElem? (i := 131) rfl)) rfl
theorem w_co_M_isThick : Cond.code ⟨"RustFamilyModel", "isThick", "()Z"⟩ prog_14_method_37_code 1 (Option.some Jvm.ClassFile.FieldType.boolean) ∈ m_tb := m_in (m_t7 (List.mem_of_getElem? (i := 228) rfl)) rfl
theorem w_co_M_isThing : Cond.code ⟨"RustFamilyModel", "isThing", "()Z"⟩ prog_14_method_36_code 1 (Option.some Jvm.ClassFile.FieldType.boolean) ∈ m_tb := m_in (m_t7 (List.mem_of_getElem? (i := 224) rfl)) rfl
theorem w_co_M_isThingAt : Cond.code ⟨"RustFamilyModel", "isThingAt", "(I)Z"⟩ prog_14_method_71_code 2 (Option.some Jvm.ClassFile.FieldType.boolean) ∈ m_tb := m_in (m_t8 (List.mem_of_getElem? (i := 128) rfl)) rfl
theorem w_co_M_isThrough : Cond.code ⟨"RustFamilyModel", "isThrough", "(I)Z"⟩ prog_14_method_72_code 2 (Option.some Jvm.ClassFile.FieldType.boolean) ∈ m_tb := m_in (m_t8 (List.mem_of_getElem? (i := 95) rfl)) rfl
theorem w_co_M_isTray : Cond.code ⟨"RustFamilyModel", "isTray", "(I)Z"⟩ prog_14_method_18_code 2 (Option.some Jvm.ClassFile.FieldType.boolean) ∈ m_tb := m_in (m_t8 (List.mem_of_getElem? (i := 152) rfl)) rfl
theorem w_co_M_isWell : Cond.code ⟨"RustFamilyModel", "isWell", "()Z"⟩ prog_14_method_54_code 1 (Option.some Jvm.ClassFile.FieldType.boolean) ∈ m_tb := m_in (m_t8 (List.mem_of_getElem? (i := 46) rfl)) rfl
theorem w_co_M_isWord : Cond.code ⟨"RustFamilyModel", "isWord", "(J)Z"⟩ prog_14_method_28_code 3 (Option.some Jvm.ClassFile.FieldType.boolean) ∈ m_tb := m_in (m_t7 (List.mem_of_getElem? (i := 158) rfl)) rfl
theorem w_co_M_jars : Cond.code ⟨"RustFamilyModel", "jars", "(II)I"⟩ prog_14_method_117_code 4 (Option.some Jvm.ClassFile.FieldType.int) ∈ m_tb := m_in (m_t9 (List.mem_of_getElem? (i := 31) rfl)) rfl
theorem w_co_M_jarsFor : Cond.code ⟨"RustFamilyModel", "jarsFor", "(II)I"⟩ prog_14_method_118_code 6 (Option.some Jvm.ClassFile.FieldType.int) ∈ m_tb := m_in (m_t9 (List.mem_of_getElem? (i := 46) rfl)) rfl
theorem w_co_M_jarsOf : Cond.code ⟨"RustFamilyModel", "jarsOf", "(II)I"⟩ prog_14_method_116_code 5 (Option.some Jvm.ClassFile.FieldType.int) ∈ m_tb := m_in (m_t9 (List.mem_of_getElem? (i := 35) rfl)) rfl
theorem w_co_M_keeping : Cond.code ⟨"RustFamilyModel", "keeping", "(I)I"⟩ prog_14_method_130_code 2 (Option.some Jvm.ClassFile.FieldType.int) ∈ m_tb := m_in (m_t9 (List.mem_of_getElem? (i := 87) rfl)) rfl
theorem w_co_M_keepings : Cond.code ⟨"RustFamilyModel", "keepings", "(IIII)V"⟩ prog_14_method_129_code 6 (Option.none : Option Jvm.ClassFile.FieldType) ∈ m_tb := m_in (m_t9 (List.mem_of_getElem? (i := 99) rfl)) rfl
theorem w_co_M_keeps : Cond.code ⟨"RustFamilyModel", "keeps", "(II)I"⟩ prog_14_method_131_code 3 (Option.some Jvm.ClassFile.FieldType.int) ∈ m_tb := m_in (m_t9 (List.mem_of_getElem? (i := 103) rfl)) rfl
theorem w_co_M_lasts : Cond.code ⟨"RustFamilyModel", "lasts", "(II)Z"⟩ prog_14_method_149_code 3 (Option.some Jvm.ClassFile.FieldType.boolean) ∈ m_tb := m_in (m_t9 (List.mem_of_getElem? (i := 167) rfl)) rfl
theorem w_co_M_lastsBy : Cond.code ⟨"RustFamilyModel", "lastsBy", "(III)Z"⟩ prog_14_method_115_code 6 (Option.some Jvm.ClassFile.FieldType.boolean) ∈ m_tb := m_in (m_t9 (List.mem_of_getElem? (i := 42) rfl)) rfl
theorem w_co_M_lastsIf : Cond.code ⟨"RustFamilyModel", "lastsIf", "(II)J"⟩ prog_14_method_148_code 6 (Option.some Jvm.ClassFile.FieldType.long) ∈ m_tb := m_in (m_t9 (List.mem_of_getElem? (i := 176) rfl)) rfl
theorem w_co_M_lay : Cond.code ⟨"RustFamilyModel", "lay", "(I)V"⟩ prog_14_method_52_code 3 (Option.none : Option Jvm.ClassFile.FieldType) ∈ m_tb := m_in (m_t7 (List.mem_of_getElem? (i := 111) rfl)) rfl
theorem w_co_M_laysBites : Cond.code ⟨"RustFamilyModel", "laysBites", "(II)V"⟩ prog_14_method_147_code 8 (Option.none : Option Jvm.ClassFile.FieldType) ∈ m_tb := m_in (m_t9 (List.mem_of_getElem? (i := 171) rfl)) rfl
theorem w_co_M_laysSeen : Cond.code ⟨"RustFamilyModel", "laysSeen", "(II)V"⟩ prog_14_method_122_code 8 (Option.none : Option Jvm.ClassFile.FieldType) ∈ m_tb := m_in (m_t9 (List.mem_of_getElem? (i := 67) rfl)) rfl
theorem w_co_M_laysStable : Cond.code ⟨"RustFamilyModel", "laysStable", "(I)V"⟩ prog_14_method_134_code 5 (Option.none : Option Jvm.ClassFile.FieldType) ∈ m_tb := m_in (m_t9 (List.mem_of_getElem? (i := 111) rfl)) rfl
theorem w_co_M_laysTurn : Cond.code ⟨"RustFamilyModel", "laysTurn", "(I)V"⟩ prog_14_method_140_code 3 (Option.none : Option Jvm.ClassFile.FieldType) ∈ m_tb := m_in (m_t9 (List.mem_of_getElem? (i := 151) rfl)) rfl
theorem w_co_M_less : Cond.code ⟨"RustFamilyModel", "less", "(III)I"⟩ prog_14_method_119_code 7 (Option.some Jvm.ClassFile.FieldType.int) ∈ m_tb := m_in (m_t9 (List.mem_of_getElem? (i := 50) rfl)) rfl
theorem w_co_M_live : Cond.code ⟨"RustFamilyModel", "live", "(I)I"⟩ prog_14_method_163_code 2 (Option.some Jvm.ClassFile.FieldType.int) ∈ m_tb := m_in (m_t9 (List.mem_of_getElem? (i := 195) rfl)) rfl
theorem w_co_M_lived : Cond.code ⟨"RustFamilyModel", "lived", "(I)I"⟩ prog_14_method_164_code 2 (Option.some Jvm.ClassFile.FieldType.int) ∈ m_tb := m_in (m_t10 (List.mem_of_getElem? (i := 5) rfl)) rfl
theorem w_co_M_living : Cond.code ⟨"RustFamilyModel", "living", "()I"⟩ prog_14_method_78_code 3 (Option.some Jvm.ClassFile.FieldType.int) ∈ m_tb := m_in (m_t8 (List.mem_of_getElem? (i := 79) rfl)) rfl
theorem w_co_M_look2 : Cond.code ⟨"RustFamilyModel", "look2", "(I)I"⟩ prog_14_method_21_code 2 (Option.some Jvm.ClassFile.FieldType.int) ∈ m_tb := m_in (m_t7 (List.mem_of_getElem? (i := 131) rfl)) rfl
theorem w_co_M_love : Cond.code ⟨"RustFamilyModel", "love", "(II)I"⟩ prog_14_method_87_code 3 (Option.some Jvm.ClassFile.FieldType.int) ∈ m_tb := m_in (m_t8 (List.mem_of_getElem? (i := 144) rfl)) rfl
theorem w_co_M_loveOf : Cond.code ⟨"RustFamilyModel", "loveOf", "(II)I"⟩ prog_14_method_74_code 3 (Option.some Jvm.ClassFile.FieldType.int) ∈ m_tb := m_in (m_t8 (List.mem_of_getElem? (i := 120) rfl)) rfl
theorem w_co_M_lovedOf : Cond.code ⟨"RustFamilyModel", "lovedOf", "(I)I"⟩ prog_14_method_75_code 4 (Option.some Jvm.ClassFile.FieldType.int) ∈ m_tb := m_in (m_t8 (List.mem_of_getElem? (i := 133) rfl)) rfl
theorem w_co_M_lovedThings : Cond.code ⟨"RustFamilyModel", "lovedThings", "(I)I"⟩ prog_14_method_84_code 4 (Option.some Jvm.ClassFile.FieldType.int) ∈ m_tb := m_in (m_t8 (List.mem_of_getElem? (i := 116) rfl)) rfl
theorem w_co_M_many : Cond.code ⟨"RustFamilyModel", "many", "(I)I"⟩ prog_14_method_83_code 2 (Option.some Jvm.ClassFile.FieldType.int) ∈ m_tb := m_in (m_t8 (List.mem_of_getElem? (i := 70) rfl)) rfl
theorem w_co_M_mark : Cond.code ⟨"RustFamilyModel", "mark", "()I"⟩ prog_14_method_167_code 1 (Option.some Jvm.ClassFile.FieldType.int) ∈ m_tb := m_in (m_t10 (List.mem_of_getElem? (i := 13) rfl)) rfl
theorem w_co_M_mean : Cond.code ⟨"RustFamilyModel", "mean", "(II)Z"⟩ prog_14_method_165_code 7 (Option.some Jvm.ClassFile.FieldType.boolean) ∈ m_tb := m_in (m_t10 (List.mem_of_getElem? (i := 9) rfl)) rfl
theorem w_co_M_mend : Cond.code ⟨"RustFamilyModel", "mend", "(I)I"⟩ prog_14_method_98_code 2 (Option.some Jvm.ClassFile.FieldType.int) ∈ m_tb := m_in (m_t8 (List.mem_of_getElem? (i := 194) rfl)) rfl
theorem w_co_M_mends : Cond.code ⟨"RustFamilyModel", "mends", "(I)I"⟩ prog_14_method_97_code 2 (Option.some Jvm.ClassFile.FieldType.int) ∈ m_tb := m_in (m_t8 (List.mem_of_getElem? (i := 198) rfl)) rfl
theorem w_co_M_moveOf : Cond.code ⟨"RustFamilyModel", "moveOf", "(III)I"⟩ prog_14_method_146_code 4 (Option.some Jvm.ClassFile.FieldType.int) ∈ m_tb := m_in (m_t9 (List.mem_of_getElem? (i := 163) rfl)) rfl
theorem w_co_M_moves : Cond.code ⟨"RustFamilyModel", "moves", "(III)Z"⟩ prog_14_method_142_code 4 (Option.some Jvm.ClassFile.FieldType.boolean) ∈ m_tb := m_in (m_t9 (List.mem_of_getElem? (i := 155) rfl)) rfl
theorem w_co_M_must : Cond.code ⟨"RustFamilyModel", "must", "(Z)V"⟩ prog_14_method_47_code 2 (Option.none : Option Jvm.ClassFile.FieldType) ∈ m_tb := m_in (m_t8 (List.mem_of_getElem? (i := 21) rfl)) rfl
theorem w_co_M_named : Cond.code ⟨"RustFamilyModel", "named", "(II)I"⟩ prog_14_method_57_code 4 (Option.some Jvm.ClassFile.FieldType.int) ∈ m_tb := m_in (m_t8 (List.mem_of_getElem? (i := 13) rfl)) rfl
theorem w_co_M_nextAsked : Cond.code ⟨"RustFamilyModel", "nextAsked", "(I)I"⟩ prog_14_method_132_code 4 (Option.some Jvm.ClassFile.FieldType.int) ∈ m_tb := m_in (m_t9 (List.mem_of_getElem? (i := 119) rfl)) rfl
theorem w_co_M_no : Cond.code ⟨"RustFamilyModel", "no", "(I)Z"⟩ prog_14_method_7_code 2 (Option.some Jvm.ClassFile.FieldType.boolean) ∈ m_tb := m_in (m_t7 (List.mem_of_getElem? (i := 79) rfl)) rfl
theorem w_co_M_numberOf : Cond.code ⟨"RustFamilyModel", "numberOf", "(II)J"⟩ prog_14_method_17_code 3 (Option.some Jvm.ClassFile.FieldType.long) ∈ m_tb := m_in (m_t9 (List.mem_of_getElem? (i := 63) rfl)) rfl
theorem w_co_M_oil : Cond.code ⟨"RustFamilyModel", "oil", "(I)I"⟩ prog_14_method_94_code 2 (Option.some Jvm.ClassFile.FieldType.int) ∈ m_tb := m_in (m_t8 (List.mem_of_getElem? (i := 181) rfl)) rfl
theorem w_co_M_oiled : Cond.code ⟨"RustFamilyModel", "oiled", "()I"⟩ prog_14_method_81_code 3 (Option.some Jvm.ClassFile.FieldType.int) ∈ m_tb := m_in (m_t8 (List.mem_of_getElem? (i := 99) rfl)) rfl
theorem w_co_M_onThing : Cond.code ⟨"RustFamilyModel", "onThing", "(III)Z"⟩ prog_14_method_157_code 4 (Option.some Jvm.ClassFile.FieldType.boolean) ∈ m_tb := m_in (m_t9 (List.mem_of_getElem? (i := 237) rfl)) rfl
theorem w_co_M_perhaps : Cond.code ⟨"RustFamilyModel", "perhaps", "(Z)Z"⟩ prog_14_method_50_code 2 (Option.some Jvm.ClassFile.FieldType.boolean) ∈ m_tb := m_in (m_t8 (List.mem_of_getElem? (i := 25) rfl)) rfl
theorem w_co_M_person : Cond.code ⟨"RustFamilyModel", "person", "(II)I"⟩ prog_14_method_85_code 3 (Option.some Jvm.ClassFile.FieldType.int) ∈ m_tb := m_in (m_t8 (List.mem_of_getElem? (i := 107) rfl)) rfl
theorem w_co_M_placed : Cond.code ⟨"RustFamilyModel", "placed", "(II)I"⟩ prog_14_method_13_code 4 (Option.some Jvm.ClassFile.FieldType.int) ∈ m_tb := m_in (m_t7 (List.mem_of_getElem? (i := 87) rfl)) rfl
theorem w_co_M_plays : Cond.code ⟨"RustFamilyModel", "plays", "(IIII)I"⟩ prog_14_method_143_code 10 (Option.some Jvm.ClassFile.FieldType.int) ∈ m_tb := m_in (m_t9 (List.mem_of_getElem? (i := 147) rfl)) rfl
theorem w_co_M_pour : Cond.code ⟨"RustFamilyModel", "pour", "(IIIII)Z"⟩ prog_14_method_16_code 9 (Option.some Jvm.ClassFile.FieldType.boolean) ∈ m_tb := m_in (m_t7 (List.mem_of_getElem? (i := 103) rfl)) rfl
theorem w_co_M_puts : Cond.code ⟨"RustFamilyModel", "puts", "()V"⟩ prog_14_method_104_code 2 (Option.none : Option Jvm.ClassFile.FieldType) ∈ m_tb := m_in (m_t8 (List.mem_of_getElem? (i := 234) rfl)) rfl
theorem w_co_M_read : Cond.code ⟨"RustFamilyModel", "read", "(II)J"⟩ prog_14_method_15_code 3 (Option.some Jvm.ClassFile.FieldType.long) ∈ m_tb := m_in (m_t7 (List.mem_of_getElem? (i := 98) rfl)) rfl
theorem w_co_M_readLoves : Cond.code ⟨"RustFamilyModel", "readLoves", "()V"⟩ prog_14_method_63_code 4 (Option.none : Option Jvm.ClassFile.FieldType) ∈ m_tb := m_in (m_t8 (List.mem_of_getElem? (i := 33) rfl)) rfl
theorem w_co_M_readNew : Cond.code ⟨"RustFamilyModel", "readNew", "(II)I"⟩ prog_14_method_58_code 4 (Option.some Jvm.ClassFile.FieldType.int) ∈ m_tb := m_in (m_t7 (List.mem_of_getElem? (i := 204) rfl)) rfl
theorem w_co_M_readOnce : Cond.code ⟨"RustFamilyModel", "readOnce", "(III)V"⟩ prog_14_method_60_code 4 (Option.none : Option Jvm.ClassFile.FieldType) ∈ m_tb := m_in (m_t7 (List.mem_of_getElem? (i := 162) rfl)) rfl
theorem w_co_M_readPart : Cond.code ⟨"RustFamilyModel", "readPart", "()V"⟩ prog_14_method_64_code 1 (Option.none : Option Jvm.ClassFile.FieldType) ∈ m_tb := m_in (m_t7 (List.mem_of_getElem? (i := 147) rfl)) rfl
theorem w_co_M_readPerson : Cond.code ⟨"RustFamilyModel", "readPerson", "()V"⟩ prog_14_method_61_code 4 (Option.none : Option Jvm.ClassFile.FieldType) ∈ m_tb := m_in (m_t7 (List.mem_of_getElem? (i := 200) rfl)) rfl
theorem w_co_M_readRest : Cond.code ⟨"RustFamilyModel", "readRest", "(I)V"⟩ prog_14_method_67_code 3 (Option.none : Option Jvm.ClassFile.FieldType) ∈ m_tb := m_in (m_t8 (List.mem_of_getElem? (i := 62) rfl)) rfl
theorem w_co_M_readStep : Cond.code ⟨"RustFamilyModel", "readStep", "(I)V"⟩ prog_14_method_68_code 5 (Option.none : Option Jvm.ClassFile.FieldType) ∈ m_tb := m_in (m_t8 (List.mem_of_getElem? (i := 58) rfl)) rfl
theorem w_co_M_readTest : Cond.code ⟨"RustFamilyModel", "readTest", "(I)V"⟩ prog_14_method_66_code 3 (Option.none : Option Jvm.ClassFile.FieldType) ∈ m_tb := m_in (m_t8 (List.mem_of_getElem? (i := 66) rfl)) rfl
theorem w_co_M_readThing : Cond.code ⟨"RustFamilyModel", "readThing", "()V"⟩ prog_14_method_62_code 4 (Option.none : Option Jvm.ClassFile.FieldType) ∈ m_tb := m_in (m_t8 (List.mem_of_getElem? (i := 29) rfl)) rfl
theorem w_co_M_readTold : Cond.code ⟨"RustFamilyModel", "readTold", "(II)I"⟩ prog_14_method_59_code 4 (Option.some Jvm.ClassFile.FieldType.int) ∈ m_tb := m_in (m_t8 (List.mem_of_getElem? (i := 37) rfl)) rfl
theorem w_co_M_refuse : Cond.code ⟨"RustFamilyModel", "refuse", "(I)I"⟩ prog_14_method_6_code 2 (Option.some Jvm.ClassFile.FieldType.int) ∈ m_tb := m_in (m_t8 (List.mem_of_getElem? (i := 75) rfl)) rfl
theorem w_co_M_rule : Cond.code ⟨"RustFamilyModel", "rule", "(II)Z"⟩ prog_14_method_103_code 3 (Option.some Jvm.ClassFile.FieldType.boolean) ∈ m_tb := m_in (m_t8 (List.mem_of_getElem? (i := 219) rfl)) rfl
theorem w_co_M_runsYears : Cond.code ⟨"RustFamilyModel", "runsYears", "(I)V"⟩ prog_14_method_162_code 2 (Option.none : Option Jvm.ClassFile.FieldType) ∈ m_tb := m_in (m_t9 (List.mem_of_getElem? (i := 200) rfl)) rfl
theorem w_co_M_rustIn : Cond.code ⟨"RustFamilyModel", "rustIn", "(II)I"⟩ prog_14_method_107_code 4 (Option.some Jvm.ClassFile.FieldType.int) ∈ m_tb := m_in (m_t8 (List.mem_of_getElem? (i := 226) rfl)) rfl
theorem w_co_M_seen : Cond.code ⟨"RustFamilyModel", "seen", "(II)I"⟩ prog_14_method_123_code 3 (Option.some Jvm.ClassFile.FieldType.int) ∈ m_tb := m_in (m_t9 (List.mem_of_getElem? (i := 54) rfl)) rfl
theorem w_co_M_showing : Cond.code ⟨"RustFamilyModel", "showing", "()I"⟩ prog_14_method_79_code 3 (Option.some Jvm.ClassFile.FieldType.int) ∈ m_tb := m_in (m_t8 (List.mem_of_getElem? (i := 83) rfl)) rfl
theorem w_co_M_showsIn : Cond.code ⟨"RustFamilyModel", "showsIn", "(I)I"⟩ prog_14_method_112_code 4 (Option.some Jvm.ClassFile.FieldType.int) ∈ m_tb := m_in (m_t9 (List.mem_of_getElem? (i := 18) rfl)) rfl
theorem w_co_M_showsNow : Cond.code ⟨"RustFamilyModel", "showsNow", "(I)Z"⟩ prog_14_method_73_code 2 (Option.some Jvm.ClassFile.FieldType.boolean) ∈ m_tb := m_in (m_t8 (List.mem_of_getElem? (i := 87) rfl)) rfl
theorem w_co_M_sizeOf : Cond.code ⟨"RustFamilyModel", "sizeOf", "(I)I"⟩ prog_14_method_20_code 3 (Option.some Jvm.ClassFile.FieldType.int) ∈ m_tb := m_in (m_t9 (List.mem_of_getElem? (i := 38) rfl)) rfl
theorem w_co_M_spelled : Cond.code ⟨"RustFamilyModel", "spelled", "(IIIIII)J"⟩ prog_14_method_27_code 8 (Option.some Jvm.ClassFile.FieldType.long) ∈ m_tb := m_in (m_t7 (List.mem_of_getElem? (i := 154) rfl)) rfl
theorem w_co_M_stable : Cond.code ⟨"RustFamilyModel", "stable", "(II)I"⟩ prog_14_method_135_code 3 (Option.some Jvm.ClassFile.FieldType.int) ∈ m_tb := m_in (m_t9 (List.mem_of_getElem? (i := 107) rfl)) rfl
theorem w_co_M_stables : Cond.code ⟨"RustFamilyModel", "stables", "(I)I"⟩ prog_14_method_139_code 2 (Option.some Jvm.ClassFile.FieldType.int) ∈ m_tb := m_in (m_t9 (List.mem_of_getElem? (i := 123) rfl)) rfl
theorem w_co_M_stablesOf : Cond.code ⟨"RustFamilyModel", "stablesOf", "(III)I"⟩ prog_14_method_138_code 6 (Option.some Jvm.ClassFile.FieldType.int) ∈ m_tb := m_in (m_t9 (List.mem_of_getElem? (i := 127) rfl)) rfl
theorem w_co_M_starts : Cond.code ⟨"RustFamilyModel", "starts", "(II)Z"⟩ prog_14_method_53_code 3 (Option.some Jvm.ClassFile.FieldType.boolean) ∈ m_tb := m_in (m_t7 (List.mem_of_getElem? (i := 123) rfl)) rfl
theorem w_co_M_status : Cond.code ⟨"RustFamilyModel", "status", "()I"⟩ prog_14_method_3_code 1 (Option.some Jvm.ClassFile.FieldType.int) ∈ m_tb := m_in (m_t7 (List.mem_of_getElem? (i := 63) rfl)) rfl
theorem w_co_M_stepWord : Cond.code ⟨"RustFamilyModel", "stepWord", "()I"⟩ prog_14_method_40_code 1 (Option.some Jvm.ClassFile.FieldType.int) ∈ m_tb := m_in (m_t7 (List.mem_of_getElem? (i := 232) rfl)) rfl
theorem w_co_M_sure : Cond.code ⟨"RustFamilyModel", "sure", "(III)I"⟩ prog_14_method_124_code 4 (Option.some Jvm.ClassFile.FieldType.int) ∈ m_tb := m_in (m_t9 (List.mem_of_getElem? (i := 75) rfl)) rfl
theorem w_co_M_takesTurn : Cond.code ⟨"RustFamilyModel", "takesTurn", "(I)V"⟩ prog_14_method_141_code 3 (Option.none : Option Jvm.ClassFile.FieldType) ∈ m_tb := m_in (m_t9 (List.mem_of_getElem? (i := 159) rfl)) rfl
theorem w_co_M_testWord : Cond.code ⟨"RustFamilyModel", "testWord", "()I"⟩ prog_14_method_41_code 1 (Option.some Jvm.ClassFile.FieldType.int) ∈ m_tb := m_in (m_t8 (List.mem_of_getElem? (i := 4) rfl)) rfl
theorem w_co_M_thickFor : Cond.code ⟨"RustFamilyModel", "thickFor", "(III)I"⟩ prog_14_method_150_code 5 (Option.some Jvm.ClassFile.FieldType.int) ∈ m_tb := m_in (m_t9 (List.mem_of_getElem? (i := 187) rfl)) rfl
theorem w_co_M_thing : Cond.code ⟨"RustFamilyModel", "thing", "(II)I"⟩ prog_14_method_86_code 3 (Option.some Jvm.ClassFile.FieldType.int) ∈ m_tb := m_in (m_t8 (List.mem_of_getElem? (i := 124) rfl)) rfl
theorem w_co_M_throughBy : Cond.code ⟨"RustFamilyModel", "throughBy", "(I)I"⟩ prog_14_method_111_code 3 (Option.some Jvm.ClassFile.FieldType.int) ∈ m_tb := m_in (m_t9 (List.mem_of_getElem? (i := 14) rfl)) rfl
theorem w_co_M_throughIn : Cond.code ⟨"RustFamilyModel", "throughIn", "(I)I"⟩ prog_14_method_109_code 3 (Option.some Jvm.ClassFile.FieldType.int) ∈ m_tb := m_in (m_t9 (List.mem_of_getElem? (i := 2) rfl)) rfl
theorem w_co_M_throughOf : Cond.code ⟨"RustFamilyModel", "throughOf", "(I)I"⟩ prog_14_method_108_code 4 (Option.some Jvm.ClassFile.FieldType.int) ∈ m_tb := m_in (m_t9 (List.mem_of_getElem? (i := 6) rfl)) rfl
theorem w_co_M_throughs : Cond.code ⟨"RustFamilyModel", "throughs", "()I"⟩ prog_14_method_80_code 3 (Option.some Jvm.ClassFile.FieldType.int) ∈ m_tb := m_in (m_t8 (List.mem_of_getElem? (i := 91) rfl)) rfl
theorem w_co_M_top : Cond.code ⟨"RustFamilyModel", "top", "()J"⟩ prog_14_method_4_code 1 (Option.some Jvm.ClassFile.FieldType.long) ∈ m_tb := m_in (m_t7 (List.mem_of_getElem? (i := 67) rfl)) rfl
theorem w_co_M_tray : Cond.code ⟨"RustFamilyModel", "tray", "(III)Z"⟩ prog_14_method_11_code 5 (Option.some Jvm.ClassFile.FieldType.boolean) ∈ m_tb := m_in (m_t7 (List.mem_of_getElem? (i := 75) rfl)) rfl
theorem w_co_M_trayed : Cond.code ⟨"RustFamilyModel", "trayed", "(I)I"⟩ prog_14_method_12_code 2 (Option.some Jvm.ClassFile.FieldType.int) ∈ m_tb := m_in (m_t7 (List.mem_of_getElem? (i := 91) rfl)) rfl
theorem w_co_M_unlike : Cond.code ⟨"RustFamilyModel", "unlike", "(I)I"⟩ prog_14_method_125_code 5 (Option.some Jvm.ClassFile.FieldType.int) ∈ m_tb := m_in (m_t9 (List.mem_of_getElem? (i := 83) rfl)) rfl
theorem w_co_M_whyNoGame : Cond.code ⟨"RustFamilyModel", "whyNoGame", "(IIII)I"⟩ prog_14_method_144_code 5 (Option.some Jvm.ClassFile.FieldType.int) ∈ m_tb := m_in (m_t9 (List.mem_of_getElem? (i := 143) rfl)) rfl
theorem w_co_M_whyNotSeen : Cond.code ⟨"RustFamilyModel", "whyNotSeen", "(II)I"⟩ prog_14_method_120_code 4 (Option.some Jvm.ClassFile.FieldType.int) ∈ m_tb := m_in (m_t9 (List.mem_of_getElem? (i := 58) rfl)) rfl
theorem w_co_M_worst : Cond.code ⟨"RustFamilyModel", "worst", "(I)I"⟩ prog_14_method_114_code 6 (Option.some Jvm.ClassFile.FieldType.int) ∈ m_tb := m_in (m_t9 (List.mem_of_getElem? (i := 26) rfl)) rfl
theorem w_co_M_wouldTake : Cond.code ⟨"RustFamilyModel", "wouldTake", "(III)Z"⟩ prog_14_method_137_code 5 (Option.some Jvm.ClassFile.FieldType.boolean) ∈ m_tb := m_in (m_t9 (List.mem_of_getElem? (i := 135) rfl)) rfl
theorem w_co_M_write : Cond.code ⟨"RustFamilyModel", "write", "(IIJ)Z"⟩ prog_14_method_14_code 5 (Option.some Jvm.ClassFile.FieldType.boolean) ∈ m_tb := m_in (m_t7 (List.mem_of_getElem? (i := 83) rfl)) rfl
theorem w_co_M_year : Cond.code ⟨"RustFamilyModel", "year", "(I)I"⟩ prog_14_method_92_code 4 (Option.some Jvm.ClassFile.FieldType.int) ∈ m_tb := m_in (m_t8 (List.mem_of_getElem? (i := 158) rfl)) rfl
theorem w_co_M_years : Cond.code ⟨"RustFamilyModel", "years", "(I)I"⟩ prog_14_method_69_code 3 (Option.some Jvm.ClassFile.FieldType.int) ∈ m_tb := m_in (m_t8 (List.mem_of_getElem? (i := 54) rfl)) rfl
theorem w_co_JI_bitCount : Cond.code ⟨"java/lang/Integer", "bitCount", "(I)I"⟩ prog_15_method_49_code 1 (Option.some Jvm.ClassFile.FieldType.int) ∈ m_tb := m_in (m_t5 (List.mem_of_getElem? (i := 77) rfl)) rfl
theorem w_co_mabsJ : Cond.code ⟨"java/lang/Math", "abs", "(J)J"⟩ prog_16_method_61_code 2 (Option.some Jvm.ClassFile.FieldType.long) ∈ m_tb := m_in (m_t9 (List.mem_of_getElem? (i := 183) rfl)) rfl
theorem w_co_mmax : Cond.code ⟨"java/lang/Math", "max", "(II)I"⟩ prog_16_method_65_code 2 (Option.some Jvm.ClassFile.FieldType.int) ∈ m_tb := m_in (m_t4 (List.mem_of_getElem? (i := 160) rfl)) rfl
theorem w_co_mmaxJ : Cond.code ⟨"java/lang/Math", "max", "(JJ)J"⟩ prog_16_method_66_code 4 (Option.some Jvm.ClassFile.FieldType.long) ∈ m_tb := m_in (m_t6 (List.mem_of_getElem? (i := 42) rfl)) rfl
theorem w_co_mmin : Cond.code ⟨"java/lang/Math", "min", "(II)I"⟩ prog_16_method_69_code 2 (Option.some Jvm.ClassFile.FieldType.int) ∈ m_tb := m_in (m_t4 (List.mem_of_getElem? (i := 157) rfl)) rfl
theorem w_co_java_lang_Object__init_ : Cond.code ⟨"java/lang/Object", "<init>", "()V"⟩ object_method_1_code 1 (Option.none : Option Jvm.ClassFile.FieldType) ∈ m_tb := m_in (m_t1 (List.mem_of_getElem? (i := 29) rfl)) rfl
theorem w_co_JA_fill_aII : Cond.code ⟨"java/util/Arrays", "fill", "([II)V"⟩ prog_21_method_103_code 4 (Option.none : Option Jvm.ClassFile.FieldType) ∈ m_tb := m_in (m_t3 (List.mem_of_getElem? (i := 212) rfl)) rfl
theorem w_co_JA_fill_aJJ : Cond.code ⟨"java/util/Arrays", "fill", "([JJ)V"⟩ prog_21_method_101_code 5 (Option.none : Option Jvm.ClassFile.FieldType) ∈ m_tb := m_in (m_t2 (List.mem_of_getElem? (i := 233) rfl)) rfl
theorem w_ci_Ke_59 : Cond.constant "RustFamily$Keepers" 59 1000000 ∈ m_tb := m_in (m_t5 (List.mem_of_getElem? (i := 140) rfl)) rfl
theorem w_ci_Pl_148 : Cond.constant "RustFamily$Plan" 148 65536 ∈ m_tb := m_in (m_t6 (List.mem_of_getElem? (i := 89) rfl)) rfl
theorem w_ci_M_529 : Cond.constant "RustFamilyModel" 529 65536 ∈ m_tb := m_in (m_t9 (List.mem_of_getElem? (i := 229) rfl)) rfl
theorem w_ci_JI_265 : Cond.constant "java/lang/Integer" 265 1431655765 ∈ m_tb := m_in (m_t5 (List.mem_of_getElem? (i := 78) rfl)) rfl
theorem w_ci_JI_266 : Cond.constant "java/lang/Integer" 266 858993459 ∈ m_tb := m_in (m_t5 (List.mem_of_getElem? (i := 79) rfl)) rfl
theorem w_ci_JI_267 : Cond.constant "java/lang/Integer" 267 252645135 ∈ m_tb := m_in (m_t5 (List.mem_of_getElem? (i := 80) rfl)) rfl
theorem w_cl_Tx_66 : Cond.constantLong "RustFamily$Text" 66 32 ∈ m_tb := m_in (m_t3 (List.mem_of_getElem? (i := 65) rfl)) rfl
theorem w_cl_C_110 : Cond.constantLong "RustFamily" 110 (-1) ∈ m_tb := m_in (m_t3 (List.mem_of_getElem? (i := 22) rfl)) rfl
theorem w_cl_C_343 : Cond.constantLong "RustFamily" 343 2 ∈ m_tb := m_in (m_t5 (List.mem_of_getElem? (i := 66) rfl)) rfl
theorem w_cl_C_352 : Cond.constantLong "RustFamily" 352 9 ∈ m_tb := m_in (m_t5 (List.mem_of_getElem? (i := 70) rfl)) rfl
theorem w_cl_C_411 : Cond.constantLong "RustFamily" 411 10 ∈ m_tb := m_in (m_t6 (List.mem_of_getElem? (i := 47) rfl)) rfl
theorem w_cl_M_112 : Cond.constantLong "RustFamilyModel" 112 (-1) ∈ m_tb := m_in (m_t7 (List.mem_of_getElem? (i := 99) rfl)) rfl
theorem w_cl_M_114 : Cond.constantLong "RustFamilyModel" 114 3 ∈ m_tb := m_in (m_t8 (List.mem_of_getElem? (i := 153) rfl)) rfl
theorem w_cl_M_145 : Cond.constantLong "RustFamilyModel" 145 32 ∈ m_tb := m_in (m_t7 (List.mem_of_getElem? (i := 135) rfl)) rfl
theorem w_cl_M_147 : Cond.constantLong "RustFamilyModel" 147 96 ∈ m_tb := m_in (m_t7 (List.mem_of_getElem? (i := 136) rfl)) rfl
theorem w_cl_M_179 : Cond.constantLong "RustFamilyModel" 179 8 ∈ m_tb := m_in (m_t8 (List.mem_of_getElem? (i := 5) rfl)) rfl
theorem w_cl_M_329 : Cond.constantLong "RustFamilyModel" 329 11 ∈ m_tb := m_in (m_t8 (List.mem_of_getElem? (i := 71) rfl)) rfl
theorem w_cl_M_352 : Cond.constantLong "RustFamilyModel" 352 4 ∈ m_tb := m_in (m_t8 (List.mem_of_getElem? (i := 112) rfl)) rfl
theorem w_cl_M_360 : Cond.constantLong "RustFamilyModel" 360 6 ∈ m_tb := m_in (m_t8 (List.mem_of_getElem? (i := 129) rfl)) rfl
theorem w_cl_M_384 : Cond.constantLong "RustFamilyModel" 384 99 ∈ m_tb := m_in (m_t8 (List.mem_of_getElem? (i := 159) rfl)) rfl
theorem w_cl_M_389 : Cond.constantLong "RustFamilyModel" 389 9 ∈ m_tb := m_in (m_t8 (List.mem_of_getElem? (i := 177) rfl)) rfl
theorem w_cl_M_391 : Cond.constantLong "RustFamilyModel" 391 999 ∈ m_tb := m_in (m_t8 (List.mem_of_getElem? (i := 186) rfl)) rfl
theorem w_cl_M_402 : Cond.constantLong "RustFamilyModel" 402 119 ∈ m_tb := m_in (m_t8 (List.mem_of_getElem? (i := 215) rfl)) rfl
theorem w_cl_M_404 : Cond.constantLong "RustFamilyModel" 404 2 ∈ m_tb := m_in (m_t8 (List.mem_of_getElem? (i := 220) rfl)) rfl
theorem w_cl_M_406 : Cond.constantLong "RustFamilyModel" 406 5 ∈ m_tb := m_in (m_t8 (List.mem_of_getElem? (i := 221) rfl)) rfl
theorem w_cl_M_408 : Cond.constantLong "RustFamilyModel" 408 120 ∈ m_tb := m_in (m_t8 (List.mem_of_getElem? (i := 222) rfl)) rfl
theorem w_cl_M_410 : Cond.constantLong "RustFamilyModel" 410 200 ∈ m_tb := m_in (m_t8 (List.mem_of_getElem? (i := 230) rfl)) rfl
theorem w_cl_M_427 : Cond.constantLong "RustFamilyModel" 427 50 ∈ m_tb := m_in (m_t9 (List.mem_of_getElem? (i := 27) rfl)) rfl
theorem w_cl_M_439 : Cond.constantLong "RustFamilyModel" 439 20 ∈ m_tb := m_in (m_t9 (List.mem_of_getElem? (i := 59) rfl)) rfl
theorem w_cl_M_514 : Cond.constantLong "RustFamilyModel" 514 10 ∈ m_tb := m_in (m_t9 (List.mem_of_getElem? (i := 172) rfl)) rfl
theorem w_cl_M_579 : Cond.constantLong "RustFamilyModel" 579 9999 ∈ m_tb := m_in (m_t9 (List.mem_of_getElem? (i := 196) rfl)) rfl
theorem w_fl_Ah_12 : Cond.fieldLink "RustFamily$Ahead" 12 "RustFamily$Ahead" "then" "LRustFamily$Thing;" ∈ m_tb := m_in (m_t2 (List.mem_of_getElem? (i := 82) rfl)) rfl
theorem w_fl_Ah_18 : Cond.fieldLink "RustFamily$Ahead" 18 "RustFamily$Ahead" "savings" "[I" ∈ m_tb := m_in (m_t2 (List.mem_of_getElem? (i := 83) rfl)) rfl
theorem w_fl_Ah_22 : Cond.fieldLink "RustFamily$Ahead" 22 "RustFamily$Ahead" "waysUpTo" "[I" ∈ m_tb := m_in (m_t2 (List.mem_of_getElem? (i := 84) rfl)) rfl
theorem w_fl_Ah_25 : Cond.fieldLink "RustFamily$Ahead" 25 "RustFamily$Family" "items" "[LRustFamily$Thing;" ∈ m_tb := m_in (m_t2 (List.mem_of_getElem? (i := 40) rfl)) rfl
theorem w_fl_Ah_47 : Cond.fieldLink "RustFamily$Ahead" 47 "RustFamily$Family" "damp" "I" ∈ m_tb := m_in (m_t2 (List.mem_of_getElem? (i := 20) rfl)) rfl
theorem w_fl_Ah_59 : Cond.fieldLink "RustFamily$Ahead" 59 "RustFamily$Thing" "rust" "I" ∈ m_tb := m_in (m_t1 (List.mem_of_getElem? (i := 163) rfl)) rfl
theorem w_fl_Ah_62 : Cond.fieldLink "RustFamily$Ahead" 62 "RustFamily$Family" "things" "I" ∈ m_tb := m_in (m_t2 (List.mem_of_getElem? (i := 10) rfl)) rfl
theorem w_fl_Ah_65 : Cond.fieldLink "RustFamily$Ahead" 65 "RustFamily$Family" "persons" "[LRustFamily$Person;" ∈ m_tb := m_in (m_t2 (List.mem_of_getElem? (i := 34) rfl)) rfl
theorem w_fl_Ah_69 : Cond.fieldLink "RustFamily$Ahead" 69 "RustFamily$Person" "love" "[I" ∈ m_tb := m_in (m_t1 (List.mem_of_getElem? (i := 128) rfl)) rfl
theorem w_fl_Ah_74 : Cond.fieldLink "RustFamily$Ahead" 74 "RustFamily$Thing" "thick" "I" ∈ m_tb := m_in (m_t1 (List.mem_of_getElem? (i := 156) rfl)) rfl
theorem w_fl_Ah_77 : Cond.fieldLink "RustFamily$Ahead" 77 "RustFamily$Thing" "coat" "I" ∈ m_tb := m_in (m_t1 (List.mem_of_getElem? (i := 160) rfl)) rfl
theorem w_fl_Ah_83 : Cond.fieldLink "RustFamily$Ahead" 83 "RustFamily$Thing" "oil" "I" ∈ m_tb := m_in (m_t1 (List.mem_of_getElem? (i := 170) rfl)) rfl
theorem w_fl_Ah_93 : Cond.fieldLink "RustFamily$Ahead" 93 "RustFamily$Ahead" "allWays" "I" ∈ m_tb := m_in (m_t2 (List.mem_of_getElem? (i := 80) rfl)) rfl
theorem w_fl_Ah_96 : Cond.fieldLink "RustFamily$Ahead" 96 "RustFamily$Ahead" "mostBitten" "I" ∈ m_tb := m_in (m_t2 (List.mem_of_getElem? (i := 85) rfl)) rfl
theorem w_fl_Fa_11 : Cond.fieldLink "RustFamily$Family" 11 "RustFamily$Family" "shows" "I" ∈ m_tb := m_in (m_t2 (List.mem_of_getElem? (i := 13) rfl)) rfl
theorem w_fl_Fa_15 : Cond.fieldLink "RustFamily$Family" 15 "RustFamily$Family" "life" "I" ∈ m_tb := m_in (m_t2 (List.mem_of_getElem? (i := 16) rfl)) rfl
theorem w_fl_Fa_18 : Cond.fieldLink "RustFamily$Family" 18 "RustFamily$Family" "damp" "I" ∈ m_tb := m_in (m_t2 (List.mem_of_getElem? (i := 19) rfl)) rfl
theorem w_fl_Fa_21 : Cond.fieldLink "RustFamily$Family" 21 "RustFamily$Family" "breath" "I" ∈ m_tb := m_in (m_t2 (List.mem_of_getElem? (i := 25) rfl)) rfl
theorem w_fl_Fa_26 : Cond.fieldLink "RustFamily$Family" 26 "RustFamily$Family" "persons" "[LRustFamily$Person;" ∈ m_tb := m_in (m_t2 (List.mem_of_getElem? (i := 33) rfl)) rfl
theorem w_fl_Fa_33 : Cond.fieldLink "RustFamily$Family" 33 "RustFamily$Family" "items" "[LRustFamily$Thing;" ∈ m_tb := m_in (m_t2 (List.mem_of_getElem? (i := 39) rfl)) rfl
theorem w_fl_Fa_41 : Cond.fieldLink "RustFamily$Family" 41 "RustFamily$Family" "plan" "LRustFamily$Plan;" ∈ m_tb := m_in (m_t2 (List.mem_of_getElem? (i := 45) rfl)) rfl
theorem w_fl_Fa_45 : Cond.fieldLink "RustFamily$Family" 45 "RustFamily$Family" "people" "I" ∈ m_tb := m_in (m_t2 (List.mem_of_getElem? (i := 3) rfl)) rfl
theorem w_fl_Fa_48 : Cond.fieldLink "RustFamily$Family" 48 "RustFamily$Family" "things" "I" ∈ m_tb := m_in (m_t2 (List.mem_of_getElem? (i := 7) rfl)) rfl
theorem w_fl_Fa_51 : Cond.fieldLink "RustFamily$Family" 51 "RustFamily$Family" "year" "I" ∈ m_tb := m_in (m_t2 (List.mem_of_getElem? (i := 30) rfl)) rfl
theorem w_fl_Fa_61 : Cond.fieldLink "RustFamily$Family" 61 "RustFamily$Person" "name" "J" ∈ m_tb := m_in (m_t1 (List.mem_of_getElem? (i := 116) rfl)) rfl
theorem w_fl_Fa_65 : Cond.fieldLink "RustFamily$Family" 65 "RustFamily$Person" "age" "I" ∈ m_tb := m_in (m_t1 (List.mem_of_getElem? (i := 118) rfl)) rfl
theorem w_fl_Fa_68 : Cond.fieldLink "RustFamily$Family" 68 "RustFamily$Person" "of" "Z" ∈ m_tb := m_in (m_t1 (List.mem_of_getElem? (i := 121) rfl)) rfl
theorem w_fl_Fa_72 : Cond.fieldLink "RustFamily$Family" 72 "RustFamily$Person" "lives" "Z" ∈ m_tb := m_in (m_t1 (List.mem_of_getElem? (i := 124) rfl)) rfl
theorem w_fl_Fa_75 : Cond.fieldLink "RustFamily$Family" 75 "RustFamily$Person" "love" "[I" ∈ m_tb := m_in (m_t1 (List.mem_of_getElem? (i := 127) rfl)) rfl
theorem w_fl_Fa_85 : Cond.fieldLink "RustFamily$Family" 85 "RustFamily$Thing" "name" "J" ∈ m_tb := m_in (m_t1 (List.mem_of_getElem? (i := 153) rfl)) rfl
theorem w_fl_Fa_86 : Cond.fieldLink "RustFamily$Family" 86 "RustFamily$Thing" "thick" "I" ∈ m_tb := m_in (m_t1 (List.mem_of_getElem? (i := 155) rfl)) rfl
theorem w_fl_Fa_89 : Cond.fieldLink "RustFamily$Family" 89 "RustFamily$Thing" "coat" "I" ∈ m_tb := m_in (m_t1 (List.mem_of_getElem? (i := 159) rfl)) rfl
theorem w_fl_Fa_92 : Cond.fieldLink "RustFamily$Family" 92 "RustFamily$Thing" "rust" "I" ∈ m_tb := m_in (m_t1 (List.mem_of_getElem? (i := 165) rfl)) rfl
theorem w_fl_Fa_95 : Cond.fieldLink "RustFamily$Family" 95 "RustFamily$Thing" "oil" "I" ∈ m_tb := m_in (m_t1 (List.mem_of_getElem? (i := 169) rfl)) rfl
theorem w_fl_Ga_11 : Cond.fieldLink "RustFamily$Game" 11 "RustFamily$Game" "boards" "[LRustFamily$Thing;" ∈ m_tb := m_in (m_t2 (List.mem_of_getElem? (i := 150) rfl)) rfl
theorem w_fl_Ga_16 : Cond.fieldLink "RustFamily$Game" 16 "RustFamily$Game" "loved" "[I" ∈ m_tb := m_in (m_t2 (List.mem_of_getElem? (i := 151) rfl)) rfl
theorem w_fl_Ga_20 : Cond.fieldLink "RustFamily$Game" 20 "RustFamily$Family" "items" "[LRustFamily$Thing;" ∈ m_tb := m_in (m_t2 (List.mem_of_getElem? (i := 41) rfl)) rfl
theorem w_fl_Ga_37 : Cond.fieldLink "RustFamily$Game" 37 "RustFamily$Thing" "rust" "I" ∈ m_tb := m_in (m_t1 (List.mem_of_getElem? (i := 164) rfl)) rfl
theorem w_fl_Ga_49 : Cond.fieldLink "RustFamily$Game" 49 "RustFamily$Game" "firstMove" "I" ∈ m_tb := m_in (m_t2 (List.mem_of_getElem? (i := 148) rfl)) rfl
theorem w_fl_Ga_63 : Cond.fieldLink "RustFamily$Game" 63 "RustFamily$Family" "breath" "I" ∈ m_tb := m_in (m_t2 (List.mem_of_getElem? (i := 27) rfl)) rfl
theorem w_fl_Ga_73 : Cond.fieldLink "RustFamily$Game" 73 "RustFamily$Family" "damp" "I" ∈ m_tb := m_in (m_t2 (List.mem_of_getElem? (i := 22) rfl)) rfl
theorem w_fl_Ke_15 : Cond.fieldLink "RustFamily$Keepers" 15 "RustFamily$Keepers" "keeper" "[I" ∈ m_tb := m_in (m_t2 (List.mem_of_getElem? (i := 122) rfl)) rfl
theorem w_fl_Ke_18 : Cond.fieldLink "RustFamily$Keepers" 18 "RustFamily$Keepers" "asked" "[I" ∈ m_tb := m_in (m_t2 (List.mem_of_getElem? (i := 123) rfl)) rfl
theorem w_fl_Ke_21 : Cond.fieldLink "RustFamily$Keepers" 21 "RustFamily$Keepers" "members" "[I" ∈ m_tb := m_in (m_t2 (List.mem_of_getElem? (i := 124) rfl)) rfl
theorem w_fl_Ke_24 : Cond.fieldLink "RustFamily$Keepers" 24 "RustFamily$Keepers" "leastBehind" "[I" ∈ m_tb := m_in (m_t2 (List.mem_of_getElem? (i := 126) rfl)) rfl
theorem w_fl_Ke_27 : Cond.fieldLink "RustFamily$Keepers" 27 "RustFamily$Keepers" "size" "I" ∈ m_tb := m_in (m_t2 (List.mem_of_getElem? (i := 125) rfl)) rfl
theorem w_fl_Ke_31 : Cond.fieldLink "RustFamily$Keepers" 31 "RustFamily$Family" "people" "I" ∈ m_tb := m_in (m_t2 (List.mem_of_getElem? (i := 4) rfl)) rfl
theorem w_fl_Ke_46 : Cond.fieldLink "RustFamily$Keepers" 46 "RustFamily$Family" "things" "I" ∈ m_tb := m_in (m_t2 (List.mem_of_getElem? (i := 9) rfl)) rfl
theorem w_fl_Ke_74 : Cond.fieldLink "RustFamily$Keepers" 74 "RustFamily$Family" "items" "[LRustFamily$Thing;" ∈ m_tb := m_in (m_t2 (List.mem_of_getElem? (i := 42) rfl)) rfl
theorem w_fl_Ke_84 : Cond.fieldLink "RustFamily$Keepers" 84 "RustFamily$Family" "persons" "[LRustFamily$Person;" ∈ m_tb := m_in (m_t2 (List.mem_of_getElem? (i := 35) rfl)) rfl
theorem w_fl_Ke_88 : Cond.fieldLink "RustFamily$Keepers" 88 "RustFamily$Person" "love" "[I" ∈ m_tb := m_in (m_t1 (List.mem_of_getElem? (i := 129) rfl)) rfl
theorem w_fl_Ke_9 : Cond.fieldLink "RustFamily$Keepers" 9 "RustFamily$Keepers" "kept" "[I" ∈ m_tb := m_in (m_t2 (List.mem_of_getElem? (i := 120) rfl)) rfl
theorem w_fl_Pe_15 : Cond.fieldLink "RustFamily$Person" 15 "RustFamily$Person" "name" "J" ∈ m_tb := m_in (m_t1 (List.mem_of_getElem? (i := 115) rfl)) rfl
theorem w_fl_Pe_19 : Cond.fieldLink "RustFamily$Person" 19 "RustFamily$Person" "age" "I" ∈ m_tb := m_in (m_t1 (List.mem_of_getElem? (i := 117) rfl)) rfl
theorem w_fl_Pe_23 : Cond.fieldLink "RustFamily$Person" 23 "RustFamily$Person" "of" "Z" ∈ m_tb := m_in (m_t1 (List.mem_of_getElem? (i := 120) rfl)) rfl
theorem w_fl_Pe_27 : Cond.fieldLink "RustFamily$Person" 27 "RustFamily$Person" "lives" "Z" ∈ m_tb := m_in (m_t1 (List.mem_of_getElem? (i := 123) rfl)) rfl
theorem w_fl_Pe_9 : Cond.fieldLink "RustFamily$Person" 9 "RustFamily$Person" "love" "[I" ∈ m_tb := m_in (m_t1 (List.mem_of_getElem? (i := 126) rfl)) rfl
theorem w_fl_Pl_102 : Cond.fieldLink "RustFamily$Plan" 102 "RustFamily$Family" "persons" "[LRustFamily$Person;" ∈ m_tb := m_in (m_t2 (List.mem_of_getElem? (i := 37) rfl)) rfl
theorem w_fl_Pl_11 : Cond.fieldLink "RustFamily$Plan" 11 "RustFamily$Plan" "kind" "[I" ∈ m_tb := m_in (m_t1 (List.mem_of_getElem? (i := 195) rfl)) rfl
theorem w_fl_Pl_117 : Cond.fieldLink "RustFamily$Plan" 117 "RustFamily$Family" "damp" "I" ∈ m_tb := m_in (m_t2 (List.mem_of_getElem? (i := 23) rfl)) rfl
theorem w_fl_Pl_120 : Cond.fieldLink "RustFamily$Plan" 120 "RustFamily$Person" "love" "[I" ∈ m_tb := m_in (m_t1 (List.mem_of_getElem? (i := 131) rfl)) rfl
theorem w_fl_Pl_125 : Cond.fieldLink "RustFamily$Plan" 125 "RustFamily$Family" "things" "I" ∈ m_tb := m_in (m_t2 (List.mem_of_getElem? (i := 11) rfl)) rfl
theorem w_fl_Pl_132 : Cond.fieldLink "RustFamily$Plan" 132 "RustFamily$Family" "breath" "I" ∈ m_tb := m_in (m_t2 (List.mem_of_getElem? (i := 28) rfl)) rfl
theorem w_fl_Pl_15 : Cond.fieldLink "RustFamily$Plan" 15 "RustFamily$Plan" "person" "[I" ∈ m_tb := m_in (m_t1 (List.mem_of_getElem? (i := 197) rfl)) rfl
theorem w_fl_Pl_18 : Cond.fieldLink "RustFamily$Plan" 18 "RustFamily$Plan" "thing" "[I" ∈ m_tb := m_in (m_t1 (List.mem_of_getElem? (i := 199) rfl)) rfl
theorem w_fl_Pl_21 : Cond.fieldLink "RustFamily$Plan" 21 "RustFamily$Plan" "much" "[I" ∈ m_tb := m_in (m_t1 (List.mem_of_getElem? (i := 201) rfl)) rfl
theorem w_fl_Pl_24 : Cond.fieldLink "RustFamily$Plan" 24 "RustFamily$Plan" "past" "[I" ∈ m_tb := m_in (m_t1 (List.mem_of_getElem? (i := 203) rfl)) rfl
theorem w_fl_Pl_27 : Cond.fieldLink "RustFamily$Plan" 27 "RustFamily$Plan" "loops" "[I" ∈ m_tb := m_in (m_t1 (List.mem_of_getElem? (i := 211) rfl)) rfl
theorem w_fl_Pl_30 : Cond.fieldLink "RustFamily$Plan" 30 "RustFamily$Plan" "rounds" "[I" ∈ m_tb := m_in (m_t1 (List.mem_of_getElem? (i := 212) rfl)) rfl
theorem w_fl_Pl_33 : Cond.fieldLink "RustFamily$Plan" 33 "RustFamily$Plan" "told" "Z" ∈ m_tb := m_in (m_t1 (List.mem_of_getElem? (i := 189) rfl)) rfl
theorem w_fl_Pl_37 : Cond.fieldLink "RustFamily$Plan" 37 "RustFamily$Plan" "steps" "I" ∈ m_tb := m_in (m_t1 (List.mem_of_getElem? (i := 192) rfl)) rfl
theorem w_fl_Pl_47 : Cond.fieldLink "RustFamily$Plan" 47 "RustFamily$Plan" "drawn" "I" ∈ m_tb := m_in (m_t1 (List.mem_of_getElem? (i := 209) rfl)) rfl
theorem w_fl_Pl_50 : Cond.fieldLink "RustFamily$Plan" 50 "RustFamily$Plan" "done" "I" ∈ m_tb := m_in (m_t1 (List.mem_of_getElem? (i := 205) rfl)) rfl
theorem w_fl_Pl_53 : Cond.fieldLink "RustFamily$Plan" 53 "RustFamily$Plan" "missed" "I" ∈ m_tb := m_in (m_t1 (List.mem_of_getElem? (i := 207) rfl)) rfl
theorem w_fl_Pl_56 : Cond.fieldLink "RustFamily$Plan" 56 "RustFamily$Plan" "at" "I" ∈ m_tb := m_in (m_t1 (List.mem_of_getElem? (i := 210) rfl)) rfl
theorem w_fl_Pl_59 : Cond.fieldLink "RustFamily$Plan" 59 "RustFamily$Plan" "depth" "I" ∈ m_tb := m_in (m_t1 (List.mem_of_getElem? (i := 213) rfl)) rfl
theorem w_fl_Pl_81 : Cond.fieldLink "RustFamily$Plan" 81 "RustFamily$Family" "items" "[LRustFamily$Thing;" ∈ m_tb := m_in (m_t2 (List.mem_of_getElem? (i := 43) rfl)) rfl
theorem w_fl_Pl_85 : Cond.fieldLink "RustFamily$Plan" 85 "RustFamily$Thing" "rust" "I" ∈ m_tb := m_in (m_t1 (List.mem_of_getElem? (i := 166) rfl)) rfl
theorem w_fl_Re_111 : Cond.fieldLink "RustFamily$Reader" 111 "RustFamily$Text" "letters" "J" ∈ m_tb := m_in (m_t1 (List.mem_of_getElem? (i := 67) rfl)) rfl
theorem w_fl_Re_142 : Cond.fieldLink "RustFamily$Reader" 142 "RustFamily$Family" "persons" "[LRustFamily$Person;" ∈ m_tb := m_in (m_t2 (List.mem_of_getElem? (i := 36) rfl)) rfl
theorem w_fl_Re_146 : Cond.fieldLink "RustFamily$Reader" 146 "RustFamily$Person" "love" "[I" ∈ m_tb := m_in (m_t1 (List.mem_of_getElem? (i := 130) rfl)) rfl
theorem w_fl_Re_15 : Cond.fieldLink "RustFamily$Reader" 15 "RustFamily$Text" "kind" "I" ∈ m_tb := m_in (m_t1 (List.mem_of_getElem? (i := 62) rfl)) rfl
theorem w_fl_Re_156 : Cond.fieldLink "RustFamily$Reader" 156 "RustFamily$Plan" "told" "Z" ∈ m_tb := m_in (m_t1 (List.mem_of_getElem? (i := 190) rfl)) rfl
theorem w_fl_Re_183 : Cond.fieldLink "RustFamily$Reader" 183 "RustFamily$Plan" "past" "[I" ∈ m_tb := m_in (m_t1 (List.mem_of_getElem? (i := 204) rfl)) rfl
theorem w_fl_Re_186 : Cond.fieldLink "RustFamily$Reader" 186 "RustFamily$Plan" "steps" "I" ∈ m_tb := m_in (m_t1 (List.mem_of_getElem? (i := 193) rfl)) rfl
theorem w_fl_Re_203 : Cond.fieldLink "RustFamily$Reader" 203 "RustFamily$Plan" "kind" "[I" ∈ m_tb := m_in (m_t1 (List.mem_of_getElem? (i := 196) rfl)) rfl
theorem w_fl_Re_222 : Cond.fieldLink "RustFamily$Reader" 222 "RustFamily$Text" "value" "I" ∈ m_tb := m_in (m_t1 (List.mem_of_getElem? (i := 69) rfl)) rfl
theorem w_fl_Re_225 : Cond.fieldLink "RustFamily$Reader" 225 "RustFamily$Plan" "much" "[I" ∈ m_tb := m_in (m_t1 (List.mem_of_getElem? (i := 202) rfl)) rfl
theorem w_fl_Re_228 : Cond.fieldLink "RustFamily$Reader" 228 "RustFamily$Plan" "person" "[I" ∈ m_tb := m_in (m_t1 (List.mem_of_getElem? (i := 198) rfl)) rfl
theorem w_fl_Re_230 : Cond.fieldLink "RustFamily$Reader" 230 "RustFamily$Plan" "thing" "[I" ∈ m_tb := m_in (m_t1 (List.mem_of_getElem? (i := 200) rfl)) rfl
theorem w_fl_Re_47 : Cond.fieldLink "RustFamily$Reader" 47 "RustFamily$Family" "people" "I" ∈ m_tb := m_in (m_t2 (List.mem_of_getElem? (i := 5) rfl)) rfl
theorem w_fl_Re_52 : Cond.fieldLink "RustFamily$Reader" 52 "RustFamily$Family" "things" "I" ∈ m_tb := m_in (m_t2 (List.mem_of_getElem? (i := 8) rfl)) rfl
theorem w_fl_Re_55 : Cond.fieldLink "RustFamily$Reader" 55 "RustFamily$Family" "shows" "I" ∈ m_tb := m_in (m_t2 (List.mem_of_getElem? (i := 14) rfl)) rfl
theorem w_fl_Re_58 : Cond.fieldLink "RustFamily$Reader" 58 "RustFamily$Family" "life" "I" ∈ m_tb := m_in (m_t2 (List.mem_of_getElem? (i := 17) rfl)) rfl
theorem w_fl_Re_61 : Cond.fieldLink "RustFamily$Reader" 61 "RustFamily$Family" "damp" "I" ∈ m_tb := m_in (m_t2 (List.mem_of_getElem? (i := 21) rfl)) rfl
theorem w_fl_Re_64 : Cond.fieldLink "RustFamily$Reader" 64 "RustFamily$Family" "breath" "I" ∈ m_tb := m_in (m_t2 (List.mem_of_getElem? (i := 26) rfl)) rfl
theorem w_fl_Re_67 : Cond.fieldLink "RustFamily$Reader" 67 "RustFamily$Family" "year" "I" ∈ m_tb := m_in (m_t2 (List.mem_of_getElem? (i := 31) rfl)) rfl
theorem w_fl_Re_70 : Cond.fieldLink "RustFamily$Reader" 70 "RustFamily$Family" "plan" "LRustFamily$Plan;" ∈ m_tb := m_in (m_t2 (List.mem_of_getElem? (i := 46) rfl)) rfl
theorem w_fl_Re_83 : Cond.fieldLink "RustFamily$Reader" 83 "RustFamily$Text" "amount" "I" ∈ m_tb := m_in (m_t1 (List.mem_of_getElem? (i := 70) rfl)) rfl
theorem w_fl_Si_11 : Cond.fieldLink "RustFamily$Sight" 11 "RustFamily$Sight" "fits" "[Z" ∈ m_tb := m_in (m_t2 (List.mem_of_getElem? (i := 103) rfl)) rfl
theorem w_fl_Si_15 : Cond.fieldLink "RustFamily$Sight" 15 "RustFamily$Sight" "waysOfSum" "[I" ∈ m_tb := m_in (m_t2 (List.mem_of_getElem? (i := 104) rfl)) rfl
theorem w_fl_Si_25 : Cond.fieldLink "RustFamily$Sight" 25 "RustFamily$Sight" "lovers" "I" ∈ m_tb := m_in (m_t2 (List.mem_of_getElem? (i := 105) rfl)) rfl
theorem w_fl_Tx_131 : Cond.fieldLink "RustFamily$Text" 131 "RustFamily$Text" "amount" "I" ∈ m_tb := m_in (m_t1 (List.mem_of_getElem? (i := 71) rfl)) rfl
theorem w_fl_Tx_15 : Cond.fieldLink "RustFamily$Text" 15 "RustFamily$Text" "faultKind" "I" ∈ m_tb := m_in (m_t1 (List.mem_of_getElem? (i := 72) rfl)) rfl
theorem w_fl_Tx_19 : Cond.fieldLink "RustFamily$Text" 19 "RustFamily$Text" "faultPlace" "I" ∈ m_tb := m_in (m_t1 (List.mem_of_getElem? (i := 74) rfl)) rfl
theorem w_fl_Tx_22 : Cond.fieldLink "RustFamily$Text" 22 "RustFamily$Text" "fed" "I" ∈ m_tb := m_in (m_t1 (List.mem_of_getElem? (i := 58) rfl)) rfl
theorem w_fl_Tx_25 : Cond.fieldLink "RustFamily$Text" 25 "RustFamily$Text" "length" "I" ∈ m_tb := m_in (m_t1 (List.mem_of_getElem? (i := 60) rfl)) rfl
theorem w_fl_Tx_28 : Cond.fieldLink "RustFamily$Text" 28 "RustFamily$Text" "next" "I" ∈ m_tb := m_in (m_t1 (List.mem_of_getElem? (i := 61) rfl)) rfl
theorem w_fl_Tx_37 : Cond.fieldLink "RustFamily$Text" 37 "RustFamily$Text" "start" "I" ∈ m_tb := m_in (m_t1 (List.mem_of_getElem? (i := 64) rfl)) rfl
theorem w_fl_Tx_40 : Cond.fieldLink "RustFamily$Text" 40 "RustFamily$Text" "size" "I" ∈ m_tb := m_in (m_t1 (List.mem_of_getElem? (i := 65) rfl)) rfl
theorem w_fl_Tx_43 : Cond.fieldLink "RustFamily$Text" 43 "RustFamily$Text" "letters" "J" ∈ m_tb := m_in (m_t1 (List.mem_of_getElem? (i := 66) rfl)) rfl
theorem w_fl_Tx_47 : Cond.fieldLink "RustFamily$Text" 47 "RustFamily$Text" "value" "I" ∈ m_tb := m_in (m_t1 (List.mem_of_getElem? (i := 68) rfl)) rfl
theorem w_fl_Tx_50 : Cond.fieldLink "RustFamily$Text" 50 "RustFamily$Text" "kind" "I" ∈ m_tb := m_in (m_t1 (List.mem_of_getElem? (i := 63) rfl)) rfl
theorem w_fl_Tx_9 : Cond.fieldLink "RustFamily$Text" 9 "RustFamily$Text" "bytes" "[B" ∈ m_tb := m_in (m_t1 (List.mem_of_getElem? (i := 57) rfl)) rfl
theorem w_fl_Th_15 : Cond.fieldLink "RustFamily$Thing" 15 "RustFamily$Thing" "thick" "I" ∈ m_tb := m_in (m_t1 (List.mem_of_getElem? (i := 154) rfl)) rfl
theorem w_fl_Th_19 : Cond.fieldLink "RustFamily$Thing" 19 "RustFamily$Thing" "coat" "I" ∈ m_tb := m_in (m_t1 (List.mem_of_getElem? (i := 158) rfl)) rfl
theorem w_fl_Th_22 : Cond.fieldLink "RustFamily$Thing" 22 "RustFamily$Thing" "rust" "I" ∈ m_tb := m_in (m_t1 (List.mem_of_getElem? (i := 162) rfl)) rfl
theorem w_fl_Th_25 : Cond.fieldLink "RustFamily$Thing" 25 "RustFamily$Thing" "oil" "I" ∈ m_tb := m_in (m_t1 (List.mem_of_getElem? (i := 168) rfl)) rfl
theorem w_fl_Th_9 : Cond.fieldLink "RustFamily$Thing" 9 "RustFamily$Thing" "name" "J" ∈ m_tb := m_in (m_t1 (List.mem_of_getElem? (i := 152) rfl)) rfl
theorem w_fl_Tr_15 : Cond.fieldLink "RustFamily$Tray" 15 "RustFamily$Tray" "length" "I" ∈ m_tb := m_in (m_t1 (List.mem_of_getElem? (i := 39) rfl)) rfl
theorem w_fl_Tr_18 : Cond.fieldLink "RustFamily$Tray" 18 "RustFamily$Tray" "numbers" "[J" ∈ m_tb := m_in (m_t1 (List.mem_of_getElem? (i := 41) rfl)) rfl
theorem w_fl_Tr_9 : Cond.fieldLink "RustFamily$Tray" 9 "RustFamily$Tray" "sort" "I" ∈ m_tb := m_in (m_t1 (List.mem_of_getElem? (i := 37) rfl)) rfl
theorem w_fl_C_112 : Cond.fieldLink "RustFamily" 112 "RustFamily$Tray" "numbers" "[J" ∈ m_tb := m_in (m_t1 (List.mem_of_getElem? (i := 42) rfl)) rfl
theorem w_fl_C_13 : Cond.fieldLink "RustFamily" 13 "RustFamily" "top" "J" ∈ m_tb := m_in (m_t2 (List.mem_of_getElem? (i := 160) rfl)) rfl
theorem w_fl_C_130 : Cond.fieldLink "RustFamily" 130 "RustFamily$Tray" "sort" "I" ∈ m_tb := m_in (m_t1 (List.mem_of_getElem? (i := 38) rfl)) rfl
theorem w_fl_C_141 : Cond.fieldLink "RustFamily" 141 "RustFamily$Text" "fed" "I" ∈ m_tb := m_in (m_t1 (List.mem_of_getElem? (i := 59) rfl)) rfl
theorem w_fl_C_156 : Cond.fieldLink "RustFamily" 156 "RustFamily$Family" "things" "I" ∈ m_tb := m_in (m_t2 (List.mem_of_getElem? (i := 12) rfl)) rfl
theorem w_fl_C_163 : Cond.fieldLink "RustFamily" 163 "RustFamily$Family" "plan" "LRustFamily$Plan;" ∈ m_tb := m_in (m_t2 (List.mem_of_getElem? (i := 47) rfl)) rfl
theorem w_fl_C_166 : Cond.fieldLink "RustFamily" 166 "RustFamily$Plan" "steps" "I" ∈ m_tb := m_in (m_t1 (List.mem_of_getElem? (i := 194) rfl)) rfl
theorem w_fl_C_169 : Cond.fieldLink "RustFamily" 169 "RustFamily$Text" "faultKind" "I" ∈ m_tb := m_in (m_t1 (List.mem_of_getElem? (i := 73) rfl)) rfl
theorem w_fl_C_17 : Cond.fieldLink "RustFamily" 17 "RustFamily" "bottom" "J" ∈ m_tb := m_in (m_t2 (List.mem_of_getElem? (i := 161) rfl)) rfl
theorem w_fl_C_172 : Cond.fieldLink "RustFamily" 172 "RustFamily$Text" "faultPlace" "I" ∈ m_tb := m_in (m_t1 (List.mem_of_getElem? (i := 75) rfl)) rfl
theorem w_fl_C_175 : Cond.fieldLink "RustFamily" 175 "RustFamily$Family" "people" "I" ∈ m_tb := m_in (m_t2 (List.mem_of_getElem? (i := 6) rfl)) rfl
theorem w_fl_C_178 : Cond.fieldLink "RustFamily" 178 "RustFamily$Family" "shows" "I" ∈ m_tb := m_in (m_t2 (List.mem_of_getElem? (i := 15) rfl)) rfl
theorem w_fl_C_181 : Cond.fieldLink "RustFamily" 181 "RustFamily$Family" "life" "I" ∈ m_tb := m_in (m_t2 (List.mem_of_getElem? (i := 18) rfl)) rfl
theorem w_fl_C_184 : Cond.fieldLink "RustFamily" 184 "RustFamily$Family" "damp" "I" ∈ m_tb := m_in (m_t2 (List.mem_of_getElem? (i := 24) rfl)) rfl
theorem w_fl_C_187 : Cond.fieldLink "RustFamily" 187 "RustFamily$Family" "breath" "I" ∈ m_tb := m_in (m_t2 (List.mem_of_getElem? (i := 29) rfl)) rfl
theorem w_fl_C_190 : Cond.fieldLink "RustFamily" 190 "RustFamily$Family" "year" "I" ∈ m_tb := m_in (m_t2 (List.mem_of_getElem? (i := 32) rfl)) rfl
theorem w_fl_C_212 : Cond.fieldLink "RustFamily" 212 "RustFamily$Family" "persons" "[LRustFamily$Person;" ∈ m_tb := m_in (m_t2 (List.mem_of_getElem? (i := 38) rfl)) rfl
theorem w_fl_C_216 : Cond.fieldLink "RustFamily" 216 "RustFamily$Person" "age" "I" ∈ m_tb := m_in (m_t1 (List.mem_of_getElem? (i := 119) rfl)) rfl
theorem w_fl_C_22 : Cond.fieldLink "RustFamily" 22 "RustFamily" "trays" "[LRustFamily$Tray;" ∈ m_tb := m_in (m_t2 (List.mem_of_getElem? (i := 162) rfl)) rfl
theorem w_fl_C_221 : Cond.fieldLink "RustFamily" 221 "RustFamily$Person" "of" "Z" ∈ m_tb := m_in (m_t1 (List.mem_of_getElem? (i := 122) rfl)) rfl
theorem w_fl_C_224 : Cond.fieldLink "RustFamily" 224 "RustFamily$Person" "lives" "Z" ∈ m_tb := m_in (m_t1 (List.mem_of_getElem? (i := 125) rfl)) rfl
theorem w_fl_C_236 : Cond.fieldLink "RustFamily" 236 "RustFamily$Family" "items" "[LRustFamily$Thing;" ∈ m_tb := m_in (m_t2 (List.mem_of_getElem? (i := 44) rfl)) rfl
theorem w_fl_C_240 : Cond.fieldLink "RustFamily" 240 "RustFamily$Thing" "thick" "I" ∈ m_tb := m_in (m_t1 (List.mem_of_getElem? (i := 157) rfl)) rfl
theorem w_fl_C_245 : Cond.fieldLink "RustFamily" 245 "RustFamily$Thing" "coat" "I" ∈ m_tb := m_in (m_t1 (List.mem_of_getElem? (i := 161) rfl)) rfl
theorem w_fl_C_248 : Cond.fieldLink "RustFamily" 248 "RustFamily$Thing" "rust" "I" ∈ m_tb := m_in (m_t1 (List.mem_of_getElem? (i := 167) rfl)) rfl
theorem w_fl_C_251 : Cond.fieldLink "RustFamily" 251 "RustFamily$Thing" "oil" "I" ∈ m_tb := m_in (m_t1 (List.mem_of_getElem? (i := 171) rfl)) rfl
theorem w_fl_C_266 : Cond.fieldLink "RustFamily" 266 "RustFamily$Person" "love" "[I" ∈ m_tb := m_in (m_t1 (List.mem_of_getElem? (i := 132) rfl)) rfl
theorem w_fl_C_30 : Cond.fieldLink "RustFamily" 30 "RustFamily" "text" "LRustFamily$Text;" ∈ m_tb := m_in (m_t2 (List.mem_of_getElem? (i := 163) rfl)) rfl
theorem w_fl_C_345 : Cond.fieldLink "RustFamily" 345 "RustFamily$Tray" "length" "I" ∈ m_tb := m_in (m_t1 (List.mem_of_getElem? (i := 40) rfl)) rfl
theorem w_fl_C_37 : Cond.fieldLink "RustFamily" 37 "RustFamily" "family" "LRustFamily$Family;" ∈ m_tb := m_in (m_t2 (List.mem_of_getElem? (i := 164) rfl)) rfl
theorem w_fl_C_371 : Cond.fieldLink "RustFamily" 371 "RustFamily$Keepers" "kept" "[I" ∈ m_tb := m_in (m_t2 (List.mem_of_getElem? (i := 121) rfl)) rfl
theorem w_fl_C_390 : Cond.fieldLink "RustFamily" 390 "RustFamily$Game" "firstMove" "I" ∈ m_tb := m_in (m_t2 (List.mem_of_getElem? (i := 149) rfl)) rfl
theorem w_fl_C_404 : Cond.fieldLink "RustFamily" 404 "RustFamily$Ahead" "allWays" "I" ∈ m_tb := m_in (m_t2 (List.mem_of_getElem? (i := 81) rfl)) rfl
theorem w_fl_C_41 : Cond.fieldLink "RustFamily" 41 "RustFamily" "spare" "LRustFamily$Family;" ∈ m_tb := m_in (m_t2 (List.mem_of_getElem? (i := 165) rfl)) rfl
theorem w_fl_C_419 : Cond.fieldLink "RustFamily" 419 "RustFamily$Plan" "told" "Z" ∈ m_tb := m_in (m_t1 (List.mem_of_getElem? (i := 191) rfl)) rfl
theorem w_fl_C_425 : Cond.fieldLink "RustFamily" 425 "RustFamily$Plan" "missed" "I" ∈ m_tb := m_in (m_t1 (List.mem_of_getElem? (i := 208) rfl)) rfl
theorem w_fl_C_431 : Cond.fieldLink "RustFamily" 431 "RustFamily$Plan" "done" "I" ∈ m_tb := m_in (m_t1 (List.mem_of_getElem? (i := 206) rfl)) rfl
theorem w_fl_C_47 : Cond.fieldLink "RustFamily" 47 "RustFamily" "sparePlan" "LRustFamily$Plan;" ∈ m_tb := m_in (m_t2 (List.mem_of_getElem? (i := 166) rfl)) rfl
theorem w_fl_C_51 : Cond.fieldLink "RustFamily" 51 "RustFamily" "marked" "[LRustFamily$Family;" ∈ m_tb := m_in (m_t2 (List.mem_of_getElem? (i := 167) rfl)) rfl
theorem w_fl_C_55 : Cond.fieldLink "RustFamily" 55 "RustFamily" "marks" "I" ∈ m_tb := m_in (m_t2 (List.mem_of_getElem? (i := 168) rfl)) rfl
theorem w_fl_C_61 : Cond.fieldLink "RustFamily" 61 "RustFamily" "ahead" "LRustFamily$Ahead;" ∈ m_tb := m_in (m_t2 (List.mem_of_getElem? (i := 169) rfl)) rfl
theorem w_fl_C_68 : Cond.fieldLink "RustFamily" 68 "RustFamily" "sight" "LRustFamily$Sight;" ∈ m_tb := m_in (m_t2 (List.mem_of_getElem? (i := 170) rfl)) rfl
theorem w_fl_C_75 : Cond.fieldLink "RustFamily" 75 "RustFamily" "keepers" "LRustFamily$Keepers;" ∈ m_tb := m_in (m_t2 (List.mem_of_getElem? (i := 171) rfl)) rfl
theorem w_fl_C_82 : Cond.fieldLink "RustFamily" 82 "RustFamily" "match" "LRustFamily$Game;" ∈ m_tb := m_in (m_t2 (List.mem_of_getElem? (i := 172) rfl)) rfl
theorem w_fl_C_86 : Cond.fieldLink "RustFamily" 86 "RustFamily" "latestLived" "[I" ∈ m_tb := m_in (m_t2 (List.mem_of_getElem? (i := 173) rfl)) rfl
theorem w_fl_C_9 : Cond.fieldLink "RustFamily" 9 "RustFamily" "status" "I" ∈ m_tb := m_in (m_t2 (List.mem_of_getElem? (i := 159) rfl)) rfl
theorem w_fl_C_90 : Cond.fieldLink "RustFamily" 90 "RustFamily" "hasLived" "Z" ∈ m_tb := m_in (m_t2 (List.mem_of_getElem? (i := 174) rfl)) rfl
theorem w_fl_M_124 : Cond.fieldLink "RustFamilyModel" 124 "RustFamilyModel" "textEnd" "I" ∈ m_tb := m_in (m_t6 (List.mem_of_getElem? (i := 155) rfl)) rfl
theorem w_fl_M_127 : Cond.fieldLink "RustFamilyModel" 127 "RustFamilyModel" "behind" "I" ∈ m_tb := m_in (m_t6 (List.mem_of_getElem? (i := 162) rfl)) rfl
theorem w_fl_M_13 : Cond.fieldLink "RustFamilyModel" 13 "RustFamilyModel" "traySort" "[I" ∈ m_tb := m_in (m_t6 (List.mem_of_getElem? (i := 150) rfl)) rfl
theorem w_fl_M_130 : Cond.fieldLink "RustFamilyModel" 130 "RustFamilyModel" "at" "I" ∈ m_tb := m_in (m_t6 (List.mem_of_getElem? (i := 161) rfl)) rfl
theorem w_fl_M_136 : Cond.fieldLink "RustFamilyModel" 136 "RustFamilyModel" "token" "I" ∈ m_tb := m_in (m_t6 (List.mem_of_getElem? (i := 160) rfl)) rfl
theorem w_fl_M_142 : Cond.fieldLink "RustFamilyModel" 142 "RustFamilyModel" "word" "J" ∈ m_tb := m_in (m_t6 (List.mem_of_getElem? (i := 165) rfl)) rfl
theorem w_fl_M_149 : Cond.fieldLink "RustFamilyModel" 149 "RustFamilyModel" "letters" "I" ∈ m_tb := m_in (m_t6 (List.mem_of_getElem? (i := 164) rfl)) rfl
theorem w_fl_M_155 : Cond.fieldLink "RustFamilyModel" 155 "RustFamilyModel" "number" "I" ∈ m_tb := m_in (m_t6 (List.mem_of_getElem? (i := 163) rfl)) rfl
theorem w_fl_M_17 : Cond.fieldLink "RustFamilyModel" 17 "RustFamilyModel" "trayMany" "[I" ∈ m_tb := m_in (m_t6 (List.mem_of_getElem? (i := 151) rfl)) rfl
theorem w_fl_M_20 : Cond.fieldLink "RustFamilyModel" 20 "RustFamilyModel" "numbers" "[J" ∈ m_tb := m_in (m_t6 (List.mem_of_getElem? (i := 152) rfl)) rfl
theorem w_fl_M_218 : Cond.fieldLink "RustFamilyModel" 218 "RustFamilyModel" "bad" "I" ∈ m_tb := m_in (m_t6 (List.mem_of_getElem? (i := 158) rfl)) rfl
theorem w_fl_M_221 : Cond.fieldLink "RustFamilyModel" 221 "RustFamilyModel" "badAt" "I" ∈ m_tb := m_in (m_t6 (List.mem_of_getElem? (i := 159) rfl)) rfl
theorem w_fl_M_24 : Cond.fieldLink "RustFamilyModel" 24 "RustFamilyModel" "tape" "[B" ∈ m_tb := m_in (m_t6 (List.mem_of_getElem? (i := 153) rfl)) rfl
theorem w_fl_M_241 : Cond.fieldLink "RustFamilyModel" 241 "RustFamilyModel" "taped" "I" ∈ m_tb := m_in (m_t6 (List.mem_of_getElem? (i := 154) rfl)) rfl
theorem w_fl_M_256 : Cond.fieldLink "RustFamilyModel" 256 "RustFamilyModel" "toldOnce" "I" ∈ m_tb := m_in (m_t6 (List.mem_of_getElem? (i := 171) rfl)) rfl
theorem w_fl_M_28 : Cond.fieldLink "RustFamilyModel" 28 "RustFamilyModel" "faultKind" "I" ∈ m_tb := m_in (m_t6 (List.mem_of_getElem? (i := 156) rfl)) rfl
theorem w_fl_M_304 : Cond.fieldLink "RustFamilyModel" 304 "RustFamilyModel" "newSteps" "I" ∈ m_tb := m_in (m_t6 (List.mem_of_getElem? (i := 172) rfl)) rfl
theorem w_fl_M_32 : Cond.fieldLink "RustFamilyModel" 32 "RustFamilyModel" "faultAt" "I" ∈ m_tb := m_in (m_t6 (List.mem_of_getElem? (i := 157) rfl)) rfl
theorem w_fl_M_35 : Cond.fieldLink "RustFamilyModel" 35 "RustFamilyModel" "c" "[I" ∈ m_tb := m_in (m_t6 (List.mem_of_getElem? (i := 166) rfl)) rfl
theorem w_fl_M_372 : Cond.fieldLink "RustFamilyModel" 372 "RustFamilyModel" "diedNow" "I" ∈ m_tb := m_in (m_t6 (List.mem_of_getElem? (i := 173) rfl)) rfl
theorem w_fl_M_38 : Cond.fieldLink "RustFamilyModel" 38 "RustFamilyModel" "aside" "[I" ∈ m_tb := m_in (m_t6 (List.mem_of_getElem? (i := 167) rfl)) rfl
theorem w_fl_M_41 : Cond.fieldLink "RustFamilyModel" 41 "RustFamilyModel" "before" "[I" ∈ m_tb := m_in (m_t6 (List.mem_of_getElem? (i := 168) rfl)) rfl
theorem w_fl_M_421 : Cond.fieldLink "RustFamilyModel" 421 "RustFamilyModel" "firstOnes" "I" ∈ m_tb := m_in (m_t6 (List.mem_of_getElem? (i := 174) rfl)) rfl
theorem w_fl_M_44 : Cond.fieldLink "RustFamilyModel" 44 "RustFamilyModel" "words" "[J" ∈ m_tb := m_in (m_t6 (List.mem_of_getElem? (i := 169) rfl)) rfl
theorem w_fl_M_445 : Cond.fieldLink "RustFamilyModel" 445 "RustFamilyModel" "wayMany" "I" ∈ m_tb := m_in (m_t6 (List.mem_of_getElem? (i := 175) rfl)) rfl
theorem w_fl_M_460 : Cond.fieldLink "RustFamilyModel" 460 "RustFamilyModel" "leastLove" "I" ∈ m_tb := m_in (m_t6 (List.mem_of_getElem? (i := 180) rfl)) rfl
theorem w_fl_M_47 : Cond.fieldLink "RustFamilyModel" 47 "RustFamilyModel" "same" "[I" ∈ m_tb := m_in (m_t6 (List.mem_of_getElem? (i := 176) rfl)) rfl
theorem w_fl_M_50 : Cond.fieldLink "RustFamilyModel" 50 "RustFamilyModel" "ways" "[I" ∈ m_tb := m_in (m_t6 (List.mem_of_getElem? (i := 177) rfl)) rfl
theorem w_fl_M_505 : Cond.fieldLink "RustFamilyModel" 505 "RustFamilyModel" "firstMove" "I" ∈ m_tb := m_in (m_t6 (List.mem_of_getElem? (i := 184) rfl)) rfl
theorem w_fl_M_511 : Cond.fieldLink "RustFamilyModel" 511 "RustFamilyModel" "rows" "J" ∈ m_tb := m_in (m_t6 (List.mem_of_getElem? (i := 187) rfl)) rfl
theorem w_fl_M_526 : Cond.fieldLink "RustFamilyModel" 526 "RustFamilyModel" "random" "I" ∈ m_tb := m_in (m_t6 (List.mem_of_getElem? (i := 191) rfl)) rfl
theorem w_fl_M_53 : Cond.fieldLink "RustFamilyModel" 53 "RustFamilyModel" "trial" "[I" ∈ m_tb := m_in (m_t6 (List.mem_of_getElem? (i := 178) rfl)) rfl
theorem w_fl_M_530 : Cond.fieldLink "RustFamilyModel" 530 "RustFamilyModel" "wentThrough" "I" ∈ m_tb := m_in (m_t6 (List.mem_of_getElem? (i := 195) rfl)) rfl
theorem w_fl_M_533 : Cond.fieldLink "RustFamilyModel" 533 "RustFamilyModel" "passed" "I" ∈ m_tb := m_in (m_t6 (List.mem_of_getElem? (i := 194) rfl)) rfl
theorem w_fl_M_554 : Cond.fieldLink "RustFamilyModel" 554 "RustFamilyModel" "done" "I" ∈ m_tb := m_in (m_t6 (List.mem_of_getElem? (i := 192) rfl)) rfl
theorem w_fl_M_557 : Cond.fieldLink "RustFamilyModel" 557 "RustFamilyModel" "isOver" "Z" ∈ m_tb := m_in (m_t6 (List.mem_of_getElem? (i := 190) rfl)) rfl
theorem w_fl_M_56 : Cond.fieldLink "RustFamilyModel" 56 "RustFamilyModel" "kept" "[I" ∈ m_tb := m_in (m_t6 (List.mem_of_getElem? (i := 179) rfl)) rfl
theorem w_fl_M_561 : Cond.fieldLink "RustFamilyModel" 561 "RustFamilyModel" "leftOver" "I" ∈ m_tb := m_in (m_t6 (List.mem_of_getElem? (i := 196) rfl)) rfl
theorem w_fl_M_564 : Cond.fieldLink "RustFamilyModel" 564 "RustFamilyModel" "missed" "I" ∈ m_tb := m_in (m_t6 (List.mem_of_getElem? (i := 193) rfl)) rfl
theorem w_fl_M_584 : Cond.fieldLink "RustFamilyModel" 584 "RustFamilyModel" "hasLived" "Z" ∈ m_tb := m_in (m_t6 (List.mem_of_getElem? (i := 189) rfl)) rfl
theorem w_fl_M_587 : Cond.fieldLink "RustFamilyModel" 587 "RustFamilyModel" "markMany" "I" ∈ m_tb := m_in (m_t6 (List.mem_of_getElem? (i := 170) rfl)) rfl
theorem w_fl_M_59 : Cond.fieldLink "RustFamilyModel" 59 "RustFamilyModel" "keeper" "[I" ∈ m_tb := m_in (m_t6 (List.mem_of_getElem? (i := 181) rfl)) rfl
theorem w_fl_M_62 : Cond.fieldLink "RustFamilyModel" 62 "RustFamilyModel" "asked" "[I" ∈ m_tb := m_in (m_t6 (List.mem_of_getElem? (i := 182) rfl)) rfl
theorem w_fl_M_65 : Cond.fieldLink "RustFamilyModel" 65 "RustFamilyModel" "turn" "[I" ∈ m_tb := m_in (m_t6 (List.mem_of_getElem? (i := 183) rfl)) rfl
theorem w_fl_M_68 : Cond.fieldLink "RustFamilyModel" 68 "RustFamilyModel" "bites" "[J" ∈ m_tb := m_in (m_t6 (List.mem_of_getElem? (i := 185) rfl)) rfl
theorem w_fl_M_7 : Cond.fieldLink "RustFamilyModel" 7 "RustFamilyModel" "under" "J" ∈ m_tb := m_in (m_t6 (List.mem_of_getElem? (i := 149) rfl)) rfl
theorem w_fl_M_71 : Cond.fieldLink "RustFamilyModel" 71 "RustFamilyModel" "more" "[J" ∈ m_tb := m_in (m_t6 (List.mem_of_getElem? (i := 186) rfl)) rfl
theorem w_fl_M_74 : Cond.fieldLink "RustFamilyModel" 74 "RustFamilyModel" "livedLast" "[I" ∈ m_tb := m_in (m_t6 (List.mem_of_getElem? (i := 188) rfl)) rfl
theorem w_fl_M_81 : Cond.fieldLink "RustFamilyModel" 81 "RustFamilyModel" "thrown" "I" ∈ m_tb := m_in (m_t6 (List.mem_of_getElem? (i := 147) rfl)) rfl
theorem w_fl_M_84 : Cond.fieldLink "RustFamilyModel" 84 "RustFamilyModel" "status" "I" ∈ m_tb := m_in (m_t6 (List.mem_of_getElem? (i := 146) rfl)) rfl
theorem w_fl_M_87 : Cond.fieldLink "RustFamilyModel" 87 "RustFamilyModel" "above" "J" ∈ m_tb := m_in (m_t6 (List.mem_of_getElem? (i := 148) rfl)) rfl
theorem w_in_Ah : Cond.initialized "RustFamily$Ahead" ∈ m_tb := m_in (m_t1 (List.mem_of_getElem? (i := 8) rfl)) rfl
theorem w_in_Fa : Cond.initialized "RustFamily$Family" ∈ m_tb := m_in (m_t1 (List.mem_of_getElem? (i := 4) rfl)) rfl
theorem w_in_Ga : Cond.initialized "RustFamily$Game" ∈ m_tb := m_in (m_t1 (List.mem_of_getElem? (i := 11) rfl)) rfl
theorem w_in_Ke : Cond.initialized "RustFamily$Keepers" ∈ m_tb := m_in (m_t1 (List.mem_of_getElem? (i := 10) rfl)) rfl
theorem w_in_Pe : Cond.initialized "RustFamily$Person" ∈ m_tb := m_in (m_t1 (List.mem_of_getElem? (i := 5) rfl)) rfl
theorem w_in_Pl : Cond.initialized "RustFamily$Plan" ∈ m_tb := m_in (m_t1 (List.mem_of_getElem? (i := 7) rfl)) rfl
theorem w_in_Re : Cond.initialized "RustFamily$Reader" ∈ m_tb := m_in (m_t1 (List.mem_of_getElem? (i := 15) rfl)) rfl
theorem w_in_Si : Cond.initialized "RustFamily$Sight" ∈ m_tb := m_in (m_t1 (List.mem_of_getElem? (i := 9) rfl)) rfl
theorem w_in_Tx : Cond.initialized "RustFamily$Text" ∈ m_tb := m_in (m_t1 (List.mem_of_getElem? (i := 3) rfl)) rfl
theorem w_in_Th : Cond.initialized "RustFamily$Thing" ∈ m_tb := m_in (m_t1 (List.mem_of_getElem? (i := 6) rfl)) rfl
theorem w_in_Tr : Cond.initialized "RustFamily$Tray" ∈ m_tb := m_in (m_t1 (List.mem_of_getElem? (i := 2) rfl)) rfl
theorem w_in_C : Cond.initialized "RustFamily" ∈ m_tb := m_in (m_t1 (List.mem_of_getElem? (i := 1) rfl)) rfl
theorem w_in_M : Cond.initialized "RustFamilyModel" ∈ m_tb := m_in (m_t1 (List.mem_of_getElem? (i := 12) rfl)) rfl
theorem w_in_JI : Cond.initialized "java/lang/Integer" ∈ m_tb := m_in (m_t1 (List.mem_of_getElem? (i := 21) rfl)) rfl
theorem w_in_JM : Cond.initialized "java/lang/Math" ∈ m_tb := m_in (m_t1 (List.mem_of_getElem? (i := 20) rfl)) rfl
theorem w_in_java_lang_System : Cond.initialized "java/lang/System" ∈ m_tb := m_in (m_t1 (List.mem_of_getElem? (i := 14) rfl)) rfl
theorem w_in_JA : Cond.initialized "java/util/Arrays" ∈ m_tb := m_in (m_t1 (List.mem_of_getElem? (i := 13) rfl)) rfl
theorem w_im_Ah_init : Cond.instanceMethod ⟨"RustFamily$Ahead", "<init>", "()V"⟩ ∈ m_tb := m_in (m_t2 (List.mem_of_getElem? (i := 75) rfl)) rfl
theorem w_im_Ah_allRustWithout : Cond.instanceMethod ⟨"RustFamily$Ahead", "allRustWithout", "(LRustFamily$Family;II)I"⟩ ∈ m_tb := m_in (m_t5 (List.mem_of_getElem? (i := 30) rfl)) rfl
theorem w_im_Ah_fewestJars : Cond.instanceMethod ⟨"RustFamily$Ahead", "fewestJars", "(LRustFamily$Family;II)I"⟩ ∈ m_tb := m_in (m_t5 (List.mem_of_getElem? (i := 38) rfl)) rfl
theorem w_im_Ah_rustAfter : Cond.instanceMethod ⟨"RustFamily$Ahead", "rustAfter", "(LRustFamily$Family;II)I"⟩ ∈ m_tb := m_in (m_t4 (List.mem_of_getElem? (i := 224) rfl)) rfl
theorem w_im_Ah_spread : Cond.instanceMethod ⟨"RustFamily$Ahead", "spread", "(LRustFamily$Family;II)V"⟩ ∈ m_tb := m_in (m_t6 (List.mem_of_getElem? (i := 21) rfl)) rfl
theorem w_im_Ah_spreadYear : Cond.instanceMethod ⟨"RustFamily$Ahead", "spreadYear", "(IZ)V"⟩ ∈ m_tb := m_in (m_t6 (List.mem_of_getElem? (i := 26) rfl)) rfl
theorem w_im_Ah_takeMostSaving : Cond.instanceMethod ⟨"RustFamily$Ahead", "takeMostSaving", "(I)I"⟩ ∈ m_tb := m_in (m_t5 (List.mem_of_getElem? (i := 45) rfl)) rfl
theorem w_im_Ah_walk : Cond.instanceMethod ⟨"RustFamily$Ahead", "walk", "(LRustFamily$Family;IIII)I"⟩ ∈ m_tb := m_in (m_t4 (List.mem_of_getElem? (i := 228) rfl)) rfl
theorem w_im_Ah_waysToLast : Cond.instanceMethod ⟨"RustFamily$Ahead", "waysToLast", "(LRustFamily$Thing;I)I"⟩ ∈ m_tb := m_in (m_t6 (List.mem_of_getElem? (i := 29) rfl)) rfl
theorem w_im_Fa_init : Cond.instanceMethod ⟨"RustFamily$Family", "<init>", "()V"⟩ ∈ m_tb := m_in (m_t1 (List.mem_of_getElem? (i := 105) rfl)) rfl
theorem w_im_Fa_addPerson : Cond.instanceMethod ⟨"RustFamily$Family", "addPerson", "(JIZ)V"⟩ ∈ m_tb := m_in (m_t3 (List.mem_of_getElem? (i := 207) rfl)) rfl
theorem w_im_Fa_addThing : Cond.instanceMethod ⟨"RustFamily$Family", "addThing", "(JII)V"⟩ ∈ m_tb := m_in (m_t3 (List.mem_of_getElem? (i := 220) rfl)) rfl
theorem w_im_Fa_allRust : Cond.instanceMethod ⟨"RustFamily$Family", "allRust", "()I"⟩ ∈ m_tb := m_in (m_t4 (List.mem_of_getElem? (i := 82) rfl)) rfl
theorem w_im_Fa_copyPeopleAndThings : Cond.instanceMethod ⟨"RustFamily$Family", "copyPeopleAndThings", "(LRustFamily$Family;)V"⟩ ∈ m_tb := m_in (m_t6 (List.mem_of_getElem? (i := 114) rfl)) rfl
theorem w_im_Fa_livingSet : Cond.instanceMethod ⟨"RustFamily$Family", "livingSet", "()I"⟩ ∈ m_tb := m_in (m_t4 (List.mem_of_getElem? (i := 58) rfl)) rfl
theorem w_im_Fa_lovedAhead : Cond.instanceMethod ⟨"RustFamily$Family", "lovedAhead", "(II)I"⟩ ∈ m_tb := m_in (m_t4 (List.mem_of_getElem? (i := 107) rfl)) rfl
theorem w_im_Fa_lovedBy : Cond.instanceMethod ⟨"RustFamily$Family", "lovedBy", "(II)I"⟩ ∈ m_tb := m_in (m_t4 (List.mem_of_getElem? (i := 112) rfl)) rfl
theorem w_im_Fa_oiledSet : Cond.instanceMethod ⟨"RustFamily$Family", "oiledSet", "()I"⟩ ∈ m_tb := m_in (m_t4 (List.mem_of_getElem? (i := 78) rfl)) rfl
theorem w_im_Fa_passYear : Cond.instanceMethod ⟨"RustFamily$Family", "passYear", "()V"⟩ ∈ m_tb := m_in (m_t4 (List.mem_of_getElem? (i := 148) rfl)) rfl
theorem w_im_Fa_passYears : Cond.instanceMethod ⟨"RustFamily$Family", "passYears", "(I)Z"⟩ ∈ m_tb := m_in (m_t4 (List.mem_of_getElem? (i := 142) rfl)) rfl
theorem w_im_Fa_personNamed : Cond.instanceMethod ⟨"RustFamily$Family", "personNamed", "(J)I"⟩ ∈ m_tb := m_in (m_t3 (List.mem_of_getElem? (i := 151) rfl)) rfl
theorem w_im_Fa_showingSet : Cond.instanceMethod ⟨"RustFamily$Family", "showingSet", "(I)I"⟩ ∈ m_tb := m_in (m_t4 (List.mem_of_getElem? (i := 62) rfl)) rfl
theorem w_im_Fa_showsAhead : Cond.instanceMethod ⟨"RustFamily$Family", "showsAhead", "(II)Z"⟩ ∈ m_tb := m_in (m_t4 (List.mem_of_getElem? (i := 66) rfl)) rfl
theorem w_im_Fa_thingNamed : Cond.instanceMethod ⟨"RustFamily$Family", "thingNamed", "(J)I"⟩ ∈ m_tb := m_in (m_t3 (List.mem_of_getElem? (i := 155) rfl)) rfl
theorem w_im_Fa_throughSet : Cond.instanceMethod ⟨"RustFamily$Family", "throughSet", "()I"⟩ ∈ m_tb := m_in (m_t4 (List.mem_of_getElem? (i := 70) rfl)) rfl
theorem w_im_Ga_init : Cond.instanceMethod ⟨"RustFamily$Game", "<init>", "()V"⟩ ∈ m_tb := m_in (m_t2 (List.mem_of_getElem? (i := 143) rfl)) rfl
theorem w_im_Ga_bestFrom : Cond.instanceMethod ⟨"RustFamily$Game", "bestFrom", "(LRustFamily$Family;II)I"⟩ ∈ m_tb := m_in (m_t5 (List.mem_of_getElem? (i := 226) rfl)) rfl
theorem w_im_Ga_canMove : Cond.instanceMethod ⟨"RustFamily$Game", "canMove", "(II)Z"⟩ ∈ m_tb := m_in (m_t5 (List.mem_of_getElem? (i := 230) rfl)) rfl
theorem w_im_Ga_makeMove : Cond.instanceMethod ⟨"RustFamily$Game", "makeMove", "(LRustFamily$Family;II)V"⟩ ∈ m_tb := m_in (m_t6 (List.mem_of_getElem? (i := 3) rfl)) rfl
theorem w_im_Ga_otherOf : Cond.instanceMethod ⟨"RustFamily$Game", "otherOf", "(II)LRustFamily$Thing;"⟩ ∈ m_tb := m_in (m_t5 (List.mem_of_getElem? (i := 234) rfl)) rfl
theorem w_im_Ga_ownOf : Cond.instanceMethod ⟨"RustFamily$Game", "ownOf", "(II)LRustFamily$Thing;"⟩ ∈ m_tb := m_in (m_t5 (List.mem_of_getElem? (i := 239) rfl)) rfl
theorem w_im_Ga_play : Cond.instanceMethod ⟨"RustFamily$Game", "play", "(LRustFamily$Family;III)I"⟩ ∈ m_tb := m_in (m_t5 (List.mem_of_getElem? (i := 219) rfl)) rfl
theorem w_im_Ke_init : Cond.instanceMethod ⟨"RustFamily$Keepers", "<init>", "()V"⟩ ∈ m_tb := m_in (m_t2 (List.mem_of_getElem? (i := 117) rfl)) rfl
theorem w_im_Ke_askAround : Cond.instanceMethod ⟨"RustFamily$Keepers", "askAround", "(LRustFamily$Family;I)V"⟩ ∈ m_tb := m_in (m_t5 (List.mem_of_getElem? (i := 171) rfl)) rfl
theorem w_im_Ke_askFor : Cond.instanceMethod ⟨"RustFamily$Keepers", "askFor", "(LRustFamily$Family;II)V"⟩ ∈ m_tb := m_in (m_t5 (List.mem_of_getElem? (i := 184) rfl)) rfl
theorem w_im_Ke_askOnce : Cond.instanceMethod ⟨"RustFamily$Keepers", "askOnce", "(LRustFamily$Family;)Z"⟩ ∈ m_tb := m_in (m_t5 (List.mem_of_getElem? (i := 176) rfl)) rfl
theorem w_im_Ke_cheapestOf : Cond.instanceMethod ⟨"RustFamily$Keepers", "cheapestOf", "(LRustFamily$Family;I)I"⟩ ∈ m_tb := m_in (m_t5 (List.mem_of_getElem? (i := 159) rfl)) rfl
theorem w_im_Ke_countFrom : Cond.instanceMethod ⟨"RustFamily$Keepers", "countFrom", "(LRustFamily$Family;I)I"⟩ ∈ m_tb := m_in (m_t5 (List.mem_of_getElem? (i := 200) rfl)) rfl
theorem w_im_Ke_countStable : Cond.instanceMethod ⟨"RustFamily$Keepers", "countStable", "(LRustFamily$Family;I)I"⟩ ∈ m_tb := m_in (m_t5 (List.mem_of_getElem? (i := 195) rfl)) rfl
theorem w_im_Ke_firstLeast : Cond.instanceMethod ⟨"RustFamily$Keepers", "firstLeast", "(LRustFamily$Family;II)I"⟩ ∈ m_tb := m_in (m_t5 (List.mem_of_getElem? (i := 164) rfl)) rfl
theorem w_im_Ke_gather : Cond.instanceMethod ⟨"RustFamily$Keepers", "gather", "(LRustFamily$Family;I)V"⟩ ∈ m_tb := m_in (m_t5 (List.mem_of_getElem? (i := 132) rfl)) rfl
theorem w_im_Ke_isStable : Cond.instanceMethod ⟨"RustFamily$Keepers", "isStable", "(LRustFamily$Family;)Z"⟩ ∈ m_tb := m_in (m_t5 (List.mem_of_getElem? (i := 204) rfl)) rfl
theorem w_im_Ke_leastFrom : Cond.instanceMethod ⟨"RustFamily$Keepers", "leastFrom", "(LRustFamily$Family;II)I"⟩ ∈ m_tb := m_in (m_t5 (List.mem_of_getElem? (i := 138) rfl)) rfl
theorem w_im_Ke_leastLove : Cond.instanceMethod ⟨"RustFamily$Keepers", "leastLove", "(LRustFamily$Family;I)I"⟩ ∈ m_tb := m_in (m_t5 (List.mem_of_getElem? (i := 127) rfl)) rfl
theorem w_im_Ke_loveAndBehind : Cond.instanceMethod ⟨"RustFamily$Keepers", "loveAndBehind", "(LRustFamily$Family;III)I"⟩ ∈ m_tb := m_in (m_t5 (List.mem_of_getElem? (i := 147) rfl)) rfl
theorem w_im_Ke_mostLoved : Cond.instanceMethod ⟨"RustFamily$Keepers", "mostLoved", "(LRustFamily$Family;I)I"⟩ ∈ m_tb := m_in (m_t5 (List.mem_of_getElem? (i := 180) rfl)) rfl
theorem w_im_Ke_wouldChange : Cond.instanceMethod ⟨"RustFamily$Keepers", "wouldChange", "(LRustFamily$Family;I)Z"⟩ ∈ m_tb := m_in (m_t5 (List.mem_of_getElem? (i := 208) rfl)) rfl
theorem w_im_Ke_wouldTake : Cond.instanceMethod ⟨"RustFamily$Keepers", "wouldTake", "(LRustFamily$Family;II)Z"⟩ ∈ m_tb := m_in (m_t5 (List.mem_of_getElem? (i := 188) rfl)) rfl
theorem w_im_Pe_init : Cond.instanceMethod ⟨"RustFamily$Person", "<init>", "()V"⟩ ∈ m_tb := m_in (m_t1 (List.mem_of_getElem? (i := 112) rfl)) rfl
theorem w_im_Pe_copyFrom : Cond.instanceMethod ⟨"RustFamily$Person", "copyFrom", "(LRustFamily$Person;)V"⟩ ∈ m_tb := m_in (m_t6 (List.mem_of_getElem? (i := 118) rfl)) rfl
theorem w_im_Pe_lovedSet : Cond.instanceMethod ⟨"RustFamily$Person", "lovedSet", "(I)I"⟩ ∈ m_tb := m_in (m_t4 (List.mem_of_getElem? (i := 95) rfl)) rfl
theorem w_im_Pl_init : Cond.instanceMethod ⟨"RustFamily$Plan", "<init>", "()V"⟩ ∈ m_tb := m_in (m_t1 (List.mem_of_getElem? (i := 186) rfl)) rfl
theorem w_im_Pl_act : Cond.instanceMethod ⟨"RustFamily$Plan", "act", "(LRustFamily$Family;)Z"⟩ ∈ m_tb := m_in (m_t6 (List.mem_of_getElem? (i := 72) rfl)) rfl
theorem w_im_Pl_actAny : Cond.instanceMethod ⟨"RustFamily$Plan", "actAny", "(LRustFamily$Family;)Z"⟩ ∈ m_tb := m_in (m_t6 (List.mem_of_getElem? (i := 83) rfl)) rfl
theorem w_im_Pl_clear : Cond.instanceMethod ⟨"RustFamily$Plan", "clear", "()V"⟩ ∈ m_tb := m_in (m_t3 (List.mem_of_getElem? (i := 80) rfl)) rfl
theorem w_im_Pl_copyFrom : Cond.instanceMethod ⟨"RustFamily$Plan", "copyFrom", "(LRustFamily$Plan;)V"⟩ ∈ m_tb := m_in (m_t6 (List.mem_of_getElem? (i := 128) rfl)) rfl
theorem w_im_Pl_draw : Cond.instanceMethod ⟨"RustFamily$Plan", "draw", "(I)I"⟩ ∈ m_tb := m_in (m_t6 (List.mem_of_getElem? (i := 87) rfl)) rfl
theorem w_im_Pl_enterLoop : Cond.instanceMethod ⟨"RustFamily$Plan", "enterLoop", "()V"⟩ ∈ m_tb := m_in (m_t6 (List.mem_of_getElem? (i := 62) rfl)) rfl
theorem w_im_Pl_goRound : Cond.instanceMethod ⟨"RustFamily$Plan", "goRound", "()V"⟩ ∈ m_tb := m_in (m_t6 (List.mem_of_getElem? (i := 99) rfl)) rfl
theorem w_im_Pl_holds : Cond.instanceMethod ⟨"RustFamily$Plan", "holds", "(LRustFamily$Family;)Z"⟩ ∈ m_tb := m_in (m_t6 (List.mem_of_getElem? (i := 66) rfl)) rfl
theorem w_im_Pl_isLeft : Cond.instanceMethod ⟨"RustFamily$Plan", "isLeft", "()Z"⟩ ∈ m_tb := m_in (m_t6 (List.mem_of_getElem? (i := 102) rfl)) rfl
theorem w_im_Pl_latestOpen : Cond.instanceMethod ⟨"RustFamily$Plan", "latestOpen", "()I"⟩ ∈ m_tb := m_in (m_t4 (List.mem_of_getElem? (i := 5) rfl)) rfl
theorem w_im_Pl_openBlocks : Cond.instanceMethod ⟨"RustFamily$Plan", "openBlocks", "()I"⟩ ∈ m_tb := m_in (m_t4 (List.mem_of_getElem? (i := 17) rfl)) rfl
theorem w_im_Pl_run : Cond.instanceMethod ⟨"RustFamily$Plan", "run", "(LRustFamily$Family;I)V"⟩ ∈ m_tb := m_in (m_t6 (List.mem_of_getElem? (i := 57) rfl)) rfl
theorem w_im_Si_init : Cond.instanceMethod ⟨"RustFamily$Sight", "<init>", "()V"⟩ ∈ m_tb := m_in (m_t2 (List.mem_of_getElem? (i := 100) rfl)) rfl
theorem w_im_Si_bestDamp : Cond.instanceMethod ⟨"RustFamily$Sight", "bestDamp", "()I"⟩ ∈ m_tb := m_in (m_t5 (List.mem_of_getElem? (i := 110) rfl)) rfl
theorem w_im_Si_canLove : Cond.instanceMethod ⟨"RustFamily$Sight", "canLove", "(I)Z"⟩ ∈ m_tb := m_in (m_t5 (List.mem_of_getElem? (i := 103) rfl)) rfl
theorem w_im_Si_countSums : Cond.instanceMethod ⟨"RustFamily$Sight", "countSums", "()V"⟩ ∈ m_tb := m_in (m_t5 (List.mem_of_getElem? (i := 90) rfl)) rfl
theorem w_im_Si_look : Cond.instanceMethod ⟨"RustFamily$Sight", "look", "(I[JI)V"⟩ ∈ m_tb := m_in (m_t5 (List.mem_of_getElem? (i := 72) rfl)) rfl
theorem w_im_Si_onlyLove : Cond.instanceMethod ⟨"RustFamily$Sight", "onlyLove", "()I"⟩ ∈ m_tb := m_in (m_t5 (List.mem_of_getElem? (i := 98) rfl)) rfl
theorem w_im_Si_unlikeBites : Cond.instanceMethod ⟨"RustFamily$Sight", "unlikeBites", "(I)I"⟩ ∈ m_tb := m_in (m_t5 (List.mem_of_getElem? (i := 115) rfl)) rfl
theorem w_im_Si_ways : Cond.instanceMethod ⟨"RustFamily$Sight", "ways", "()I"⟩ ∈ m_tb := m_in (m_t5 (List.mem_of_getElem? (i := 85) rfl)) rfl
theorem w_im_Tx_init : Cond.instanceMethod ⟨"RustFamily$Text", "<init>", "()V"⟩ ∈ m_tb := m_in (m_t1 (List.mem_of_getElem? (i := 54) rfl)) rfl
theorem w_im_Tx_advance : Cond.instanceMethod ⟨"RustFamily$Text", "advance", "()V"⟩ ∈ m_tb := m_in (m_t3 (List.mem_of_getElem? (i := 51) rfl)) rfl
theorem w_im_Tx_is : Cond.instanceMethod ⟨"RustFamily$Text", "is", "(Ljava/lang/String;)Z"⟩ ∈ m_tb := m_in (m_t3 (List.mem_of_getElem? (i := 88) rfl)) rfl
theorem w_im_Tx_isReserved : Cond.instanceMethod ⟨"RustFamily$Text", "isReserved", "()Z"⟩ ∈ m_tb := m_in (m_t3 (List.mem_of_getElem? (i := 164) rfl)) rfl
theorem w_im_Tx_open : Cond.instanceMethod ⟨"RustFamily$Text", "open", "(I)V"⟩ ∈ m_tb := m_in (m_t3 (List.mem_of_getElem? (i := 47) rfl)) rfl
theorem w_im_Tx_put : Cond.instanceMethod ⟨"RustFamily$Text", "put", "(I)V"⟩ ∈ m_tb := m_in (m_t3 (List.mem_of_getElem? (i := 39) rfl)) rfl
theorem w_im_Tx_refuse : Cond.instanceMethod ⟨"RustFamily$Text", "refuse", "(I)Z"⟩ ∈ m_tb := m_in (m_t3 (List.mem_of_getElem? (i := 143) rfl)) rfl
theorem w_im_Tx_scanNumber : Cond.instanceMethod ⟨"RustFamily$Text", "scanNumber", "()V"⟩ ∈ m_tb := m_in (m_t3 (List.mem_of_getElem? (i := 71) rfl)) rfl
theorem w_im_Tx_scanWord : Cond.instanceMethod ⟨"RustFamily$Text", "scanWord", "()V"⟩ ∈ m_tb := m_in (m_t3 (List.mem_of_getElem? (i := 63) rfl)) rfl
theorem w_im_Tx_skipBlanks : Cond.instanceMethod ⟨"RustFamily$Text", "skipBlanks", "()V"⟩ ∈ m_tb := m_in (m_t3 (List.mem_of_getElem? (i := 56) rfl)) rfl
theorem w_im_Tx_takeEndSign : Cond.instanceMethod ⟨"RustFamily$Text", "takeEndSign", "()Z"⟩ ∈ m_tb := m_in (m_t3 (List.mem_of_getElem? (i := 203) rfl)) rfl
theorem w_im_Tx_takeName : Cond.instanceMethod ⟨"RustFamily$Text", "takeName", "(Z)Z"⟩ ∈ m_tb := m_in (m_t3 (List.mem_of_getElem? (i := 159) rfl)) rfl
theorem w_im_Tx_takeNumber : Cond.instanceMethod ⟨"RustFamily$Text", "takeNumber", "(II)Z"⟩ ∈ m_tb := m_in (m_t3 (List.mem_of_getElem? (i := 195) rfl)) rfl
theorem w_im_Tx_takeWord : Cond.instanceMethod ⟨"RustFamily$Text", "takeWord", "(Ljava/lang/String;)Z"⟩ ∈ m_tb := m_in (m_t3 (List.mem_of_getElem? (i := 191) rfl)) rfl
theorem w_im_Th_init : Cond.instanceMethod ⟨"RustFamily$Thing", "<init>", "()V"⟩ ∈ m_tb := m_in (m_t1 (List.mem_of_getElem? (i := 149) rfl)) rfl
theorem w_im_Th_bite : Cond.instanceMethod ⟨"RustFamily$Thing", "bite", "(II)I"⟩ ∈ m_tb := m_in (m_t4 (List.mem_of_getElem? (i := 116) rfl)) rfl
theorem w_im_Th_copyFrom : Cond.instanceMethod ⟨"RustFamily$Thing", "copyFrom", "(LRustFamily$Thing;)V"⟩ ∈ m_tb := m_in (m_t4 (List.mem_of_getElem? (i := 232) rfl)) rfl
theorem w_im_Th_halveRust : Cond.instanceMethod ⟨"RustFamily$Thing", "halveRust", "()V"⟩ ∈ m_tb := m_in (m_t4 (List.mem_of_getElem? (i := 191) rfl)) rfl
theorem w_im_Th_isThrough : Cond.instanceMethod ⟨"RustFamily$Thing", "isThrough", "()Z"⟩ ∈ m_tb := m_in (m_t4 (List.mem_of_getElem? (i := 74) rfl)) rfl
theorem w_im_Th_passYear : Cond.instanceMethod ⟨"RustFamily$Thing", "passYear", "(II)V"⟩ ∈ m_tb := m_in (m_t4 (List.mem_of_getElem? (i := 151) rfl)) rfl
theorem w_im_Th_putCoat : Cond.instanceMethod ⟨"RustFamily$Thing", "putCoat", "(I)V"⟩ ∈ m_tb := m_in (m_t4 (List.mem_of_getElem? (i := 183) rfl)) rfl
theorem w_im_Th_putOil : Cond.instanceMethod ⟨"RustFamily$Thing", "putOil", "()V"⟩ ∈ m_tb := m_in (m_t4 (List.mem_of_getElem? (i := 175) rfl)) rfl
theorem w_im_Th_takeBreath : Cond.instanceMethod ⟨"RustFamily$Thing", "takeBreath", "(I)V"⟩ ∈ m_tb := m_in (m_t4 (List.mem_of_getElem? (i := 199) rfl)) rfl
theorem w_im_Tr_init : Cond.instanceMethod ⟨"RustFamily$Tray", "<init>", "()V"⟩ ∈ m_tb := m_in (m_t1 (List.mem_of_getElem? (i := 34) rfl)) rfl
theorem w_im_Tr_holds : Cond.instanceMethod ⟨"RustFamily$Tray", "holds", "(II)Z"⟩ ∈ m_tb := m_in (m_t3 (List.mem_of_getElem? (i := 11) rfl)) rfl
theorem w_im_Tr_isMissing : Cond.instanceMethod ⟨"RustFamily$Tray", "isMissing", "()Z"⟩ ∈ m_tb := m_in (m_t3 (List.mem_of_getElem? (i := 7) rfl)) rfl
theorem w_im_Tr_lay : Cond.instanceMethod ⟨"RustFamily$Tray", "lay", "(II)V"⟩ ∈ m_tb := m_in (m_t2 (List.mem_of_getElem? (i := 228) rfl)) rfl
theorem w_im_Tr_put : Cond.instanceMethod ⟨"RustFamily$Tray", "put", "(IJ)V"⟩ ∈ m_tb := m_in (m_t3 (List.mem_of_getElem? (i := 15) rfl)) rfl
theorem w_im_C_init : Cond.instanceMethod ⟨"RustFamily", "<init>", "()V"⟩ ∈ m_tb := m_in (m_t1 (List.mem_of_getElem? (i := 25) rfl)) rfl
theorem w_im_C_ask : Cond.instanceMethod ⟨"RustFamily", "ask", "(II)I"⟩ ∈ m_tb := m_in (m_t5 (List.mem_of_getElem? (i := 106) rfl)) rfl
theorem w_im_C_back : Cond.instanceMethod ⟨"RustFamily", "back", "()I"⟩ ∈ m_tb := m_in (m_t6 (List.mem_of_getElem? (i := 133) rfl)) rfl
theorem w_im_C_blame : Cond.instanceMethod ⟨"RustFamily", "blame", "(I)Z"⟩ ∈ m_tb := m_in (m_t6 (List.mem_of_getElem? (i := 49) rfl)) rfl
theorem w_im_C_born : Cond.instanceMethod ⟨"RustFamily", "born", "(IZ)I"⟩ ∈ m_tb := m_in (m_t4 (List.mem_of_getElem? (i := 208) rfl)) rfl
theorem w_im_C_bottom : Cond.instanceMethod ⟨"RustFamily", "bottom", "()J"⟩ ∈ m_tb := m_in (m_t2 (List.mem_of_getElem? (i := 217) rfl)) rfl
theorem w_im_C_breathe : Cond.instanceMethod ⟨"RustFamily", "breathe", "(I)I"⟩ ∈ m_tb := m_in (m_t4 (List.mem_of_getElem? (i := 195) rfl)) rfl
theorem w_im_C_coat : Cond.instanceMethod ⟨"RustFamily", "coat", "(II)I"⟩ ∈ m_tb := m_in (m_t4 (List.mem_of_getElem? (i := 179) rfl)) rfl
theorem w_im_C_copyRust : Cond.instanceMethod ⟨"RustFamily", "copyRust", "(I)I"⟩ ∈ m_tb := m_in (m_t4 (List.mem_of_getElem? (i := 133) rfl)) rfl
theorem w_im_C_diesIn : Cond.instanceMethod ⟨"RustFamily", "diesIn", "(I)I"⟩ ∈ m_tb := m_in (m_t5 (List.mem_of_getElem? (i := 22) rfl)) rfl
theorem w_im_C_dote : Cond.instanceMethod ⟨"RustFamily", "dote", "(III)I"⟩ ∈ m_tb := m_in (m_t4 (List.mem_of_getElem? (i := 163) rfl)) rfl
theorem w_im_C_family : Cond.instanceMethod ⟨"RustFamily", "family", "(I)I"⟩ ∈ m_tb := m_in (m_t3 (List.mem_of_getElem? (i := 43) rfl)) rfl
theorem w_im_C_fault : Cond.instanceMethod ⟨"RustFamily", "fault", "(I)I"⟩ ∈ m_tb := m_in (m_t4 (List.mem_of_getElem? (i := 50) rfl)) rfl
theorem w_im_C_feed : Cond.instanceMethod ⟨"RustFamily", "feed", "(IIIII)I"⟩ ∈ m_tb := m_in (m_t3 (List.mem_of_getElem? (i := 35) rfl)) rfl
theorem w_im_C_firstThrough : Cond.instanceMethod ⟨"RustFamily", "firstThrough", "()I"⟩ ∈ m_tb := m_in (m_t5 (List.mem_of_getElem? (i := 9) rfl)) rfl
theorem w_im_C_forge : Cond.instanceMethod ⟨"RustFamily", "forge", "(I)I"⟩ ∈ m_tb := m_in (m_t4 (List.mem_of_getElem? (i := 203) rfl)) rfl
theorem w_im_C_game : Cond.instanceMethod ⟨"RustFamily", "game", "(III)I"⟩ ∈ m_tb := m_in (m_t5 (List.mem_of_getElem? (i := 211) rfl)) rfl
theorem w_im_C_gameStatus : Cond.instanceMethod ⟨"RustFamily", "gameStatus", "(IIII)I"⟩ ∈ m_tb := m_in (m_t5 (List.mem_of_getElem? (i := 216) rfl)) rfl
theorem w_im_C_isPerson : Cond.instanceMethod ⟨"RustFamily", "isPerson", "(I)Z"⟩ ∈ m_tb := m_in (m_t4 (List.mem_of_getElem? (i := 91) rfl)) rfl
theorem w_im_C_isThing : Cond.instanceMethod ⟨"RustFamily", "isThing", "(I)Z"⟩ ∈ m_tb := m_in (m_t4 (List.mem_of_getElem? (i := 104) rfl)) rfl
theorem w_im_C_jars : Cond.instanceMethod ⟨"RustFamily", "jars", "(II)I"⟩ ∈ m_tb := m_in (m_t5 (List.mem_of_getElem? (i := 34) rfl)) rfl
theorem w_im_C_jarsFor : Cond.instanceMethod ⟨"RustFamily", "jarsFor", "(II)I"⟩ ∈ m_tb := m_in (m_t5 (List.mem_of_getElem? (i := 48) rfl)) rfl
theorem w_im_C_keeping : Cond.instanceMethod ⟨"RustFamily", "keeping", "(I)I"⟩ ∈ m_tb := m_in (m_t5 (List.mem_of_getElem? (i := 118) rfl)) rfl
theorem w_im_C_keepingStatus : Cond.instanceMethod ⟨"RustFamily", "keepingStatus", "(I)I"⟩ ∈ m_tb := m_in (m_t5 (List.mem_of_getElem? (i := 123) rfl)) rfl
theorem w_im_C_keeps : Cond.instanceMethod ⟨"RustFamily", "keeps", "(II)I"⟩ ∈ m_tb := m_in (m_t5 (List.mem_of_getElem? (i := 151) rfl)) rfl
theorem w_im_C_lasts : Cond.instanceMethod ⟨"RustFamily", "lasts", "(II)Z"⟩ ∈ m_tb := m_in (m_t6 (List.mem_of_getElem? (i := 13) rfl)) rfl
theorem w_im_C_less : Cond.instanceMethod ⟨"RustFamily", "less", "(III)I"⟩ ∈ m_tb := m_in (m_t5 (List.mem_of_getElem? (i := 55) rfl)) rfl
theorem w_im_C_live : Cond.instanceMethod ⟨"RustFamily", "live", "(I)I"⟩ ∈ m_tb := m_in (m_t6 (List.mem_of_getElem? (i := 53) rfl)) rfl
theorem w_im_C_lived : Cond.instanceMethod ⟨"RustFamily", "lived", "(I)I"⟩ ∈ m_tb := m_in (m_t6 (List.mem_of_getElem? (i := 106) rfl)) rfl
theorem w_im_C_love : Cond.instanceMethod ⟨"RustFamily", "love", "(II)I"⟩ ∈ m_tb := m_in (m_t4 (List.mem_of_getElem? (i := 125) rfl)) rfl
theorem w_im_C_many : Cond.instanceMethod ⟨"RustFamily", "many", "(I)I"⟩ ∈ m_tb := m_in (m_t4 (List.mem_of_getElem? (i := 54) rfl)) rfl
theorem w_im_C_mark : Cond.instanceMethod ⟨"RustFamily", "mark", "()I"⟩ ∈ m_tb := m_in (m_t6 (List.mem_of_getElem? (i := 124) rfl)) rfl
theorem w_im_C_mean : Cond.instanceMethod ⟨"RustFamily", "mean", "(II)Z"⟩ ∈ m_tb := m_in (m_t6 (List.mem_of_getElem? (i := 110) rfl)) rfl
theorem w_im_C_memberStatus : Cond.instanceMethod ⟨"RustFamily", "memberStatus", "(II)I"⟩ ∈ m_tb := m_in (m_t5 (List.mem_of_getElem? (i := 156) rfl)) rfl
theorem w_im_C_mend : Cond.instanceMethod ⟨"RustFamily", "mend", "(I)I"⟩ ∈ m_tb := m_in (m_t4 (List.mem_of_getElem? (i := 187) rfl)) rfl
theorem w_im_C_moveOf : Cond.instanceMethod ⟨"RustFamily", "moveOf", "(III)I"⟩ ∈ m_tb := m_in (m_t6 (List.mem_of_getElem? (i := 9) rfl)) rfl
theorem w_im_C_oddsStatus : Cond.instanceMethod ⟨"RustFamily", "oddsStatus", "(II)I"⟩ ∈ m_tb := m_in (m_t6 (List.mem_of_getElem? (i := 18) rfl)) rfl
theorem w_im_C_oil : Cond.instanceMethod ⟨"RustFamily", "oil", "(I)I"⟩ ∈ m_tb := m_in (m_t4 (List.mem_of_getElem? (i := 167) rfl)) rfl
theorem w_im_C_orNone : Cond.instanceMethod ⟨"RustFamily", "orNone", "(I)I"⟩ ∈ m_tb := m_in (m_t5 (List.mem_of_getElem? (i := 6) rfl)) rfl
theorem w_im_C_pairStatus : Cond.instanceMethod ⟨"RustFamily", "pairStatus", "(II)I"⟩ ∈ m_tb := m_in (m_t4 (List.mem_of_getElem? (i := 130) rfl)) rfl
theorem w_im_C_person : Cond.instanceMethod ⟨"RustFamily", "person", "(II)I"⟩ ∈ m_tb := m_in (m_t4 (List.mem_of_getElem? (i := 86) rfl)) rfl
theorem w_im_C_placeStatus : Cond.instanceMethod ⟨"RustFamily", "placeStatus", "(II)I"⟩ ∈ m_tb := m_in (m_t3 (List.mem_of_getElem? (i := 0) rfl)) rfl
theorem w_im_C_pour : Cond.instanceMethod ⟨"RustFamily", "pour", "(IIIII)Z"⟩ ∈ m_tb := m_in (m_t3 (List.mem_of_getElem? (i := 24) rfl)) rfl
theorem w_im_C_pourStatus : Cond.instanceMethod ⟨"RustFamily", "pourStatus", "(IIIII)I"⟩ ∈ m_tb := m_in (m_t3 (List.mem_of_getElem? (i := 29) rfl)) rfl
theorem w_im_C_read : Cond.instanceMethod ⟨"RustFamily", "read", "(II)J"⟩ ∈ m_tb := m_in (m_t3 (List.mem_of_getElem? (i := 19) rfl)) rfl
theorem w_im_C_rule : Cond.instanceMethod ⟨"RustFamily", "rule", "(II)Z"⟩ ∈ m_tb := m_in (m_t4 (List.mem_of_getElem? (i := 213) rfl)) rfl
theorem w_im_C_rustIn : Cond.instanceMethod ⟨"RustFamily", "rustIn", "(II)I"⟩ ∈ m_tb := m_in (m_t4 (List.mem_of_getElem? (i := 220) rfl)) rfl
theorem w_im_C_seen : Cond.instanceMethod ⟨"RustFamily", "seen", "(II)I"⟩ ∈ m_tb := m_in (m_t5 (List.mem_of_getElem? (i := 59) rfl)) rfl
theorem w_im_C_seenStatus : Cond.instanceMethod ⟨"RustFamily", "seenStatus", "(II)I"⟩ ∈ m_tb := m_in (m_t5 (List.mem_of_getElem? (i := 64) rfl)) rfl
theorem w_im_C_showsIn : Cond.instanceMethod ⟨"RustFamily", "showsIn", "(I)I"⟩ ∈ m_tb := m_in (m_t5 (List.mem_of_getElem? (i := 17) rfl)) rfl
theorem w_im_C_stable : Cond.instanceMethod ⟨"RustFamily", "stable", "(II)I"⟩ ∈ m_tb := m_in (m_t5 (List.mem_of_getElem? (i := 167) rfl)) rfl
theorem w_im_C_stables : Cond.instanceMethod ⟨"RustFamily", "stables", "(I)I"⟩ ∈ m_tb := m_in (m_t5 (List.mem_of_getElem? (i := 191) rfl)) rfl
theorem w_im_C_status : Cond.instanceMethod ⟨"RustFamily", "status", "()I"⟩ ∈ m_tb := m_in (m_t2 (List.mem_of_getElem? (i := 209) rfl)) rfl
theorem w_im_C_sure : Cond.instanceMethod ⟨"RustFamily", "sure", "(III)I"⟩ ∈ m_tb := m_in (m_t5 (List.mem_of_getElem? (i := 94) rfl)) rfl
theorem w_im_C_tell : Cond.instanceMethod ⟨"RustFamily", "tell", "(JJ)V"⟩ ∈ m_tb := m_in (m_t6 (List.mem_of_getElem? (i := 35) rfl)) rfl
theorem w_im_C_thickFor : Cond.instanceMethod ⟨"RustFamily", "thickFor", "(III)I"⟩ ∈ m_tb := m_in (m_t6 (List.mem_of_getElem? (i := 44) rfl)) rfl
theorem w_im_C_thing : Cond.instanceMethod ⟨"RustFamily", "thing", "(II)I"⟩ ∈ m_tb := m_in (m_t4 (List.mem_of_getElem? (i := 99) rfl)) rfl
theorem w_im_C_throughBy : Cond.instanceMethod ⟨"RustFamily", "throughBy", "(I)I"⟩ ∈ m_tb := m_in (m_t5 (List.mem_of_getElem? (i := 13) rfl)) rfl
theorem w_im_C_throughIn : Cond.instanceMethod ⟨"RustFamily", "throughIn", "(I)I"⟩ ∈ m_tb := m_in (m_t5 (List.mem_of_getElem? (i := 0) rfl)) rfl
theorem w_im_C_top : Cond.instanceMethod ⟨"RustFamily", "top", "()J"⟩ ∈ m_tb := m_in (m_t2 (List.mem_of_getElem? (i := 213) rfl)) rfl
theorem w_im_C_tray : Cond.instanceMethod ⟨"RustFamily", "tray", "(III)Z"⟩ ∈ m_tb := m_in (m_t2 (List.mem_of_getElem? (i := 221) rfl)) rfl
theorem w_im_C_trayStatus : Cond.instanceMethod ⟨"RustFamily", "trayStatus", "(I)I"⟩ ∈ m_tb := m_in (m_t3 (List.mem_of_getElem? (i := 4) rfl)) rfl
theorem w_im_C_wholeStatus : Cond.instanceMethod ⟨"RustFamily", "wholeStatus", "(I)I"⟩ ∈ m_tb := m_in (m_t4 (List.mem_of_getElem? (i := 172) rfl)) rfl
theorem w_im_C_worst : Cond.instanceMethod ⟨"RustFamily", "worst", "(I)I"⟩ ∈ m_tb := m_in (m_t5 (List.mem_of_getElem? (i := 26) rfl)) rfl
theorem w_im_C_write : Cond.instanceMethod ⟨"RustFamily", "write", "(IIJ)Z"⟩ ∈ m_tb := m_in (m_t2 (List.mem_of_getElem? (i := 235) rfl)) rfl
theorem w_im_C_year : Cond.instanceMethod ⟨"RustFamily", "year", "(I)I"⟩ ∈ m_tb := m_in (m_t4 (List.mem_of_getElem? (i := 137) rfl)) rfl
theorem w_im_C_years : Cond.instanceMethod ⟨"RustFamily", "years", "(I)I"⟩ ∈ m_tb := m_in (m_t3 (List.mem_of_getElem? (i := 238) rfl)) rfl
theorem w_im_M_init : Cond.instanceMethod ⟨"RustFamilyModel", "<init>", "()V"⟩ ∈ m_tb := m_in (m_t6 (List.mem_of_getElem? (i := 139) rfl)) rfl
theorem w_im_M_advance : Cond.instanceMethod ⟨"RustFamilyModel", "advance", "()V"⟩ ∈ m_tb := m_in (m_t7 (List.mem_of_getElem? (i := 126) rfl)) rfl
theorem w_im_M_ages : Cond.instanceMethod ⟨"RustFamilyModel", "ages", "()V"⟩ ∈ m_tb := m_in (m_t8 (List.mem_of_getElem? (i := 166) rfl)) rfl
theorem w_im_M_allRust : Cond.instanceMethod ⟨"RustFamilyModel", "allRust", "()I"⟩ ∈ m_tb := m_in (m_t8 (List.mem_of_getElem? (i := 102) rfl)) rfl
theorem w_im_M_amiss : Cond.instanceMethod ⟨"RustFamilyModel", "amiss", "()V"⟩ ∈ m_tb := m_in (m_t7 (List.mem_of_getElem? (i := 176) rfl)) rfl
theorem w_im_M_anyYears : Cond.instanceMethod ⟨"RustFamilyModel", "anyYears", "(I)Z"⟩ ∈ m_tb := m_in (m_t9 (List.mem_of_getElem? (i := 215) rfl)) rfl
theorem w_im_M_arePeople : Cond.instanceMethod ⟨"RustFamilyModel", "arePeople", "(I)Z"⟩ ∈ m_tb := m_in (m_t9 (List.mem_of_getElem? (i := 90) rfl)) rfl
theorem w_im_M_ask : Cond.instanceMethod ⟨"RustFamilyModel", "ask", "(II)I"⟩ ∈ m_tb := m_in (m_t9 (List.mem_of_getElem? (i := 77) rfl)) rfl
theorem w_im_M_asker : Cond.instanceMethod ⟨"RustFamilyModel", "asker", "(I)I"⟩ ∈ m_tb := m_in (m_t9 (List.mem_of_getElem? (i := 114) rfl)) rfl
theorem w_im_M_back : Cond.instanceMethod ⟨"RustFamilyModel", "back", "()I"⟩ ∈ m_tb := m_in (m_t10 (List.mem_of_getElem? (i := 15) rfl)) rfl
theorem w_im_M_becomes : Cond.instanceMethod ⟨"RustFamilyModel", "becomes", "(II)Z"⟩ ∈ m_tb := m_in (m_t9 (List.mem_of_getElem? (i := 219) rfl)) rfl
theorem w_im_M_behindWord : Cond.instanceMethod ⟨"RustFamilyModel", "behindWord", "(ZII)I"⟩ ∈ m_tb := m_in (m_t8 (List.mem_of_getElem? (i := 16) rfl)) rfl
theorem w_im_M_biteOf : Cond.instanceMethod ⟨"RustFamilyModel", "biteOf", "(I)I"⟩ ∈ m_tb := m_in (m_t8 (List.mem_of_getElem? (i := 136) rfl)) rfl
theorem w_im_M_blame : Cond.instanceMethod ⟨"RustFamilyModel", "blame", "(I)Z"⟩ ∈ m_tb := m_in (m_t9 (List.mem_of_getElem? (i := 189) rfl)) rfl
theorem w_im_M_born : Cond.instanceMethod ⟨"RustFamilyModel", "born", "(IZ)I"⟩ ∈ m_tb := m_in (m_t8 (List.mem_of_getElem? (i := 212) rfl)) rfl
theorem w_im_M_bottom : Cond.instanceMethod ⟨"RustFamilyModel", "bottom", "()J"⟩ ∈ m_tb := m_in (m_t7 (List.mem_of_getElem? (i := 69) rfl)) rfl
theorem w_im_M_breathe : Cond.instanceMethod ⟨"RustFamilyModel", "breathe", "(I)I"⟩ ∈ m_tb := m_in (m_t8 (List.mem_of_getElem? (i := 200) rfl)) rfl
theorem w_im_M_breathed : Cond.instanceMethod ⟨"RustFamilyModel", "breathed", "(I)Z"⟩ ∈ m_tb := m_in (m_t8 (List.mem_of_getElem? (i := 205) rfl)) rfl
theorem w_im_M_canKeep : Cond.instanceMethod ⟨"RustFamilyModel", "canKeep", "(I)Z"⟩ ∈ m_tb := m_in (m_t9 (List.mem_of_getElem? (i := 94) rfl)) rfl
theorem w_im_M_coat : Cond.instanceMethod ⟨"RustFamilyModel", "coat", "(II)I"⟩ ∈ m_tb := m_in (m_t8 (List.mem_of_getElem? (i := 183) rfl)) rfl
theorem w_im_M_coats : Cond.instanceMethod ⟨"RustFamilyModel", "coats", "(II)I"⟩ ∈ m_tb := m_in (m_t8 (List.mem_of_getElem? (i := 189) rfl)) rfl
theorem w_im_M_copy : Cond.instanceMethod ⟨"RustFamilyModel", "copy", "(II)V"⟩ ∈ m_tb := m_in (m_t8 (List.mem_of_getElem? (i := 49) rfl)) rfl
theorem w_im_M_copyRust : Cond.instanceMethod ⟨"RustFamilyModel", "copyRust", "(I)I"⟩ ∈ m_tb := m_in (m_t8 (List.mem_of_getElem? (i := 146) rfl)) rfl
theorem w_im_M_count : Cond.instanceMethod ⟨"RustFamilyModel", "count", "(II)I"⟩ ∈ m_tb := m_in (m_t7 (List.mem_of_getElem? (i := 172) rfl)) rfl
theorem w_im_M_diesIn : Cond.instanceMethod ⟨"RustFamilyModel", "diesIn", "(I)I"⟩ ∈ m_tb := m_in (m_t9 (List.mem_of_getElem? (i := 20) rfl)) rfl
theorem w_im_M_doAll : Cond.instanceMethod ⟨"RustFamilyModel", "doAll", "(II)V"⟩ ∈ m_tb := m_in (m_t9 (List.mem_of_getElem? (i := 203) rfl)) rfl
theorem w_im_M_doOne : Cond.instanceMethod ⟨"RustFamilyModel", "doOne", "(I)V"⟩ ∈ m_tb := m_in (m_t9 (List.mem_of_getElem? (i := 207) rfl)) rfl
theorem w_im_M_does : Cond.instanceMethod ⟨"RustFamilyModel", "does", "(I)Z"⟩ ∈ m_tb := m_in (m_t9 (List.mem_of_getElem? (i := 211) rfl)) rfl
theorem w_im_M_dote : Cond.instanceMethod ⟨"RustFamilyModel", "dote", "(III)I"⟩ ∈ m_tb := m_in (m_t8 (List.mem_of_getElem? (i := 174) rfl)) rfl
theorem w_im_M_draw : Cond.instanceMethod ⟨"RustFamilyModel", "draw", "(I)I"⟩ ∈ m_tb := m_in (m_t9 (List.mem_of_getElem? (i := 227) rfl)) rfl
theorem w_im_M_empties : Cond.instanceMethod ⟨"RustFamilyModel", "empties", "(I)V"⟩ ∈ m_tb := m_in (m_t6 (List.mem_of_getElem? (i := 144) rfl)) rfl
theorem w_im_M_fail : Cond.instanceMethod ⟨"RustFamilyModel", "fail", "(II)V"⟩ ∈ m_tb := m_in (m_t7 (List.mem_of_getElem? (i := 168) rfl)) rfl
theorem w_im_M_family : Cond.instanceMethod ⟨"RustFamilyModel", "family", "(I)I"⟩ ∈ m_tb := m_in (m_t7 (List.mem_of_getElem? (i := 117) rfl)) rfl
theorem w_im_M_fault : Cond.instanceMethod ⟨"RustFamilyModel", "fault", "(I)I"⟩ ∈ m_tb := m_in (m_t7 (List.mem_of_getElem? (i := 113) rfl)) rfl
theorem w_im_M_feed : Cond.instanceMethod ⟨"RustFamilyModel", "feed", "(IIIII)I"⟩ ∈ m_tb := m_in (m_t7 (List.mem_of_getElem? (i := 105) rfl)) rfl
theorem w_im_M_firstThrough : Cond.instanceMethod ⟨"RustFamilyModel", "firstThrough", "()I"⟩ ∈ m_tb := m_in (m_t9 (List.mem_of_getElem? (i := 8) rfl)) rfl
theorem w_im_M_forge : Cond.instanceMethod ⟨"RustFamilyModel", "forge", "(I)I"⟩ ∈ m_tb := m_in (m_t8 (List.mem_of_getElem? (i := 208) rfl)) rfl
theorem w_im_M_fraction : Cond.instanceMethod ⟨"RustFamilyModel", "fraction", "(JJ)Z"⟩ ∈ m_tb := m_in (m_t9 (List.mem_of_getElem? (i := 179) rfl)) rfl
theorem w_im_M_game : Cond.instanceMethod ⟨"RustFamilyModel", "game", "(III)I"⟩ ∈ m_tb := m_in (m_t9 (List.mem_of_getElem? (i := 137) rfl)) rfl
theorem w_im_M_gives : Cond.instanceMethod ⟨"RustFamilyModel", "gives", "()V"⟩ ∈ m_tb := m_in (m_t8 (List.mem_of_getElem? (i := 237) rfl)) rfl
theorem w_im_M_goesYear : Cond.instanceMethod ⟨"RustFamilyModel", "goesYear", "()V"⟩ ∈ m_tb := m_in (m_t8 (List.mem_of_getElem? (i := 162) rfl)) rfl
theorem w_im_M_isAge : Cond.instanceMethod ⟨"RustFamilyModel", "isAge", "()Z"⟩ ∈ m_tb := m_in (m_t7 (List.mem_of_getElem? (i := 215) rfl)) rfl
theorem w_im_M_isAny : Cond.instanceMethod ⟨"RustFamilyModel", "isAny", "()Z"⟩ ∈ m_tb := m_in (m_t9 (List.mem_of_getElem? (i := 223) rfl)) rfl
theorem w_im_M_isBitten : Cond.instanceMethod ⟨"RustFamilyModel", "isBitten", "(II)V"⟩ ∈ m_tb := m_in (m_t8 (List.mem_of_getElem? (i := 170) rfl)) rfl
theorem w_im_M_isBreath : Cond.instanceMethod ⟨"RustFamilyModel", "isBreath", "()Z"⟩ ∈ m_tb := m_in (m_t7 (List.mem_of_getElem? (i := 191) rfl)) rfl
theorem w_im_M_isBreathed : Cond.instanceMethod ⟨"RustFamilyModel", "isBreathed", "(I)Z"⟩ ∈ m_tb := m_in (m_t9 (List.mem_of_getElem? (i := 232) rfl)) rfl
theorem w_im_M_isCoat : Cond.instanceMethod ⟨"RustFamilyModel", "isCoat", "()Z"⟩ ∈ m_tb := m_in (m_t7 (List.mem_of_getElem? (i := 239) rfl)) rfl
theorem w_im_M_isDamp : Cond.instanceMethod ⟨"RustFamilyModel", "isDamp", "()Z"⟩ ∈ m_tb := m_in (m_t7 (List.mem_of_getElem? (i := 187) rfl)) rfl
theorem w_im_M_isEnd : Cond.instanceMethod ⟨"RustFamilyModel", "isEnd", "()Z"⟩ ∈ m_tb := m_in (m_t8 (List.mem_of_getElem? (i := 8) rfl)) rfl
theorem w_im_M_isKept : Cond.instanceMethod ⟨"RustFamilyModel", "isKept", "()Z"⟩ ∈ m_tb := m_in (m_t7 (List.mem_of_getElem? (i := 211) rfl)) rfl
theorem w_im_M_isLife : Cond.instanceMethod ⟨"RustFamilyModel", "isLife", "()Z"⟩ ∈ m_tb := m_in (m_t7 (List.mem_of_getElem? (i := 183) rfl)) rfl
theorem w_im_M_isLoves : Cond.instanceMethod ⟨"RustFamilyModel", "isLoves", "()Z"⟩ ∈ m_tb := m_in (m_t7 (List.mem_of_getElem? (i := 235) rfl)) rfl
theorem w_im_M_isName : Cond.instanceMethod ⟨"RustFamilyModel", "isName", "()Z"⟩ ∈ m_tb := m_in (m_t7 (List.mem_of_getElem? (i := 207) rfl)) rfl
theorem w_im_M_isOf : Cond.instanceMethod ⟨"RustFamilyModel", "isOf", "()Z"⟩ ∈ m_tb := m_in (m_t7 (List.mem_of_getElem? (i := 219) rfl)) rfl
theorem w_im_M_isPerson : Cond.instanceMethod ⟨"RustFamilyModel", "isPerson", "()Z"⟩ ∈ m_tb := m_in (m_t7 (List.mem_of_getElem? (i := 195) rfl)) rfl
theorem w_im_M_isPersonAt : Cond.instanceMethod ⟨"RustFamilyModel", "isPersonAt", "(I)Z"⟩ ∈ m_tb := m_in (m_t8 (List.mem_of_getElem? (i := 110) rfl)) rfl
theorem w_im_M_isSeen : Cond.instanceMethod ⟨"RustFamilyModel", "isSeen", "(III)Z"⟩ ∈ m_tb := m_in (m_t9 (List.mem_of_getElem? (i := 70) rfl)) rfl
theorem w_im_M_isShows : Cond.instanceMethod ⟨"RustFamilyModel", "isShows", "()Z"⟩ ∈ m_tb := m_in (m_t7 (List.mem_of_getElem? (i := 150) rfl)) rfl
theorem w_im_M_isSign : Cond.instanceMethod ⟨"RustFamilyModel", "isSign", "(I)Z"⟩ ∈ m_tb := m_in (m_t8 (List.mem_of_getElem? (i := 41) rfl)) rfl
theorem w_im_M_isSignByte : Cond.instanceMethod ⟨"RustFamilyModel", "isSignByte", "(I)Z"⟩ ∈ m_tb := m_in (m_t7 (List.mem_of_getElem? (i := 142) rfl)) rfl
theorem w_im_M_isSo : Cond.instanceMethod ⟨"RustFamilyModel", "isSo", "(I)Z"⟩ ∈ m_tb := m_in (m_t10 (List.mem_of_getElem? (i := 0) rfl)) rfl
theorem w_im_M_isStable : Cond.instanceMethod ⟨"RustFamilyModel", "isStable", "(I)Z"⟩ ∈ m_tb := m_in (m_t9 (List.mem_of_getElem? (i := 130) rfl)) rfl
theorem w_im_M_isThick : Cond.instanceMethod ⟨"RustFamilyModel", "isThick", "()Z"⟩ ∈ m_tb := m_in (m_t7 (List.mem_of_getElem? (i := 227) rfl)) rfl
theorem w_im_M_isThing : Cond.instanceMethod ⟨"RustFamilyModel", "isThing", "()Z"⟩ ∈ m_tb := m_in (m_t7 (List.mem_of_getElem? (i := 223) rfl)) rfl
theorem w_im_M_isThingAt : Cond.instanceMethod ⟨"RustFamilyModel", "isThingAt", "(I)Z"⟩ ∈ m_tb := m_in (m_t8 (List.mem_of_getElem? (i := 127) rfl)) rfl
theorem w_im_M_isThrough : Cond.instanceMethod ⟨"RustFamilyModel", "isThrough", "(I)Z"⟩ ∈ m_tb := m_in (m_t8 (List.mem_of_getElem? (i := 94) rfl)) rfl
theorem w_im_M_isTray : Cond.instanceMethod ⟨"RustFamilyModel", "isTray", "(I)Z"⟩ ∈ m_tb := m_in (m_t8 (List.mem_of_getElem? (i := 151) rfl)) rfl
theorem w_im_M_isWell : Cond.instanceMethod ⟨"RustFamilyModel", "isWell", "()Z"⟩ ∈ m_tb := m_in (m_t8 (List.mem_of_getElem? (i := 45) rfl)) rfl
theorem w_im_M_isWord : Cond.instanceMethod ⟨"RustFamilyModel", "isWord", "(J)Z"⟩ ∈ m_tb := m_in (m_t7 (List.mem_of_getElem? (i := 157) rfl)) rfl
theorem w_im_M_jars : Cond.instanceMethod ⟨"RustFamilyModel", "jars", "(II)I"⟩ ∈ m_tb := m_in (m_t9 (List.mem_of_getElem? (i := 29) rfl)) rfl
theorem w_im_M_jarsFor : Cond.instanceMethod ⟨"RustFamilyModel", "jarsFor", "(II)I"⟩ ∈ m_tb := m_in (m_t9 (List.mem_of_getElem? (i := 44) rfl)) rfl
theorem w_im_M_jarsOf : Cond.instanceMethod ⟨"RustFamilyModel", "jarsOf", "(II)I"⟩ ∈ m_tb := m_in (m_t9 (List.mem_of_getElem? (i := 34) rfl)) rfl
theorem w_im_M_keeping : Cond.instanceMethod ⟨"RustFamilyModel", "keeping", "(I)I"⟩ ∈ m_tb := m_in (m_t9 (List.mem_of_getElem? (i := 85) rfl)) rfl
theorem w_im_M_keepings : Cond.instanceMethod ⟨"RustFamilyModel", "keepings", "(IIII)V"⟩ ∈ m_tb := m_in (m_t9 (List.mem_of_getElem? (i := 98) rfl)) rfl
theorem w_im_M_keeps : Cond.instanceMethod ⟨"RustFamilyModel", "keeps", "(II)I"⟩ ∈ m_tb := m_in (m_t9 (List.mem_of_getElem? (i := 101) rfl)) rfl
theorem w_im_M_lasts : Cond.instanceMethod ⟨"RustFamilyModel", "lasts", "(II)Z"⟩ ∈ m_tb := m_in (m_t9 (List.mem_of_getElem? (i := 165) rfl)) rfl
theorem w_im_M_lastsBy : Cond.instanceMethod ⟨"RustFamilyModel", "lastsBy", "(III)Z"⟩ ∈ m_tb := m_in (m_t9 (List.mem_of_getElem? (i := 41) rfl)) rfl
theorem w_im_M_lastsIf : Cond.instanceMethod ⟨"RustFamilyModel", "lastsIf", "(II)J"⟩ ∈ m_tb := m_in (m_t9 (List.mem_of_getElem? (i := 175) rfl)) rfl
theorem w_im_M_lay : Cond.instanceMethod ⟨"RustFamilyModel", "lay", "(I)V"⟩ ∈ m_tb := m_in (m_t7 (List.mem_of_getElem? (i := 110) rfl)) rfl
theorem w_im_M_laysBites : Cond.instanceMethod ⟨"RustFamilyModel", "laysBites", "(II)V"⟩ ∈ m_tb := m_in (m_t9 (List.mem_of_getElem? (i := 170) rfl)) rfl
theorem w_im_M_laysSeen : Cond.instanceMethod ⟨"RustFamilyModel", "laysSeen", "(II)V"⟩ ∈ m_tb := m_in (m_t9 (List.mem_of_getElem? (i := 66) rfl)) rfl
theorem w_im_M_laysStable : Cond.instanceMethod ⟨"RustFamilyModel", "laysStable", "(I)V"⟩ ∈ m_tb := m_in (m_t9 (List.mem_of_getElem? (i := 110) rfl)) rfl
theorem w_im_M_laysTurn : Cond.instanceMethod ⟨"RustFamilyModel", "laysTurn", "(I)V"⟩ ∈ m_tb := m_in (m_t9 (List.mem_of_getElem? (i := 150) rfl)) rfl
theorem w_im_M_less : Cond.instanceMethod ⟨"RustFamilyModel", "less", "(III)I"⟩ ∈ m_tb := m_in (m_t9 (List.mem_of_getElem? (i := 48) rfl)) rfl
theorem w_im_M_live : Cond.instanceMethod ⟨"RustFamilyModel", "live", "(I)I"⟩ ∈ m_tb := m_in (m_t9 (List.mem_of_getElem? (i := 193) rfl)) rfl
theorem w_im_M_lived : Cond.instanceMethod ⟨"RustFamilyModel", "lived", "(I)I"⟩ ∈ m_tb := m_in (m_t10 (List.mem_of_getElem? (i := 3) rfl)) rfl
theorem w_im_M_living : Cond.instanceMethod ⟨"RustFamilyModel", "living", "()I"⟩ ∈ m_tb := m_in (m_t8 (List.mem_of_getElem? (i := 78) rfl)) rfl
theorem w_im_M_look2 : Cond.instanceMethod ⟨"RustFamilyModel", "look2", "(I)I"⟩ ∈ m_tb := m_in (m_t7 (List.mem_of_getElem? (i := 130) rfl)) rfl
theorem w_im_M_love : Cond.instanceMethod ⟨"RustFamilyModel", "love", "(II)I"⟩ ∈ m_tb := m_in (m_t8 (List.mem_of_getElem? (i := 142) rfl)) rfl
theorem w_im_M_loveOf : Cond.instanceMethod ⟨"RustFamilyModel", "loveOf", "(II)I"⟩ ∈ m_tb := m_in (m_t8 (List.mem_of_getElem? (i := 119) rfl)) rfl
theorem w_im_M_lovedOf : Cond.instanceMethod ⟨"RustFamilyModel", "lovedOf", "(I)I"⟩ ∈ m_tb := m_in (m_t8 (List.mem_of_getElem? (i := 132) rfl)) rfl
theorem w_im_M_lovedThings : Cond.instanceMethod ⟨"RustFamilyModel", "lovedThings", "(I)I"⟩ ∈ m_tb := m_in (m_t8 (List.mem_of_getElem? (i := 115) rfl)) rfl
theorem w_im_M_many : Cond.instanceMethod ⟨"RustFamilyModel", "many", "(I)I"⟩ ∈ m_tb := m_in (m_t8 (List.mem_of_getElem? (i := 68) rfl)) rfl
theorem w_im_M_mark : Cond.instanceMethod ⟨"RustFamilyModel", "mark", "()I"⟩ ∈ m_tb := m_in (m_t10 (List.mem_of_getElem? (i := 11) rfl)) rfl
theorem w_im_M_mean : Cond.instanceMethod ⟨"RustFamilyModel", "mean", "(II)Z"⟩ ∈ m_tb := m_in (m_t10 (List.mem_of_getElem? (i := 7) rfl)) rfl
theorem w_im_M_mend : Cond.instanceMethod ⟨"RustFamilyModel", "mend", "(I)I"⟩ ∈ m_tb := m_in (m_t8 (List.mem_of_getElem? (i := 192) rfl)) rfl
theorem w_im_M_mends : Cond.instanceMethod ⟨"RustFamilyModel", "mends", "(I)I"⟩ ∈ m_tb := m_in (m_t8 (List.mem_of_getElem? (i := 197) rfl)) rfl
theorem w_im_M_moveOf : Cond.instanceMethod ⟨"RustFamilyModel", "moveOf", "(III)I"⟩ ∈ m_tb := m_in (m_t9 (List.mem_of_getElem? (i := 161) rfl)) rfl
theorem w_im_M_moves : Cond.instanceMethod ⟨"RustFamilyModel", "moves", "(III)Z"⟩ ∈ m_tb := m_in (m_t9 (List.mem_of_getElem? (i := 154) rfl)) rfl
theorem w_im_M_must : Cond.instanceMethod ⟨"RustFamilyModel", "must", "(Z)V"⟩ ∈ m_tb := m_in (m_t8 (List.mem_of_getElem? (i := 20) rfl)) rfl
theorem w_im_M_named : Cond.instanceMethod ⟨"RustFamilyModel", "named", "(II)I"⟩ ∈ m_tb := m_in (m_t8 (List.mem_of_getElem? (i := 12) rfl)) rfl
theorem w_im_M_nextAsked : Cond.instanceMethod ⟨"RustFamilyModel", "nextAsked", "(I)I"⟩ ∈ m_tb := m_in (m_t9 (List.mem_of_getElem? (i := 118) rfl)) rfl
theorem w_im_M_no : Cond.instanceMethod ⟨"RustFamilyModel", "no", "(I)Z"⟩ ∈ m_tb := m_in (m_t7 (List.mem_of_getElem? (i := 78) rfl)) rfl
theorem w_im_M_numberOf : Cond.instanceMethod ⟨"RustFamilyModel", "numberOf", "(II)J"⟩ ∈ m_tb := m_in (m_t9 (List.mem_of_getElem? (i := 62) rfl)) rfl
theorem w_im_M_oil : Cond.instanceMethod ⟨"RustFamilyModel", "oil", "(I)I"⟩ ∈ m_tb := m_in (m_t8 (List.mem_of_getElem? (i := 179) rfl)) rfl
theorem w_im_M_oiled : Cond.instanceMethod ⟨"RustFamilyModel", "oiled", "()I"⟩ ∈ m_tb := m_in (m_t8 (List.mem_of_getElem? (i := 98) rfl)) rfl
theorem w_im_M_onThing : Cond.instanceMethod ⟨"RustFamilyModel", "onThing", "(III)Z"⟩ ∈ m_tb := m_in (m_t9 (List.mem_of_getElem? (i := 236) rfl)) rfl
theorem w_im_M_perhaps : Cond.instanceMethod ⟨"RustFamilyModel", "perhaps", "(Z)Z"⟩ ∈ m_tb := m_in (m_t8 (List.mem_of_getElem? (i := 24) rfl)) rfl
theorem w_im_M_person : Cond.instanceMethod ⟨"RustFamilyModel", "person", "(II)I"⟩ ∈ m_tb := m_in (m_t8 (List.mem_of_getElem? (i := 105) rfl)) rfl
theorem w_im_M_placed : Cond.instanceMethod ⟨"RustFamilyModel", "placed", "(II)I"⟩ ∈ m_tb := m_in (m_t7 (List.mem_of_getElem? (i := 86) rfl)) rfl
theorem w_im_M_plays : Cond.instanceMethod ⟨"RustFamilyModel", "plays", "(IIII)I"⟩ ∈ m_tb := m_in (m_t9 (List.mem_of_getElem? (i := 146) rfl)) rfl
theorem w_im_M_pour : Cond.instanceMethod ⟨"RustFamilyModel", "pour", "(IIIII)Z"⟩ ∈ m_tb := m_in (m_t7 (List.mem_of_getElem? (i := 101) rfl)) rfl
theorem w_im_M_puts : Cond.instanceMethod ⟨"RustFamilyModel", "puts", "()V"⟩ ∈ m_tb := m_in (m_t8 (List.mem_of_getElem? (i := 233) rfl)) rfl
theorem w_im_M_read : Cond.instanceMethod ⟨"RustFamilyModel", "read", "(II)J"⟩ ∈ m_tb := m_in (m_t7 (List.mem_of_getElem? (i := 96) rfl)) rfl
theorem w_im_M_readLoves : Cond.instanceMethod ⟨"RustFamilyModel", "readLoves", "()V"⟩ ∈ m_tb := m_in (m_t8 (List.mem_of_getElem? (i := 32) rfl)) rfl
theorem w_im_M_readNew : Cond.instanceMethod ⟨"RustFamilyModel", "readNew", "(II)I"⟩ ∈ m_tb := m_in (m_t7 (List.mem_of_getElem? (i := 203) rfl)) rfl
theorem w_im_M_readOnce : Cond.instanceMethod ⟨"RustFamilyModel", "readOnce", "(III)V"⟩ ∈ m_tb := m_in (m_t7 (List.mem_of_getElem? (i := 161) rfl)) rfl
theorem w_im_M_readPart : Cond.instanceMethod ⟨"RustFamilyModel", "readPart", "()V"⟩ ∈ m_tb := m_in (m_t7 (List.mem_of_getElem? (i := 146) rfl)) rfl
theorem w_im_M_readPerson : Cond.instanceMethod ⟨"RustFamilyModel", "readPerson", "()V"⟩ ∈ m_tb := m_in (m_t7 (List.mem_of_getElem? (i := 199) rfl)) rfl
theorem w_im_M_readRest : Cond.instanceMethod ⟨"RustFamilyModel", "readRest", "(I)V"⟩ ∈ m_tb := m_in (m_t8 (List.mem_of_getElem? (i := 61) rfl)) rfl
theorem w_im_M_readStep : Cond.instanceMethod ⟨"RustFamilyModel", "readStep", "(I)V"⟩ ∈ m_tb := m_in (m_t8 (List.mem_of_getElem? (i := 57) rfl)) rfl
theorem w_im_M_readTest : Cond.instanceMethod ⟨"RustFamilyModel", "readTest", "(I)V"⟩ ∈ m_tb := m_in (m_t8 (List.mem_of_getElem? (i := 65) rfl)) rfl
theorem w_im_M_readThing : Cond.instanceMethod ⟨"RustFamilyModel", "readThing", "()V"⟩ ∈ m_tb := m_in (m_t8 (List.mem_of_getElem? (i := 28) rfl)) rfl
theorem w_im_M_readTold : Cond.instanceMethod ⟨"RustFamilyModel", "readTold", "(II)I"⟩ ∈ m_tb := m_in (m_t8 (List.mem_of_getElem? (i := 36) rfl)) rfl
theorem w_im_M_refuse : Cond.instanceMethod ⟨"RustFamilyModel", "refuse", "(I)I"⟩ ∈ m_tb := m_in (m_t8 (List.mem_of_getElem? (i := 74) rfl)) rfl
theorem w_im_M_rule : Cond.instanceMethod ⟨"RustFamilyModel", "rule", "(II)Z"⟩ ∈ m_tb := m_in (m_t8 (List.mem_of_getElem? (i := 217) rfl)) rfl
theorem w_im_M_runsYears : Cond.instanceMethod ⟨"RustFamilyModel", "runsYears", "(I)V"⟩ ∈ m_tb := m_in (m_t9 (List.mem_of_getElem? (i := 199) rfl)) rfl
theorem w_im_M_rustIn : Cond.instanceMethod ⟨"RustFamilyModel", "rustIn", "(II)I"⟩ ∈ m_tb := m_in (m_t8 (List.mem_of_getElem? (i := 224) rfl)) rfl
theorem w_im_M_seen : Cond.instanceMethod ⟨"RustFamilyModel", "seen", "(II)I"⟩ ∈ m_tb := m_in (m_t9 (List.mem_of_getElem? (i := 52) rfl)) rfl
theorem w_im_M_showing : Cond.instanceMethod ⟨"RustFamilyModel", "showing", "()I"⟩ ∈ m_tb := m_in (m_t8 (List.mem_of_getElem? (i := 82) rfl)) rfl
theorem w_im_M_showsIn : Cond.instanceMethod ⟨"RustFamilyModel", "showsIn", "(I)I"⟩ ∈ m_tb := m_in (m_t9 (List.mem_of_getElem? (i := 16) rfl)) rfl
theorem w_im_M_showsNow : Cond.instanceMethod ⟨"RustFamilyModel", "showsNow", "(I)Z"⟩ ∈ m_tb := m_in (m_t8 (List.mem_of_getElem? (i := 86) rfl)) rfl
theorem w_im_M_stable : Cond.instanceMethod ⟨"RustFamilyModel", "stable", "(II)I"⟩ ∈ m_tb := m_in (m_t9 (List.mem_of_getElem? (i := 105) rfl)) rfl
theorem w_im_M_stables : Cond.instanceMethod ⟨"RustFamilyModel", "stables", "(I)I"⟩ ∈ m_tb := m_in (m_t9 (List.mem_of_getElem? (i := 121) rfl)) rfl
theorem w_im_M_stablesOf : Cond.instanceMethod ⟨"RustFamilyModel", "stablesOf", "(III)I"⟩ ∈ m_tb := m_in (m_t9 (List.mem_of_getElem? (i := 126) rfl)) rfl
theorem w_im_M_starts : Cond.instanceMethod ⟨"RustFamilyModel", "starts", "(II)Z"⟩ ∈ m_tb := m_in (m_t7 (List.mem_of_getElem? (i := 122) rfl)) rfl
theorem w_im_M_status : Cond.instanceMethod ⟨"RustFamilyModel", "status", "()I"⟩ ∈ m_tb := m_in (m_t7 (List.mem_of_getElem? (i := 61) rfl)) rfl
theorem w_im_M_stepWord : Cond.instanceMethod ⟨"RustFamilyModel", "stepWord", "()I"⟩ ∈ m_tb := m_in (m_t7 (List.mem_of_getElem? (i := 231) rfl)) rfl
theorem w_im_M_sure : Cond.instanceMethod ⟨"RustFamilyModel", "sure", "(III)I"⟩ ∈ m_tb := m_in (m_t9 (List.mem_of_getElem? (i := 73) rfl)) rfl
theorem w_im_M_takesTurn : Cond.instanceMethod ⟨"RustFamilyModel", "takesTurn", "(I)V"⟩ ∈ m_tb := m_in (m_t9 (List.mem_of_getElem? (i := 158) rfl)) rfl
theorem w_im_M_testWord : Cond.instanceMethod ⟨"RustFamilyModel", "testWord", "()I"⟩ ∈ m_tb := m_in (m_t8 (List.mem_of_getElem? (i := 3) rfl)) rfl
theorem w_im_M_thickFor : Cond.instanceMethod ⟨"RustFamilyModel", "thickFor", "(III)I"⟩ ∈ m_tb := m_in (m_t9 (List.mem_of_getElem? (i := 185) rfl)) rfl
theorem w_im_M_thing : Cond.instanceMethod ⟨"RustFamilyModel", "thing", "(II)I"⟩ ∈ m_tb := m_in (m_t8 (List.mem_of_getElem? (i := 122) rfl)) rfl
theorem w_im_M_throughBy : Cond.instanceMethod ⟨"RustFamilyModel", "throughBy", "(I)I"⟩ ∈ m_tb := m_in (m_t9 (List.mem_of_getElem? (i := 12) rfl)) rfl
theorem w_im_M_throughIn : Cond.instanceMethod ⟨"RustFamilyModel", "throughIn", "(I)I"⟩ ∈ m_tb := m_in (m_t9 (List.mem_of_getElem? (i := 0) rfl)) rfl
theorem w_im_M_throughOf : Cond.instanceMethod ⟨"RustFamilyModel", "throughOf", "(I)I"⟩ ∈ m_tb := m_in (m_t9 (List.mem_of_getElem? (i := 5) rfl)) rfl
theorem w_im_M_throughs : Cond.instanceMethod ⟨"RustFamilyModel", "throughs", "()I"⟩ ∈ m_tb := m_in (m_t8 (List.mem_of_getElem? (i := 90) rfl)) rfl
theorem w_im_M_top : Cond.instanceMethod ⟨"RustFamilyModel", "top", "()J"⟩ ∈ m_tb := m_in (m_t7 (List.mem_of_getElem? (i := 65) rfl)) rfl
theorem w_im_M_tray : Cond.instanceMethod ⟨"RustFamilyModel", "tray", "(III)Z"⟩ ∈ m_tb := m_in (m_t7 (List.mem_of_getElem? (i := 73) rfl)) rfl
theorem w_im_M_trayed : Cond.instanceMethod ⟨"RustFamilyModel", "trayed", "(I)I"⟩ ∈ m_tb := m_in (m_t7 (List.mem_of_getElem? (i := 90) rfl)) rfl
theorem w_im_M_unlike : Cond.instanceMethod ⟨"RustFamilyModel", "unlike", "(I)I"⟩ ∈ m_tb := m_in (m_t9 (List.mem_of_getElem? (i := 82) rfl)) rfl
theorem w_im_M_whyNoGame : Cond.instanceMethod ⟨"RustFamilyModel", "whyNoGame", "(IIII)I"⟩ ∈ m_tb := m_in (m_t9 (List.mem_of_getElem? (i := 142) rfl)) rfl
theorem w_im_M_whyNotSeen : Cond.instanceMethod ⟨"RustFamilyModel", "whyNotSeen", "(II)I"⟩ ∈ m_tb := m_in (m_t9 (List.mem_of_getElem? (i := 57) rfl)) rfl
theorem w_im_M_worst : Cond.instanceMethod ⟨"RustFamilyModel", "worst", "(I)I"⟩ ∈ m_tb := m_in (m_t9 (List.mem_of_getElem? (i := 24) rfl)) rfl
theorem w_im_M_wouldTake : Cond.instanceMethod ⟨"RustFamilyModel", "wouldTake", "(III)Z"⟩ ∈ m_tb := m_in (m_t9 (List.mem_of_getElem? (i := 134) rfl)) rfl
theorem w_im_M_write : Cond.instanceMethod ⟨"RustFamilyModel", "write", "(IIJ)Z"⟩ ∈ m_tb := m_in (m_t7 (List.mem_of_getElem? (i := 81) rfl)) rfl
theorem w_im_M_year : Cond.instanceMethod ⟨"RustFamilyModel", "year", "(I)I"⟩ ∈ m_tb := m_in (m_t8 (List.mem_of_getElem? (i := 156) rfl)) rfl
theorem w_im_M_years : Cond.instanceMethod ⟨"RustFamilyModel", "years", "(I)I"⟩ ∈ m_tb := m_in (m_t8 (List.mem_of_getElem? (i := 52) rfl)) rfl
theorem w_im_java_lang_Object__init_ : Cond.instanceMethod ⟨"java/lang/Object", "<init>", "()V"⟩ ∈ m_tb := m_in (m_t1 (List.mem_of_getElem? (i := 28) rfl)) rfl
theorem w_is_Ah : Cond.instantiable "RustFamily$Ahead" 5 ∈ m_tb := m_in (m_t2 (List.mem_of_getElem? (i := 73) rfl)) rfl
theorem w_is_Fa : Cond.instantiable "RustFamily$Family" 10 ∈ m_tb := m_in (m_t1 (List.mem_of_getElem? (i := 103) rfl)) rfl
theorem w_is_Ga : Cond.instantiable "RustFamily$Game" 3 ∈ m_tb := m_in (m_t2 (List.mem_of_getElem? (i := 141) rfl)) rfl
theorem w_is_Ke : Cond.instantiable "RustFamily$Keepers" 6 ∈ m_tb := m_in (m_t2 (List.mem_of_getElem? (i := 115) rfl)) rfl
theorem w_is_Pe : Cond.instantiable "RustFamily$Person" 5 ∈ m_tb := m_in (m_t1 (List.mem_of_getElem? (i := 110) rfl)) rfl
theorem w_is_Pl : Cond.instantiable "RustFamily$Plan" 14 ∈ m_tb := m_in (m_t1 (List.mem_of_getElem? (i := 184) rfl)) rfl
theorem w_is_Si : Cond.instantiable "RustFamily$Sight" 3 ∈ m_tb := m_in (m_t2 (List.mem_of_getElem? (i := 98) rfl)) rfl
theorem w_is_Tx : Cond.instantiable "RustFamily$Text" 12 ∈ m_tb := m_in (m_t1 (List.mem_of_getElem? (i := 52) rfl)) rfl
theorem w_is_Th : Cond.instantiable "RustFamily$Thing" 5 ∈ m_tb := m_in (m_t1 (List.mem_of_getElem? (i := 147) rfl)) rfl
theorem w_is_Tr : Cond.instantiable "RustFamily$Tray" 3 ∈ m_tb := m_in (m_t1 (List.mem_of_getElem? (i := 32) rfl)) rfl
theorem w_is_C : Cond.instantiable "RustFamily" 16 ∈ m_tb := m_in (m_t1 (List.mem_of_getElem? (i := 23) rfl)) rfl
theorem w_is_M : Cond.instantiable "RustFamilyModel" 51 ∈ m_tb := m_in (m_t6 (List.mem_of_getElem? (i := 137) rfl)) rfl
theorem w_ml_Ah_103 : Cond.methodLink "RustFamily$Ahead" 103 ⟨"java/lang/Math", "min", "(II)I"⟩ ∈ m_tb := m_in (m_t6 (List.mem_of_getElem? (i := 32) rfl)) rfl
theorem w_ml_Ah_3 : Cond.methodLink "RustFamily$Ahead" 3 ⟨"java/lang/Object", "<init>", "()V"⟩ ∈ m_tb := m_in (m_t2 (List.mem_of_getElem? (i := 77) rfl)) rfl
theorem w_ml_Ah_31 : Cond.methodLink "RustFamily$Ahead" 31 ⟨"RustFamily$Thing", "copyFrom", "(LRustFamily$Thing;)V"⟩ ∈ m_tb := m_in (m_t4 (List.mem_of_getElem? (i := 231) rfl)) rfl
theorem w_ml_Ah_35 : Cond.methodLink "RustFamily$Ahead" 35 ⟨"RustFamily$Thing", "isThrough", "()Z"⟩ ∈ m_tb := m_in (m_t4 (List.mem_of_getElem? (i := 235) rfl)) rfl
theorem w_ml_Ah_39 : Cond.methodLink "RustFamily$Ahead" 39 ⟨"RustFamily$Family", "showingSet", "(I)I"⟩ ∈ m_tb := m_in (m_t4 (List.mem_of_getElem? (i := 236) rfl)) rfl
theorem w_ml_Ah_43 : Cond.methodLink "RustFamily$Ahead" 43 ⟨"RustFamily$Family", "lovedBy", "(II)I"⟩ ∈ m_tb := m_in (m_t4 (List.mem_of_getElem? (i := 237) rfl)) rfl
theorem w_ml_Ah_51 : Cond.methodLink "RustFamily$Ahead" 51 ⟨"RustFamily$Thing", "passYear", "(II)V"⟩ ∈ m_tb := m_in (m_t4 (List.mem_of_getElem? (i := 238) rfl)) rfl
theorem w_ml_Ah_55 : Cond.methodLink "RustFamily$Ahead" 55 ⟨"RustFamily$Ahead", "walk", "(LRustFamily$Family;IIII)I"⟩ ∈ m_tb := m_in (m_t4 (List.mem_of_getElem? (i := 227) rfl)) rfl
theorem w_ml_Ah_80 : Cond.methodLink "RustFamily$Ahead" 80 ⟨"RustFamily$Family", "lovedAhead", "(II)I"⟩ ∈ m_tb := m_in (m_t5 (List.mem_of_getElem? (i := 41) rfl)) rfl
theorem w_ml_Ah_86 : Cond.methodLink "RustFamily$Ahead" 86 ⟨"RustFamily$Thing", "biteBy", "(IIZ)I"⟩ ∈ m_tb := m_in (m_t5 (List.mem_of_getElem? (i := 42) rfl)) rfl
theorem w_ml_Ah_90 : Cond.methodLink "RustFamily$Ahead" 90 ⟨"RustFamily$Ahead", "takeMostSaving", "(I)I"⟩ ∈ m_tb := m_in (m_t5 (List.mem_of_getElem? (i := 43) rfl)) rfl
theorem w_ml_Ah_99 : Cond.methodLink "RustFamily$Ahead" 99 ⟨"RustFamily$Ahead", "spreadYear", "(IZ)V"⟩ ∈ m_tb := m_in (m_t6 (List.mem_of_getElem? (i := 24) rfl)) rfl
theorem w_ml_Fa_102 : Cond.methodLink "RustFamily$Family" 102 ⟨"RustFamily$Family", "showingSet", "(I)I"⟩ ∈ m_tb := m_in (m_t4 (List.mem_of_getElem? (i := 110) rfl)) rfl
theorem w_ml_Fa_106 : Cond.methodLink "RustFamily$Family" 106 ⟨"RustFamily$Family", "lovedBy", "(II)I"⟩ ∈ m_tb := m_in (m_t4 (List.mem_of_getElem? (i := 111) rfl)) rfl
theorem w_ml_Fa_110 : Cond.methodLink "RustFamily$Family" 110 ⟨"RustFamily$Thing", "isThrough", "()Z"⟩ ∈ m_tb := m_in (m_t4 (List.mem_of_getElem? (i := 73) rfl)) rfl
theorem w_ml_Fa_114 : Cond.methodLink "RustFamily$Family" 114 ⟨"RustFamily$Family", "livingSet", "()I"⟩ ∈ m_tb := m_in (m_t4 (List.mem_of_getElem? (i := 145) rfl)) rfl
theorem w_ml_Fa_118 : Cond.methodLink "RustFamily$Family" 118 ⟨"RustFamily$Family", "passYear", "()V"⟩ ∈ m_tb := m_in (m_t4 (List.mem_of_getElem? (i := 146) rfl)) rfl
theorem w_ml_Fa_121 : Cond.methodLink "RustFamily$Family" 121 ⟨"java/lang/Math", "max", "(II)I"⟩ ∈ m_tb := m_in (m_t4 (List.mem_of_getElem? (i := 161) rfl)) rfl
theorem w_ml_Fa_126 : Cond.methodLink "RustFamily$Family" 126 ⟨"RustFamily$Thing", "passYear", "(II)V"⟩ ∈ m_tb := m_in (m_t4 (List.mem_of_getElem? (i := 150) rfl)) rfl
theorem w_ml_Fa_3 : Cond.methodLink "RustFamily$Family" 3 ⟨"java/lang/Object", "<init>", "()V"⟩ ∈ m_tb := m_in (m_t1 (List.mem_of_getElem? (i := 107) rfl)) rfl
theorem w_ml_Fa_30 : Cond.methodLink "RustFamily$Family" 30 ⟨"RustFamily$Person", "<init>", "()V"⟩ ∈ m_tb := m_in (m_t1 (List.mem_of_getElem? (i := 111) rfl)) rfl
theorem w_ml_Fa_40 : Cond.methodLink "RustFamily$Family" 40 ⟨"RustFamily$Plan", "<init>", "()V"⟩ ∈ m_tb := m_in (m_t1 (List.mem_of_getElem? (i := 185) rfl)) rfl
theorem w_ml_Fa_54 : Cond.methodLink "RustFamily$Family" 54 ⟨"RustFamily$Person", "copyFrom", "(LRustFamily$Person;)V"⟩ ∈ m_tb := m_in (m_t6 (List.mem_of_getElem? (i := 117) rfl)) rfl
theorem w_ml_Fa_58 : Cond.methodLink "RustFamily$Family" 58 ⟨"RustFamily$Thing", "copyFrom", "(LRustFamily$Thing;)V"⟩ ∈ m_tb := m_in (m_t6 (List.mem_of_getElem? (i := 122) rfl)) rfl
theorem w_ml_Fa_79 : Cond.methodLink "RustFamily$Family" 79 ⟨"java/util/Arrays", "fill", "([II)V"⟩ ∈ m_tb := m_in (m_t3 (List.mem_of_getElem? (i := 210) rfl)) rfl
theorem w_ml_Fa_98 : Cond.methodLink "RustFamily$Family" 98 ⟨"RustFamily$Family", "showsAhead", "(II)Z"⟩ ∈ m_tb := m_in (m_t4 (List.mem_of_getElem? (i := 65) rfl)) rfl
theorem w_ml_Ga_1 : Cond.methodLink "RustFamily$Game" 1 ⟨"java/lang/Object", "<init>", "()V"⟩ ∈ m_tb := m_in (m_t2 (List.mem_of_getElem? (i := 145) rfl)) rfl
theorem w_ml_Ga_25 : Cond.methodLink "RustFamily$Game" 25 ⟨"RustFamily$Thing", "copyFrom", "(LRustFamily$Thing;)V"⟩ ∈ m_tb := m_in (m_t5 (List.mem_of_getElem? (i := 222) rfl)) rfl
theorem w_ml_Ga_29 : Cond.methodLink "RustFamily$Game" 29 ⟨"RustFamily$Family", "lovedAhead", "(II)I"⟩ ∈ m_tb := m_in (m_t5 (List.mem_of_getElem? (i := 223) rfl)) rfl
theorem w_ml_Ga_33 : Cond.methodLink "RustFamily$Game" 33 ⟨"RustFamily$Game", "bestFrom", "(LRustFamily$Family;II)I"⟩ ∈ m_tb := m_in (m_t5 (List.mem_of_getElem? (i := 224) rfl)) rfl
theorem w_ml_Ga_41 : Cond.methodLink "RustFamily$Game" 41 ⟨"RustFamily$Game", "canMove", "(II)Z"⟩ ∈ m_tb := m_in (m_t5 (List.mem_of_getElem? (i := 228) rfl)) rfl
theorem w_ml_Ga_45 : Cond.methodLink "RustFamily$Game" 45 ⟨"RustFamily$Game", "makeMove", "(LRustFamily$Family;II)V"⟩ ∈ m_tb := m_in (m_t6 (List.mem_of_getElem? (i := 1) rfl)) rfl
theorem w_ml_Ga_52 : Cond.methodLink "RustFamily$Game" 52 ⟨"RustFamily$Game", "otherOf", "(II)LRustFamily$Thing;"⟩ ∈ m_tb := m_in (m_t5 (List.mem_of_getElem? (i := 232) rfl)) rfl
theorem w_ml_Ga_56 : Cond.methodLink "RustFamily$Game" 56 ⟨"RustFamily$Thing", "isThrough", "()Z"⟩ ∈ m_tb := m_in (m_t5 (List.mem_of_getElem? (i := 236) rfl)) rfl
theorem w_ml_Ga_60 : Cond.methodLink "RustFamily$Game" 60 ⟨"RustFamily$Game", "ownOf", "(II)LRustFamily$Thing;"⟩ ∈ m_tb := m_in (m_t5 (List.mem_of_getElem? (i := 237) rfl)) rfl
theorem w_ml_Ga_66 : Cond.methodLink "RustFamily$Game" 66 ⟨"RustFamily$Thing", "takeBreath", "(I)V"⟩ ∈ m_tb := m_in (m_t6 (List.mem_of_getElem? (i := 5) rfl)) rfl
theorem w_ml_Ga_70 : Cond.methodLink "RustFamily$Game" 70 ⟨"RustFamily$Thing", "putOil", "()V"⟩ ∈ m_tb := m_in (m_t6 (List.mem_of_getElem? (i := 6) rfl)) rfl
theorem w_ml_Ga_76 : Cond.methodLink "RustFamily$Game" 76 ⟨"RustFamily$Thing", "passYear", "(II)V"⟩ ∈ m_tb := m_in (m_t6 (List.mem_of_getElem? (i := 7) rfl)) rfl
theorem w_ml_Ke_100 : Cond.methodLink "RustFamily$Keepers" 100 ⟨"RustFamily$Keepers", "mostLoved", "(LRustFamily$Family;I)I"⟩ ∈ m_tb := m_in (m_t5 (List.mem_of_getElem? (i := 178) rfl)) rfl
theorem w_ml_Ke_104 : Cond.methodLink "RustFamily$Keepers" 104 ⟨"RustFamily$Keepers", "askFor", "(LRustFamily$Family;II)V"⟩ ∈ m_tb := m_in (m_t5 (List.mem_of_getElem? (i := 182) rfl)) rfl
theorem w_ml_Ke_108 : Cond.methodLink "RustFamily$Keepers" 108 ⟨"RustFamily$Keepers", "wouldTake", "(LRustFamily$Family;II)Z"⟩ ∈ m_tb := m_in (m_t5 (List.mem_of_getElem? (i := 186) rfl)) rfl
theorem w_ml_Ke_111 : Cond.methodLink "RustFamily$Keepers" 111 ⟨"RustFamily$Keepers", "countFrom", "(LRustFamily$Family;I)I"⟩ ∈ m_tb := m_in (m_t5 (List.mem_of_getElem? (i := 198) rfl)) rfl
theorem w_ml_Ke_114 : Cond.methodLink "RustFamily$Keepers" 114 ⟨"RustFamily$Keepers", "isStable", "(LRustFamily$Family;)Z"⟩ ∈ m_tb := m_in (m_t5 (List.mem_of_getElem? (i := 202) rfl)) rfl
theorem w_ml_Ke_117 : Cond.methodLink "RustFamily$Keepers" 117 ⟨"RustFamily$Keepers", "wouldChange", "(LRustFamily$Family;I)Z"⟩ ∈ m_tb := m_in (m_t5 (List.mem_of_getElem? (i := 206) rfl)) rfl
theorem w_ml_Ke_3 : Cond.methodLink "RustFamily$Keepers" 3 ⟨"java/lang/Object", "<init>", "()V"⟩ ∈ m_tb := m_in (m_t2 (List.mem_of_getElem? (i := 119) rfl)) rfl
theorem w_ml_Ke_36 : Cond.methodLink "RustFamily$Keepers" 36 ⟨"java/util/Arrays", "fill", "([II)V"⟩ ∈ m_tb := m_in (m_t5 (List.mem_of_getElem? (i := 134) rfl)) rfl
theorem w_ml_Ke_42 : Cond.methodLink "RustFamily$Keepers" 42 ⟨"RustFamily$Keepers", "gather", "(LRustFamily$Family;I)V"⟩ ∈ m_tb := m_in (m_t5 (List.mem_of_getElem? (i := 130) rfl)) rfl
theorem w_ml_Ke_49 : Cond.methodLink "RustFamily$Keepers" 49 ⟨"java/lang/Integer", "bitCount", "(I)I"⟩ ∈ m_tb := m_in (m_t5 (List.mem_of_getElem? (i := 135) rfl)) rfl
theorem w_ml_Ke_55 : Cond.methodLink "RustFamily$Keepers" 55 ⟨"RustFamily$Keepers", "leastFrom", "(LRustFamily$Family;II)I"⟩ ∈ m_tb := m_in (m_t5 (List.mem_of_getElem? (i := 136) rfl)) rfl
theorem w_ml_Ke_60 : Cond.methodLink "RustFamily$Keepers" 60 ⟨"RustFamily$Keepers", "isFree", "(LRustFamily$Family;II)Z"⟩ ∈ m_tb := m_in (m_t5 (List.mem_of_getElem? (i := 141) rfl)) rfl
theorem w_ml_Ke_64 : Cond.methodLink "RustFamily$Keepers" 64 ⟨"RustFamily$Keepers", "loveAndBehind", "(LRustFamily$Family;III)I"⟩ ∈ m_tb := m_in (m_t5 (List.mem_of_getElem? (i := 145) rfl)) rfl
theorem w_ml_Ke_68 : Cond.methodLink "RustFamily$Keepers" 68 ⟨"java/lang/Math", "min", "(II)I"⟩ ∈ m_tb := m_in (m_t5 (List.mem_of_getElem? (i := 149) rfl)) rfl
theorem w_ml_Ke_78 : Cond.methodLink "RustFamily$Keepers" 78 ⟨"RustFamily$Thing", "isThrough", "()Z"⟩ ∈ m_tb := m_in (m_t5 (List.mem_of_getElem? (i := 144) rfl)) rfl
theorem w_ml_Ke_93 : Cond.methodLink "RustFamily$Keepers" 93 ⟨"RustFamily$Keepers", "firstLeast", "(LRustFamily$Family;II)I"⟩ ∈ m_tb := m_in (m_t5 (List.mem_of_getElem? (i := 162) rfl)) rfl
theorem w_ml_Ke_96 : Cond.methodLink "RustFamily$Keepers" 96 ⟨"RustFamily$Keepers", "askOnce", "(LRustFamily$Family;)Z"⟩ ∈ m_tb := m_in (m_t5 (List.mem_of_getElem? (i := 174) rfl)) rfl
theorem w_ml_Pe_3 : Cond.methodLink "RustFamily$Person" 3 ⟨"java/lang/Object", "<init>", "()V"⟩ ∈ m_tb := m_in (m_t1 (List.mem_of_getElem? (i := 114) rfl)) rfl
theorem w_ml_Pe_30 : Cond.methodLink "RustFamily$Person" 30 ⟨"java/lang/System", "arraycopy", "(Ljava/lang/Object;ILjava/lang/Object;II)V"⟩ ∈ m_tb := m_in (m_t6 (List.mem_of_getElem? (i := 121) rfl)) rfl
theorem w_ml_Pl_106 : Cond.methodLink "RustFamily$Plan" 106 ⟨"RustFamily$Plan", "actLove", "(LRustFamily$Person;II)Z"⟩ ∈ m_tb := m_in (m_t6 (List.mem_of_getElem? (i := 78) rfl)) rfl
theorem w_ml_Pl_110 : Cond.methodLink "RustFamily$Plan" 110 ⟨"RustFamily$Plan", "actAny", "(LRustFamily$Family;)Z"⟩ ∈ m_tb := m_in (m_t6 (List.mem_of_getElem? (i := 81) rfl)) rfl
theorem w_ml_Pl_113 : Cond.methodLink "RustFamily$Plan" 113 ⟨"RustFamily$Plan", "actOn", "(LRustFamily$Thing;II)Z"⟩ ∈ m_tb := m_in (m_t6 (List.mem_of_getElem? (i := 91) rfl)) rfl
theorem w_ml_Pl_128 : Cond.methodLink "RustFamily$Plan" 128 ⟨"RustFamily$Plan", "draw", "(I)I"⟩ ∈ m_tb := m_in (m_t6 (List.mem_of_getElem? (i := 85) rfl)) rfl
theorem w_ml_Pl_135 : Cond.methodLink "RustFamily$Plan" 135 ⟨"RustFamily$Thing", "takeBreath", "(I)V"⟩ ∈ m_tb := m_in (m_t6 (List.mem_of_getElem? (i := 90) rfl)) rfl
theorem w_ml_Pl_139 : Cond.methodLink "RustFamily$Plan" 139 ⟨"RustFamily$Thing", "putOil", "()V"⟩ ∈ m_tb := m_in (m_t6 (List.mem_of_getElem? (i := 94) rfl)) rfl
theorem w_ml_Pl_142 : Cond.methodLink "RustFamily$Plan" 142 ⟨"RustFamily$Thing", "putCoat", "(I)V"⟩ ∈ m_tb := m_in (m_t6 (List.mem_of_getElem? (i := 95) rfl)) rfl
theorem w_ml_Pl_145 : Cond.methodLink "RustFamily$Plan" 145 ⟨"RustFamily$Thing", "halveRust", "()V"⟩ ∈ m_tb := m_in (m_t6 (List.mem_of_getElem? (i := 96) rfl)) rfl
theorem w_ml_Pl_3 : Cond.methodLink "RustFamily$Plan" 3 ⟨"java/lang/Object", "<init>", "()V"⟩ ∈ m_tb := m_in (m_t1 (List.mem_of_getElem? (i := 188) rfl)) rfl
theorem w_ml_Pl_41 : Cond.methodLink "RustFamily$Plan" 41 ⟨"java/lang/System", "arraycopy", "(Ljava/lang/Object;ILjava/lang/Object;II)V"⟩ ∈ m_tb := m_in (m_t6 (List.mem_of_getElem? (i := 131) rfl)) rfl
theorem w_ml_Pl_62 : Cond.methodLink "RustFamily$Plan" 62 ⟨"RustFamily$Plan", "enterLoop", "()V"⟩ ∈ m_tb := m_in (m_t6 (List.mem_of_getElem? (i := 60) rfl)) rfl
theorem w_ml_Pl_65 : Cond.methodLink "RustFamily$Plan" 65 ⟨"RustFamily$Plan", "holds", "(LRustFamily$Family;)Z"⟩ ∈ m_tb := m_in (m_t6 (List.mem_of_getElem? (i := 64) rfl)) rfl
theorem w_ml_Pl_69 : Cond.methodLink "RustFamily$Plan" 69 ⟨"RustFamily$Plan", "act", "(LRustFamily$Family;)Z"⟩ ∈ m_tb := m_in (m_t6 (List.mem_of_getElem? (i := 70) rfl)) rfl
theorem w_ml_Pl_72 : Cond.methodLink "RustFamily$Plan" 72 ⟨"RustFamily$Plan", "goRound", "()V"⟩ ∈ m_tb := m_in (m_t6 (List.mem_of_getElem? (i := 97) rfl)) rfl
theorem w_ml_Pl_75 : Cond.methodLink "RustFamily$Plan" 75 ⟨"RustFamily$Family", "showsAhead", "(II)Z"⟩ ∈ m_tb := m_in (m_t6 (List.mem_of_getElem? (i := 68) rfl)) rfl
theorem w_ml_Pl_90 : Cond.methodLink "RustFamily$Plan" 90 ⟨"RustFamily$Thing", "isThrough", "()Z"⟩ ∈ m_tb := m_in (m_t6 (List.mem_of_getElem? (i := 69) rfl)) rfl
theorem w_ml_Pl_94 : Cond.methodLink "RustFamily$Plan" 94 ⟨"RustFamily$Family", "passYears", "(I)Z"⟩ ∈ m_tb := m_in (m_t6 (List.mem_of_getElem? (i := 74) rfl)) rfl
theorem w_ml_Pl_98 : Cond.methodLink "RustFamily$Plan" 98 ⟨"RustFamily$Plan", "actDamp", "(LRustFamily$Family;I)Z"⟩ ∈ m_tb := m_in (m_t6 (List.mem_of_getElem? (i := 75) rfl)) rfl
theorem w_ml_Re_100 : Cond.methodLink "RustFamily$Reader" 100 ⟨"RustFamily$Text", "takeEndSign", "()Z"⟩ ∈ m_tb := m_in (m_t3 (List.mem_of_getElem? (i := 202) rfl)) rfl
theorem w_ml_Re_104 : Cond.methodLink "RustFamily$Reader" 104 ⟨"RustFamily$Family", "personNamed", "(J)I"⟩ ∈ m_tb := m_in (m_t3 (List.mem_of_getElem? (i := 150) rfl)) rfl
theorem w_ml_Re_108 : Cond.methodLink "RustFamily$Reader" 108 ⟨"RustFamily$Family", "thingNamed", "(J)I"⟩ ∈ m_tb := m_in (m_t3 (List.mem_of_getElem? (i := 154) rfl)) rfl
theorem w_ml_Re_115 : Cond.methodLink "RustFamily$Reader" 115 ⟨"RustFamily$Reader", "isNew", "(LRustFamily$Family;J)Z"⟩ ∈ m_tb := m_in (m_t3 (List.mem_of_getElem? (i := 147) rfl)) rfl
theorem w_ml_Re_119 : Cond.methodLink "RustFamily$Reader" 119 ⟨"RustFamily$Text", "takeName", "(Z)Z"⟩ ∈ m_tb := m_in (m_t3 (List.mem_of_getElem? (i := 158) rfl)) rfl
theorem w_ml_Re_125 : Cond.methodLink "RustFamily$Reader" 125 ⟨"RustFamily$Text", "takeWord", "(Ljava/lang/String;)Z"⟩ ∈ m_tb := m_in (m_t3 (List.mem_of_getElem? (i := 190) rfl)) rfl
theorem w_ml_Re_130 : Cond.methodLink "RustFamily$Reader" 130 ⟨"RustFamily$Family", "addPerson", "(JIZ)V"⟩ ∈ m_tb := m_in (m_t3 (List.mem_of_getElem? (i := 206) rfl)) rfl
theorem w_ml_Re_138 : Cond.methodLink "RustFamily$Reader" 138 ⟨"RustFamily$Family", "addThing", "(JII)V"⟩ ∈ m_tb := m_in (m_t3 (List.mem_of_getElem? (i := 219) rfl)) rfl
theorem w_ml_Re_152 : Cond.methodLink "RustFamily$Reader" 152 ⟨"RustFamily$Plan", "latestOpen", "()I"⟩ ∈ m_tb := m_in (m_t4 (List.mem_of_getElem? (i := 4) rfl)) rfl
theorem w_ml_Re_162 : Cond.methodLink "RustFamily$Reader" 162 ⟨"RustFamily$Reader", "closeBlock", "(LRustFamily$Text;LRustFamily$Plan;)Z"⟩ ∈ m_tb := m_in (m_t4 (List.mem_of_getElem? (i := 9) rfl)) rfl
theorem w_ml_Re_168 : Cond.methodLink "RustFamily$Reader" 168 ⟨"RustFamily$Reader", "openStep", "(LRustFamily$Text;LRustFamily$Plan;I)Z"⟩ ∈ m_tb := m_in (m_t4 (List.mem_of_getElem? (i := 13) rfl)) rfl
theorem w_ml_Re_172 : Cond.methodLink "RustFamily$Reader" 172 ⟨"RustFamily$Reader", "takeTest", "(LRustFamily$Text;LRustFamily$Family;LRustFamily$Plan;)Z"⟩ ∈ m_tb := m_in (m_t4 (List.mem_of_getElem? (i := 20) rfl)) rfl
theorem w_ml_Re_176 : Cond.methodLink "RustFamily$Reader" 176 ⟨"RustFamily$Reader", "stepKind", "(LRustFamily$Text;)I"⟩ ∈ m_tb := m_in (m_t4 (List.mem_of_getElem? (i := 37) rfl)) rfl
theorem w_ml_Re_180 : Cond.methodLink "RustFamily$Reader" 180 ⟨"RustFamily$Reader", "takeRest", "(LRustFamily$Text;LRustFamily$Family;LRustFamily$Plan;)Z"⟩ ∈ m_tb := m_in (m_t4 (List.mem_of_getElem? (i := 46) rfl)) rfl
theorem w_ml_Re_200 : Cond.methodLink "RustFamily$Reader" 200 ⟨"RustFamily$Plan", "openBlocks", "()I"⟩ ∈ m_tb := m_in (m_t4 (List.mem_of_getElem? (i := 16) rfl)) rfl
theorem w_ml_Re_205 : Cond.methodLink "RustFamily$Reader" 205 ⟨"RustFamily$Reader", "takeMuch", "(LRustFamily$Text;LRustFamily$Plan;II)Z"⟩ ∈ m_tb := m_in (m_t4 (List.mem_of_getElem? (i := 34) rfl)) rfl
theorem w_ml_Re_209 : Cond.methodLink "RustFamily$Reader" 209 ⟨"RustFamily$Reader", "takeThingName", "(LRustFamily$Text;LRustFamily$Family;LRustFamily$Plan;)Z"⟩ ∈ m_tb := m_in (m_t4 (List.mem_of_getElem? (i := 24) rfl)) rfl
theorem w_ml_Re_21 : Cond.methodLink "RustFamily$Reader" 21 ⟨"RustFamily$Reader", "setDefaults", "(LRustFamily$Family;)V"⟩ ∈ m_tb := m_in (m_t3 (List.mem_of_getElem? (i := 83) rfl)) rfl
theorem w_ml_Re_212 : Cond.methodLink "RustFamily$Reader" 212 ⟨"RustFamily$Reader", "takePersonName", "(LRustFamily$Text;LRustFamily$Family;LRustFamily$Plan;)Z"⟩ ∈ m_tb := m_in (m_t4 (List.mem_of_getElem? (i := 27) rfl)) rfl
theorem w_ml_Re_219 : Cond.methodLink "RustFamily$Reader" 219 ⟨"RustFamily$Reader", "takeCompares", "(LRustFamily$Text;LRustFamily$Plan;)Z"⟩ ∈ m_tb := m_in (m_t4 (List.mem_of_getElem? (i := 31) rfl)) rfl
theorem w_ml_Re_26 : Cond.methodLink "RustFamily$Reader" 26 ⟨"RustFamily$Text", "is", "(Ljava/lang/String;)Z"⟩ ∈ m_tb := m_in (m_t3 (List.mem_of_getElem? (i := 87) rfl)) rfl
theorem w_ml_Re_30 : Cond.methodLink "RustFamily$Reader" 30 ⟨"RustFamily$Reader", "takePerson", "(LRustFamily$Text;LRustFamily$Family;)Z"⟩ ∈ m_tb := m_in (m_t3 (List.mem_of_getElem? (i := 139) rfl)) rfl
theorem w_ml_Re_36 : Cond.methodLink "RustFamily$Reader" 36 ⟨"RustFamily$Reader", "takeThing", "(LRustFamily$Text;LRustFamily$Family;)Z"⟩ ∈ m_tb := m_in (m_t3 (List.mem_of_getElem? (i := 214) rfl)) rfl
theorem w_ml_Re_41 : Cond.methodLink "RustFamily$Reader" 41 ⟨"RustFamily$Reader", "takeLove", "(LRustFamily$Text;LRustFamily$Family;)Z"⟩ ∈ m_tb := m_in (m_t3 (List.mem_of_getElem? (i := 224) rfl)) rfl
theorem w_ml_Re_44 : Cond.methodLink "RustFamily$Reader" 44 ⟨"RustFamily$Reader", "takeRule", "(LRustFamily$Text;LRustFamily$Family;)Z"⟩ ∈ m_tb := m_in (m_t3 (List.mem_of_getElem? (i := 227) rfl)) rfl
theorem w_ml_Re_74 : Cond.methodLink "RustFamily$Reader" 74 ⟨"RustFamily$Plan", "clear", "()V"⟩ ∈ m_tb := m_in (m_t3 (List.mem_of_getElem? (i := 79) rfl)) rfl
theorem w_ml_Re_79 : Cond.methodLink "RustFamily$Reader" 79 ⟨"RustFamily$Reader", "takeOnce", "(LRustFamily$Text;III)Z"⟩ ∈ m_tb := m_in (m_t3 (List.mem_of_getElem? (i := 231) rfl)) rfl
theorem w_ml_Re_89 : Cond.methodLink "RustFamily$Reader" 89 ⟨"RustFamily$Text", "refuse", "(I)Z"⟩ ∈ m_tb := m_in (m_t3 (List.mem_of_getElem? (i := 142) rfl)) rfl
theorem w_ml_Re_9 : Cond.methodLink "RustFamily$Reader" 9 ⟨"RustFamily$Reader", "clear", "(LRustFamily$Family;)V"⟩ ∈ m_tb := m_in (m_t3 (List.mem_of_getElem? (i := 76) rfl)) rfl
theorem w_ml_Re_93 : Cond.methodLink "RustFamily$Reader" 93 ⟨"RustFamily$Text", "advance", "()V"⟩ ∈ m_tb := m_in (m_t3 (List.mem_of_getElem? (i := 146) rfl)) rfl
theorem w_ml_Re_96 : Cond.methodLink "RustFamily$Reader" 96 ⟨"RustFamily$Text", "takeNumber", "(II)Z"⟩ ∈ m_tb := m_in (m_t3 (List.mem_of_getElem? (i := 194) rfl)) rfl
theorem w_ml_Si_19 : Cond.methodLink "RustFamily$Sight" 19 ⟨"java/lang/Integer", "bitCount", "(I)I"⟩ ∈ m_tb := m_in (m_t5 (List.mem_of_getElem? (i := 75) rfl)) rfl
theorem w_ml_Si_29 : Cond.methodLink "RustFamily$Sight" 29 ⟨"RustFamily$Sight", "fitsAll", "(I[JI)Z"⟩ ∈ m_tb := m_in (m_t5 (List.mem_of_getElem? (i := 81) rfl)) rfl
theorem w_ml_Si_33 : Cond.methodLink "RustFamily$Sight" 33 ⟨"RustFamily$Sight", "countSums", "()V"⟩ ∈ m_tb := m_in (m_t5 (List.mem_of_getElem? (i := 88) rfl)) rfl
theorem w_ml_Si_36 : Cond.methodLink "RustFamily$Sight" 36 ⟨"java/util/Arrays", "fill", "([II)V"⟩ ∈ m_tb := m_in (m_t5 (List.mem_of_getElem? (i := 92) rfl)) rfl
theorem w_ml_Si_42 : Cond.methodLink "RustFamily$Sight" 42 ⟨"RustFamily$Sight", "canLove", "(I)Z"⟩ ∈ m_tb := m_in (m_t5 (List.mem_of_getElem? (i := 101) rfl)) rfl
theorem w_ml_Si_46 : Cond.methodLink "RustFamily$Sight" 46 ⟨"RustFamily$Sight", "unlikeBites", "(I)I"⟩ ∈ m_tb := m_in (m_t5 (List.mem_of_getElem? (i := 113) rfl)) rfl
theorem w_ml_Si_5 : Cond.methodLink "RustFamily$Sight" 5 ⟨"java/lang/Object", "<init>", "()V"⟩ ∈ m_tb := m_in (m_t2 (List.mem_of_getElem? (i := 102) rfl)) rfl
theorem w_ml_Tx_123 : Cond.methodLink "RustFamily$Text" 123 ⟨"RustFamily$Text", "refuse", "(I)Z"⟩ ∈ m_tb := m_in (m_t3 (List.mem_of_getElem? (i := 188) rfl)) rfl
theorem w_ml_Tx_134 : Cond.methodLink "RustFamily$Text" 134 ⟨"RustFamily$Text", "isReserved", "()Z"⟩ ∈ m_tb := m_in (m_t3 (List.mem_of_getElem? (i := 162) rfl)) rfl
theorem w_ml_Tx_3 : Cond.methodLink "RustFamily$Text" 3 ⟨"java/lang/Object", "<init>", "()V"⟩ ∈ m_tb := m_in (m_t1 (List.mem_of_getElem? (i := 56) rfl)) rfl
theorem w_ml_Tx_31 : Cond.methodLink "RustFamily$Text" 31 ⟨"RustFamily$Text", "advance", "()V"⟩ ∈ m_tb := m_in (m_t3 (List.mem_of_getElem? (i := 50) rfl)) rfl
theorem w_ml_Tx_34 : Cond.methodLink "RustFamily$Text" 34 ⟨"RustFamily$Text", "skipBlanks", "()V"⟩ ∈ m_tb := m_in (m_t3 (List.mem_of_getElem? (i := 54) rfl)) rfl
theorem w_ml_Tx_53 : Cond.methodLink "RustFamily$Text" 53 ⟨"RustFamily$Text", "isLetter", "(B)Z"⟩ ∈ m_tb := m_in (m_t3 (List.mem_of_getElem? (i := 58) rfl)) rfl
theorem w_ml_Tx_57 : Cond.methodLink "RustFamily$Text" 57 ⟨"RustFamily$Text", "scanWord", "()V"⟩ ∈ m_tb := m_in (m_t3 (List.mem_of_getElem? (i := 61) rfl)) rfl
theorem w_ml_Tx_60 : Cond.methodLink "RustFamily$Text" 60 ⟨"RustFamily$Text", "isDigit", "(B)Z"⟩ ∈ m_tb := m_in (m_t3 (List.mem_of_getElem? (i := 66) rfl)) rfl
theorem w_ml_Tx_63 : Cond.methodLink "RustFamily$Text" 63 ⟨"RustFamily$Text", "scanNumber", "()V"⟩ ∈ m_tb := m_in (m_t3 (List.mem_of_getElem? (i := 69) rfl)) rfl
theorem w_ml_Tx_68 : Cond.methodLink "RustFamily$Text" 68 ⟨"java/lang/String", "length", "()I"⟩ ∈ m_tb := m_in (m_t3 (List.mem_of_getElem? (i := 91) rfl)) rfl
theorem w_ml_Tx_73 : Cond.methodLink "RustFamily$Text" 73 ⟨"java/lang/String", "charAt", "(I)C"⟩ ∈ m_tb := m_in (m_t3 (List.mem_of_getElem? (i := 101) rfl)) rfl
theorem w_ml_Tx_79 : Cond.methodLink "RustFamily$Text" 79 ⟨"RustFamily$Text", "is", "(Ljava/lang/String;)Z"⟩ ∈ m_tb := m_in (m_t3 (List.mem_of_getElem? (i := 167) rfl)) rfl
theorem w_ml_Th_28 : Cond.methodLink "RustFamily$Thing" 28 ⟨"RustFamily$Thing", "isThrough", "()Z"⟩ ∈ m_tb := m_in (m_t4 (List.mem_of_getElem? (i := 119) rfl)) rfl
theorem w_ml_Th_3 : Cond.methodLink "RustFamily$Thing" 3 ⟨"java/lang/Object", "<init>", "()V"⟩ ∈ m_tb := m_in (m_t1 (List.mem_of_getElem? (i := 151) rfl)) rfl
theorem w_ml_Th_32 : Cond.methodLink "RustFamily$Thing" 32 ⟨"RustFamily$Thing", "biteBy", "(IIZ)I"⟩ ∈ m_tb := m_in (m_t4 (List.mem_of_getElem? (i := 120) rfl)) rfl
theorem w_ml_Th_36 : Cond.methodLink "RustFamily$Thing" 36 ⟨"RustFamily$Thing", "bite", "(II)I"⟩ ∈ m_tb := m_in (m_t4 (List.mem_of_getElem? (i := 154) rfl)) rfl
theorem w_ml_Th_40 : Cond.methodLink "RustFamily$Thing" 40 ⟨"java/lang/Math", "min", "(II)I"⟩ ∈ m_tb := m_in (m_t4 (List.mem_of_getElem? (i := 155) rfl)) rfl
theorem w_ml_Th_45 : Cond.methodLink "RustFamily$Thing" 45 ⟨"java/lang/Math", "max", "(II)I"⟩ ∈ m_tb := m_in (m_t4 (List.mem_of_getElem? (i := 158) rfl)) rfl
theorem w_ml_Tr_22 : Cond.methodLink "RustFamily$Tray" 22 ⟨"java/util/Arrays", "fill", "([JJ)V"⟩ ∈ m_tb := m_in (m_t2 (List.mem_of_getElem? (i := 231) rfl)) rfl
theorem w_ml_Tr_3 : Cond.methodLink "RustFamily$Tray" 3 ⟨"java/lang/Object", "<init>", "()V"⟩ ∈ m_tb := m_in (m_t1 (List.mem_of_getElem? (i := 36) rfl)) rfl
theorem w_ml_C_1 : Cond.methodLink "RustFamily" 1 ⟨"java/lang/Object", "<init>", "()V"⟩ ∈ m_tb := m_in (m_t1 (List.mem_of_getElem? (i := 27) rfl)) rfl
theorem w_ml_C_102 : Cond.methodLink "RustFamily" 102 ⟨"RustFamily", "placeStatus", "(II)I"⟩ ∈ m_tb := m_in (m_t2 (List.mem_of_getElem? (i := 238) rfl)) rfl
theorem w_ml_C_106 : Cond.methodLink "RustFamily" 106 ⟨"RustFamily$Tray", "put", "(IJ)V"⟩ ∈ m_tb := m_in (m_t3 (List.mem_of_getElem? (i := 14) rfl)) rfl
theorem w_ml_C_116 : Cond.methodLink "RustFamily" 116 ⟨"RustFamily", "pourStatus", "(IIIII)I"⟩ ∈ m_tb := m_in (m_t3 (List.mem_of_getElem? (i := 27) rfl)) rfl
theorem w_ml_C_120 : Cond.methodLink "RustFamily" 120 ⟨"java/lang/System", "arraycopy", "(Ljava/lang/Object;ILjava/lang/Object;II)V"⟩ ∈ m_tb := m_in (m_t3 (List.mem_of_getElem? (i := 31) rfl)) rfl
theorem w_ml_C_126 : Cond.methodLink "RustFamily" 126 ⟨"RustFamily$Tray", "isMissing", "()Z"⟩ ∈ m_tb := m_in (m_t3 (List.mem_of_getElem? (i := 6) rfl)) rfl
theorem w_ml_C_133 : Cond.methodLink "RustFamily" 133 ⟨"RustFamily$Tray", "holds", "(II)Z"⟩ ∈ m_tb := m_in (m_t3 (List.mem_of_getElem? (i := 10) rfl)) rfl
theorem w_ml_C_137 : Cond.methodLink "RustFamily" 137 ⟨"RustFamily", "trayStatus", "(I)I"⟩ ∈ m_tb := m_in (m_t3 (List.mem_of_getElem? (i := 2) rfl)) rfl
theorem w_ml_C_144 : Cond.methodLink "RustFamily" 144 ⟨"RustFamily$Text", "put", "(I)V"⟩ ∈ m_tb := m_in (m_t3 (List.mem_of_getElem? (i := 38) rfl)) rfl
theorem w_ml_C_147 : Cond.methodLink "RustFamily" 147 ⟨"RustFamily$Text", "open", "(I)V"⟩ ∈ m_tb := m_in (m_t3 (List.mem_of_getElem? (i := 46) rfl)) rfl
theorem w_ml_C_150 : Cond.methodLink "RustFamily" 150 ⟨"RustFamily$Reader", "takeFamily", "(LRustFamily$Text;LRustFamily$Family;)Z"⟩ ∈ m_tb := m_in (m_t3 (List.mem_of_getElem? (i := 73) rfl)) rfl
theorem w_ml_C_159 : Cond.methodLink "RustFamily" 159 ⟨"RustFamily$Reader", "takePlan", "(LRustFamily$Text;LRustFamily$Family;LRustFamily$Plan;)Z"⟩ ∈ m_tb := m_in (m_t4 (List.mem_of_getElem? (i := 1) rfl)) rfl
theorem w_ml_C_193 : Cond.methodLink "RustFamily" 193 ⟨"RustFamily$Family", "livingSet", "()I"⟩ ∈ m_tb := m_in (m_t4 (List.mem_of_getElem? (i := 57) rfl)) rfl
theorem w_ml_C_197 : Cond.methodLink "RustFamily" 197 ⟨"RustFamily$Family", "showingSet", "(I)I"⟩ ∈ m_tb := m_in (m_t4 (List.mem_of_getElem? (i := 61) rfl)) rfl
theorem w_ml_C_200 : Cond.methodLink "RustFamily" 200 ⟨"RustFamily$Family", "throughSet", "()I"⟩ ∈ m_tb := m_in (m_t4 (List.mem_of_getElem? (i := 69) rfl)) rfl
theorem w_ml_C_203 : Cond.methodLink "RustFamily" 203 ⟨"RustFamily$Family", "oiledSet", "()I"⟩ ∈ m_tb := m_in (m_t4 (List.mem_of_getElem? (i := 77) rfl)) rfl
theorem w_ml_C_206 : Cond.methodLink "RustFamily" 206 ⟨"RustFamily$Family", "allRust", "()I"⟩ ∈ m_tb := m_in (m_t4 (List.mem_of_getElem? (i := 81) rfl)) rfl
theorem w_ml_C_209 : Cond.methodLink "RustFamily" 209 ⟨"RustFamily", "isPerson", "(I)Z"⟩ ∈ m_tb := m_in (m_t4 (List.mem_of_getElem? (i := 89) rfl)) rfl
theorem w_ml_C_227 : Cond.methodLink "RustFamily" 227 ⟨"RustFamily$Family", "showsAhead", "(II)Z"⟩ ∈ m_tb := m_in (m_t4 (List.mem_of_getElem? (i := 93) rfl)) rfl
theorem w_ml_C_230 : Cond.methodLink "RustFamily" 230 ⟨"RustFamily$Person", "lovedSet", "(I)I"⟩ ∈ m_tb := m_in (m_t4 (List.mem_of_getElem? (i := 94) rfl)) rfl
theorem w_ml_C_233 : Cond.methodLink "RustFamily" 233 ⟨"RustFamily", "isThing", "(I)Z"⟩ ∈ m_tb := m_in (m_t4 (List.mem_of_getElem? (i := 102) rfl)) rfl
theorem w_ml_C_254 : Cond.methodLink "RustFamily" 254 ⟨"RustFamily$Family", "lovedAhead", "(II)I"⟩ ∈ m_tb := m_in (m_t4 (List.mem_of_getElem? (i := 106) rfl)) rfl
theorem w_ml_C_257 : Cond.methodLink "RustFamily" 257 ⟨"RustFamily$Thing", "bite", "(II)I"⟩ ∈ m_tb := m_in (m_t4 (List.mem_of_getElem? (i := 115) rfl)) rfl
theorem w_ml_C_26 : Cond.methodLink "RustFamily" 26 ⟨"RustFamily$Tray", "<init>", "()V"⟩ ∈ m_tb := m_in (m_t1 (List.mem_of_getElem? (i := 33) rfl)) rfl
theorem w_ml_C_260 : Cond.methodLink "RustFamily" 260 ⟨"RustFamily$Thing", "isThrough", "()Z"⟩ ∈ m_tb := m_in (m_t4 (List.mem_of_getElem? (i := 123) rfl)) rfl
theorem w_ml_C_263 : Cond.methodLink "RustFamily" 263 ⟨"RustFamily", "pairStatus", "(II)I"⟩ ∈ m_tb := m_in (m_t4 (List.mem_of_getElem? (i := 128) rfl)) rfl
theorem w_ml_C_269 : Cond.methodLink "RustFamily" 269 ⟨"RustFamily", "isWithin", "(III)Z"⟩ ∈ m_tb := m_in (m_t4 (List.mem_of_getElem? (i := 140) rfl)) rfl
theorem w_ml_C_273 : Cond.methodLink "RustFamily" 273 ⟨"RustFamily$Family", "passYears", "(I)Z"⟩ ∈ m_tb := m_in (m_t4 (List.mem_of_getElem? (i := 141) rfl)) rfl
theorem w_ml_C_276 : Cond.methodLink "RustFamily" 276 ⟨"RustFamily", "wholeStatus", "(I)I"⟩ ∈ m_tb := m_in (m_t4 (List.mem_of_getElem? (i := 170) rfl)) rfl
theorem w_ml_C_279 : Cond.methodLink "RustFamily" 279 ⟨"RustFamily$Thing", "putOil", "()V"⟩ ∈ m_tb := m_in (m_t4 (List.mem_of_getElem? (i := 174) rfl)) rfl
theorem w_ml_C_282 : Cond.methodLink "RustFamily" 282 ⟨"RustFamily$Thing", "putCoat", "(I)V"⟩ ∈ m_tb := m_in (m_t4 (List.mem_of_getElem? (i := 182) rfl)) rfl
theorem w_ml_C_285 : Cond.methodLink "RustFamily" 285 ⟨"RustFamily$Thing", "halveRust", "()V"⟩ ∈ m_tb := m_in (m_t4 (List.mem_of_getElem? (i := 190) rfl)) rfl
theorem w_ml_C_288 : Cond.methodLink "RustFamily" 288 ⟨"RustFamily$Thing", "takeBreath", "(I)V"⟩ ∈ m_tb := m_in (m_t4 (List.mem_of_getElem? (i := 198) rfl)) rfl
theorem w_ml_C_29 : Cond.methodLink "RustFamily" 29 ⟨"RustFamily$Text", "<init>", "()V"⟩ ∈ m_tb := m_in (m_t1 (List.mem_of_getElem? (i := 53) rfl)) rfl
theorem w_ml_C_291 : Cond.methodLink "RustFamily" 291 ⟨"RustFamily$Family", "addThing", "(JII)V"⟩ ∈ m_tb := m_in (m_t4 (List.mem_of_getElem? (i := 206) rfl)) rfl
theorem w_ml_C_295 : Cond.methodLink "RustFamily" 295 ⟨"RustFamily$Family", "addPerson", "(JIZ)V"⟩ ∈ m_tb := m_in (m_t4 (List.mem_of_getElem? (i := 211) rfl)) rfl
theorem w_ml_C_299 : Cond.methodLink "RustFamily" 299 ⟨"RustFamily", "canRule", "(II)Z"⟩ ∈ m_tb := m_in (m_t4 (List.mem_of_getElem? (i := 216) rfl)) rfl
theorem w_ml_C_302 : Cond.methodLink "RustFamily" 302 ⟨"RustFamily$Ahead", "rustAfter", "(LRustFamily$Family;II)I"⟩ ∈ m_tb := m_in (m_t4 (List.mem_of_getElem? (i := 223) rfl)) rfl
theorem w_ml_C_306 : Cond.methodLink "RustFamily" 306 ⟨"RustFamily$Ahead", "walk", "(LRustFamily$Family;IIII)I"⟩ ∈ m_tb := m_in (m_t5 (List.mem_of_getElem? (i := 3) rfl)) rfl
theorem w_ml_C_310 : Cond.methodLink "RustFamily" 310 ⟨"RustFamily", "orNone", "(I)I"⟩ ∈ m_tb := m_in (m_t5 (List.mem_of_getElem? (i := 4) rfl)) rfl
theorem w_ml_C_313 : Cond.methodLink "RustFamily" 313 ⟨"java/lang/Math", "max", "(II)I"⟩ ∈ m_tb := m_in (m_t5 (List.mem_of_getElem? (i := 20) rfl)) rfl
theorem w_ml_C_318 : Cond.methodLink "RustFamily" 318 ⟨"RustFamily$Ahead", "allRustWithout", "(LRustFamily$Family;II)I"⟩ ∈ m_tb := m_in (m_t5 (List.mem_of_getElem? (i := 29) rfl)) rfl
theorem w_ml_C_321 : Cond.methodLink "RustFamily" 321 ⟨"RustFamily$Ahead", "fewestJars", "(LRustFamily$Family;II)I"⟩ ∈ m_tb := m_in (m_t5 (List.mem_of_getElem? (i := 37) rfl)) rfl
theorem w_ml_C_324 : Cond.methodLink "RustFamily" 324 ⟨"RustFamily", "isSet", "(II)Z"⟩ ∈ m_tb := m_in (m_t5 (List.mem_of_getElem? (i := 51) rfl)) rfl
theorem w_ml_C_327 : Cond.methodLink "RustFamily" 327 ⟨"RustFamily", "seenStatus", "(II)I"⟩ ∈ m_tb := m_in (m_t5 (List.mem_of_getElem? (i := 62) rfl)) rfl
theorem w_ml_C_330 : Cond.methodLink "RustFamily" 330 ⟨"RustFamily$Sight", "look", "(I[JI)V"⟩ ∈ m_tb := m_in (m_t5 (List.mem_of_getElem? (i := 71) rfl)) rfl
theorem w_ml_C_334 : Cond.methodLink "RustFamily" 334 ⟨"RustFamily$Sight", "ways", "()I"⟩ ∈ m_tb := m_in (m_t5 (List.mem_of_getElem? (i := 84) rfl)) rfl
theorem w_ml_C_337 : Cond.methodLink "RustFamily" 337 ⟨"RustFamily$Sight", "onlyLove", "()I"⟩ ∈ m_tb := m_in (m_t5 (List.mem_of_getElem? (i := 97) rfl)) rfl
theorem w_ml_C_340 : Cond.methodLink "RustFamily" 340 ⟨"RustFamily$Sight", "bestDamp", "()I"⟩ ∈ m_tb := m_in (m_t5 (List.mem_of_getElem? (i := 109) rfl)) rfl
theorem w_ml_C_348 : Cond.methodLink "RustFamily" 348 ⟨"RustFamily", "areTwos", "([JI)Z"⟩ ∈ m_tb := m_in (m_t5 (List.mem_of_getElem? (i := 67) rfl)) rfl
theorem w_ml_C_354 : Cond.methodLink "RustFamily" 354 ⟨"RustFamily", "keepingStatus", "(I)I"⟩ ∈ m_tb := m_in (m_t5 (List.mem_of_getElem? (i := 121) rfl)) rfl
theorem w_ml_C_357 : Cond.methodLink "RustFamily" 357 ⟨"RustFamily$Keepers", "leastLove", "(LRustFamily$Family;I)I"⟩ ∈ m_tb := m_in (m_t5 (List.mem_of_getElem? (i := 126) rfl)) rfl
theorem w_ml_C_36 : Cond.methodLink "RustFamily" 36 ⟨"RustFamily$Family", "<init>", "()V"⟩ ∈ m_tb := m_in (m_t1 (List.mem_of_getElem? (i := 104) rfl)) rfl
theorem w_ml_C_361 : Cond.methodLink "RustFamily" 361 ⟨"RustFamily", "memberStatus", "(II)I"⟩ ∈ m_tb := m_in (m_t5 (List.mem_of_getElem? (i := 154) rfl)) rfl
theorem w_ml_C_364 : Cond.methodLink "RustFamily" 364 ⟨"RustFamily$Keepers", "cheapestOf", "(LRustFamily$Family;I)I"⟩ ∈ m_tb := m_in (m_t5 (List.mem_of_getElem? (i := 158) rfl)) rfl
theorem w_ml_C_367 : Cond.methodLink "RustFamily" 367 ⟨"RustFamily$Keepers", "askAround", "(LRustFamily$Family;I)V"⟩ ∈ m_tb := m_in (m_t5 (List.mem_of_getElem? (i := 170) rfl)) rfl
theorem w_ml_C_374 : Cond.methodLink "RustFamily" 374 ⟨"java/lang/Integer", "bitCount", "(I)I"⟩ ∈ m_tb := m_in (m_t5 (List.mem_of_getElem? (i := 125) rfl)) rfl
theorem w_ml_C_379 : Cond.methodLink "RustFamily" 379 ⟨"RustFamily$Keepers", "countStable", "(LRustFamily$Family;I)I"⟩ ∈ m_tb := m_in (m_t5 (List.mem_of_getElem? (i := 194) rfl)) rfl
theorem w_ml_C_382 : Cond.methodLink "RustFamily" 382 ⟨"RustFamily", "gameStatus", "(IIII)I"⟩ ∈ m_tb := m_in (m_t5 (List.mem_of_getElem? (i := 214) rfl)) rfl
theorem w_ml_C_386 : Cond.methodLink "RustFamily" 386 ⟨"RustFamily$Game", "play", "(LRustFamily$Family;III)I"⟩ ∈ m_tb := m_in (m_t5 (List.mem_of_getElem? (i := 218) rfl)) rfl
theorem w_ml_C_393 : Cond.methodLink "RustFamily" 393 ⟨"RustFamily", "oddsStatus", "(II)I"⟩ ∈ m_tb := m_in (m_t6 (List.mem_of_getElem? (i := 16) rfl)) rfl
theorem w_ml_C_396 : Cond.methodLink "RustFamily" 396 ⟨"RustFamily$Ahead", "spread", "(LRustFamily$Family;II)V"⟩ ∈ m_tb := m_in (m_t6 (List.mem_of_getElem? (i := 20) rfl)) rfl
theorem w_ml_C_400 : Cond.methodLink "RustFamily" 400 ⟨"RustFamily$Ahead", "waysToLast", "(LRustFamily$Thing;I)I"⟩ ∈ m_tb := m_in (m_t6 (List.mem_of_getElem? (i := 28) rfl)) rfl
theorem w_ml_C_407 : Cond.methodLink "RustFamily" 407 ⟨"RustFamily", "tell", "(JJ)V"⟩ ∈ m_tb := m_in (m_t6 (List.mem_of_getElem? (i := 33) rfl)) rfl
theorem w_ml_C_413 : Cond.methodLink "RustFamily" 413 ⟨"RustFamily", "commonDivisor", "(JJ)J"⟩ ∈ m_tb := m_in (m_t6 (List.mem_of_getElem? (i := 37) rfl)) rfl
theorem w_ml_C_417 : Cond.methodLink "RustFamily" 417 ⟨"java/lang/Math", "max", "(JJ)J"⟩ ∈ m_tb := m_in (m_t6 (List.mem_of_getElem? (i := 40) rfl)) rfl
theorem w_ml_C_422 : Cond.methodLink "RustFamily" 422 ⟨"RustFamily$Plan", "run", "(LRustFamily$Family;I)V"⟩ ∈ m_tb := m_in (m_t6 (List.mem_of_getElem? (i := 56) rfl)) rfl
theorem w_ml_C_428 : Cond.methodLink "RustFamily" 428 ⟨"RustFamily$Plan", "isLeft", "()Z"⟩ ∈ m_tb := m_in (m_t6 (List.mem_of_getElem? (i := 101) rfl)) rfl
theorem w_ml_C_434 : Cond.methodLink "RustFamily" 434 ⟨"RustFamily$Family", "copyPeopleAndThings", "(LRustFamily$Family;)V"⟩ ∈ m_tb := m_in (m_t6 (List.mem_of_getElem? (i := 113) rfl)) rfl
theorem w_ml_C_438 : Cond.methodLink "RustFamily" 438 ⟨"RustFamily$Plan", "copyFrom", "(LRustFamily$Plan;)V"⟩ ∈ m_tb := m_in (m_t6 (List.mem_of_getElem? (i := 127) rfl)) rfl
theorem w_ml_C_46 : Cond.methodLink "RustFamily" 46 ⟨"RustFamily$Plan", "<init>", "()V"⟩ ∈ m_tb := m_in (m_t2 (List.mem_of_getElem? (i := 70) rfl)) rfl
theorem w_ml_C_60 : Cond.methodLink "RustFamily" 60 ⟨"RustFamily$Ahead", "<init>", "()V"⟩ ∈ m_tb := m_in (m_t2 (List.mem_of_getElem? (i := 74) rfl)) rfl
theorem w_ml_C_67 : Cond.methodLink "RustFamily" 67 ⟨"RustFamily$Sight", "<init>", "()V"⟩ ∈ m_tb := m_in (m_t2 (List.mem_of_getElem? (i := 99) rfl)) rfl
theorem w_ml_C_74 : Cond.methodLink "RustFamily" 74 ⟨"RustFamily$Keepers", "<init>", "()V"⟩ ∈ m_tb := m_in (m_t2 (List.mem_of_getElem? (i := 116) rfl)) rfl
theorem w_ml_C_81 : Cond.methodLink "RustFamily" 81 ⟨"RustFamily$Game", "<init>", "()V"⟩ ∈ m_tb := m_in (m_t2 (List.mem_of_getElem? (i := 142) rfl)) rfl
theorem w_ml_C_94 : Cond.methodLink "RustFamily" 94 ⟨"RustFamily", "isTray", "(I)Z"⟩ ∈ m_tb := m_in (m_t2 (List.mem_of_getElem? (i := 224) rfl)) rfl
theorem w_ml_C_98 : Cond.methodLink "RustFamily" 98 ⟨"RustFamily$Tray", "lay", "(II)V"⟩ ∈ m_tb := m_in (m_t2 (List.mem_of_getElem? (i := 227) rfl)) rfl
theorem w_ml_M_1 : Cond.methodLink "RustFamilyModel" 1 ⟨"java/lang/Object", "<init>", "()V"⟩ ∈ m_tb := m_in (m_t6 (List.mem_of_getElem? (i := 141) rfl)) rfl
theorem w_ml_M_100 : Cond.methodLink "RustFamilyModel" 100 ⟨"RustFamilyModel", "trayed", "(I)I"⟩ ∈ m_tb := m_in (m_t7 (List.mem_of_getElem? (i := 88) rfl)) rfl
theorem w_ml_M_104 : Cond.methodLink "RustFamilyModel" 104 ⟨"RustFamilyModel", "placed", "(II)I"⟩ ∈ m_tb := m_in (m_t7 (List.mem_of_getElem? (i := 84) rfl)) rfl
theorem w_ml_M_108 : Cond.methodLink "RustFamilyModel" 108 ⟨"RustFamilyModel", "cut", "(IJ)J"⟩ ∈ m_tb := m_in (m_t7 (List.mem_of_getElem? (i := 92) rfl)) rfl
theorem w_ml_M_116 : Cond.methodLink "RustFamilyModel" 116 ⟨"RustFamilyModel", "isIn", "(JJJ)Z"⟩ ∈ m_tb := m_in (m_t7 (List.mem_of_getElem? (i := 178) rfl)) rfl
theorem w_ml_M_120 : Cond.methodLink "RustFamilyModel" 120 ⟨"RustFamilyModel", "has", "(II)Z"⟩ ∈ m_tb := m_in (m_t7 (List.mem_of_getElem? (i := 163) rfl)) rfl
theorem w_ml_M_133 : Cond.methodLink "RustFamilyModel" 133 ⟨"RustFamilyModel", "look2", "(I)I"⟩ ∈ m_tb := m_in (m_t7 (List.mem_of_getElem? (i := 128) rfl)) rfl
theorem w_ml_M_139 : Cond.methodLink "RustFamilyModel" 139 ⟨"RustFamilyModel", "isLetter", "(I)Z"⟩ ∈ m_tb := m_in (m_t7 (List.mem_of_getElem? (i := 132) rfl)) rfl
theorem w_ml_M_152 : Cond.methodLink "RustFamilyModel" 152 ⟨"RustFamilyModel", "isDigit", "(I)Z"⟩ ∈ m_tb := m_in (m_t7 (List.mem_of_getElem? (i := 137) rfl)) rfl
theorem w_ml_M_158 : Cond.methodLink "RustFamilyModel" 158 ⟨"RustFamilyModel", "isSignByte", "(I)Z"⟩ ∈ m_tb := m_in (m_t7 (List.mem_of_getElem? (i := 140) rfl)) rfl
theorem w_ml_M_161 : Cond.methodLink "RustFamilyModel" 161 ⟨"RustFamilyModel", "spelled", "(IIIIII)J"⟩ ∈ m_tb := m_in (m_t7 (List.mem_of_getElem? (i := 152) rfl)) rfl
theorem w_ml_M_165 : Cond.methodLink "RustFamilyModel" 165 ⟨"RustFamilyModel", "isWord", "(J)Z"⟩ ∈ m_tb := m_in (m_t7 (List.mem_of_getElem? (i := 155) rfl)) rfl
theorem w_ml_M_169 : Cond.methodLink "RustFamilyModel" 169 ⟨"RustFamilyModel", "isLoves", "()Z"⟩ ∈ m_tb := m_in (m_t7 (List.mem_of_getElem? (i := 233) rfl)) rfl
theorem w_ml_M_173 : Cond.methodLink "RustFamilyModel" 173 ⟨"RustFamilyModel", "isDamp", "()Z"⟩ ∈ m_tb := m_in (m_t7 (List.mem_of_getElem? (i := 185) rfl)) rfl
theorem w_ml_M_176 : Cond.methodLink "RustFamilyModel" 176 ⟨"RustFamilyModel", "isCoat", "()Z"⟩ ∈ m_tb := m_in (m_t7 (List.mem_of_getElem? (i := 237) rfl)) rfl
theorem w_ml_M_181 : Cond.methodLink "RustFamilyModel" 181 ⟨"RustFamilyModel", "isShows", "()Z"⟩ ∈ m_tb := m_in (m_t7 (List.mem_of_getElem? (i := 148) rfl)) rfl
theorem w_ml_M_184 : Cond.methodLink "RustFamilyModel" 184 ⟨"RustFamilyModel", "isLife", "()Z"⟩ ∈ m_tb := m_in (m_t7 (List.mem_of_getElem? (i := 181) rfl)) rfl
theorem w_ml_M_187 : Cond.methodLink "RustFamilyModel" 187 ⟨"RustFamilyModel", "isBreath", "()Z"⟩ ∈ m_tb := m_in (m_t7 (List.mem_of_getElem? (i := 189) rfl)) rfl
theorem w_ml_M_190 : Cond.methodLink "RustFamilyModel" 190 ⟨"RustFamilyModel", "isPerson", "()Z"⟩ ∈ m_tb := m_in (m_t7 (List.mem_of_getElem? (i := 193) rfl)) rfl
theorem w_ml_M_193 : Cond.methodLink "RustFamilyModel" 193 ⟨"RustFamilyModel", "isAge", "()Z"⟩ ∈ m_tb := m_in (m_t7 (List.mem_of_getElem? (i := 213) rfl)) rfl
theorem w_ml_M_196 : Cond.methodLink "RustFamilyModel" 196 ⟨"RustFamilyModel", "isOf", "()Z"⟩ ∈ m_tb := m_in (m_t7 (List.mem_of_getElem? (i := 217) rfl)) rfl
theorem w_ml_M_199 : Cond.methodLink "RustFamilyModel" 199 ⟨"RustFamilyModel", "isThing", "()Z"⟩ ∈ m_tb := m_in (m_t7 (List.mem_of_getElem? (i := 221) rfl)) rfl
theorem w_ml_M_202 : Cond.methodLink "RustFamilyModel" 202 ⟨"RustFamilyModel", "isThick", "()Z"⟩ ∈ m_tb := m_in (m_t7 (List.mem_of_getElem? (i := 225) rfl)) rfl
theorem w_ml_M_205 : Cond.methodLink "RustFamilyModel" 205 ⟨"RustFamilyModel", "stepWord", "()I"⟩ ∈ m_tb := m_in (m_t7 (List.mem_of_getElem? (i := 229) rfl)) rfl
theorem w_ml_M_209 : Cond.methodLink "RustFamilyModel" 209 ⟨"RustFamilyModel", "testWord", "()I"⟩ ∈ m_tb := m_in (m_t8 (List.mem_of_getElem? (i := 1) rfl)) rfl
theorem w_ml_M_212 : Cond.methodLink "RustFamilyModel" 212 ⟨"RustFamilyModel", "isEnd", "()Z"⟩ ∈ m_tb := m_in (m_t8 (List.mem_of_getElem? (i := 6) rfl)) rfl
theorem w_ml_M_215 : Cond.methodLink "RustFamilyModel" 215 ⟨"RustFamilyModel", "isKept", "()Z"⟩ ∈ m_tb := m_in (m_t7 (List.mem_of_getElem? (i := 209) rfl)) rfl
theorem w_ml_M_224 : Cond.methodLink "RustFamilyModel" 224 ⟨"RustFamilyModel", "fail", "(II)V"⟩ ∈ m_tb := m_in (m_t7 (List.mem_of_getElem? (i := 166) rfl)) rfl
theorem w_ml_M_228 : Cond.methodLink "RustFamilyModel" 228 ⟨"RustFamilyModel", "advance", "()V"⟩ ∈ m_tb := m_in (m_t7 (List.mem_of_getElem? (i := 124) rfl)) rfl
theorem w_ml_M_231 : Cond.methodLink "RustFamilyModel" 231 ⟨"RustFamilyModel", "amiss", "()V"⟩ ∈ m_tb := m_in (m_t7 (List.mem_of_getElem? (i := 174) rfl)) rfl
theorem w_ml_M_234 : Cond.methodLink "RustFamilyModel" 234 ⟨"RustFamilyModel", "must", "(Z)V"⟩ ∈ m_tb := m_in (m_t8 (List.mem_of_getElem? (i := 18) rfl)) rfl
theorem w_ml_M_238 : Cond.methodLink "RustFamilyModel" 238 ⟨"RustFamilyModel", "count", "(II)I"⟩ ∈ m_tb := m_in (m_t7 (List.mem_of_getElem? (i := 170) rfl)) rfl
theorem w_ml_M_244 : Cond.methodLink "RustFamilyModel" 244 ⟨"RustFamilyModel", "lay", "(I)V"⟩ ∈ m_tb := m_in (m_t7 (List.mem_of_getElem? (i := 108) rfl)) rfl
theorem w_ml_M_247 : Cond.methodLink "RustFamilyModel" 247 ⟨"RustFamilyModel", "isName", "()Z"⟩ ∈ m_tb := m_in (m_t7 (List.mem_of_getElem? (i := 205) rfl)) rfl
theorem w_ml_M_250 : Cond.methodLink "RustFamilyModel" 250 ⟨"RustFamilyModel", "named", "(II)I"⟩ ∈ m_tb := m_in (m_t8 (List.mem_of_getElem? (i := 10) rfl)) rfl
theorem w_ml_M_253 : Cond.methodLink "RustFamilyModel" 253 ⟨"java/lang/Math", "max", "(II)I"⟩ ∈ m_tb := m_in (m_t8 (List.mem_of_getElem? (i := 38) rfl)) rfl
theorem w_ml_M_259 : Cond.methodLink "RustFamilyModel" 259 ⟨"RustFamilyModel", "readNew", "(II)I"⟩ ∈ m_tb := m_in (m_t7 (List.mem_of_getElem? (i := 201) rfl)) rfl
theorem w_ml_M_262 : Cond.methodLink "RustFamilyModel" 262 ⟨"RustFamilyModel", "behindWord", "(ZII)I"⟩ ∈ m_tb := m_in (m_t8 (List.mem_of_getElem? (i := 14) rfl)) rfl
theorem w_ml_M_266 : Cond.methodLink "RustFamilyModel" 266 ⟨"RustFamilyModel", "perhaps", "(Z)Z"⟩ ∈ m_tb := m_in (m_t8 (List.mem_of_getElem? (i := 22) rfl)) rfl
theorem w_ml_M_270 : Cond.methodLink "RustFamilyModel" 270 ⟨"RustFamilyModel", "readTold", "(II)I"⟩ ∈ m_tb := m_in (m_t8 (List.mem_of_getElem? (i := 34) rfl)) rfl
theorem w_ml_M_273 : Cond.methodLink "RustFamilyModel" 273 ⟨"RustFamilyModel", "readOnce", "(III)V"⟩ ∈ m_tb := m_in (m_t7 (List.mem_of_getElem? (i := 159) rfl)) rfl
theorem w_ml_M_277 : Cond.methodLink "RustFamilyModel" 277 ⟨"RustFamilyModel", "readPerson", "()V"⟩ ∈ m_tb := m_in (m_t7 (List.mem_of_getElem? (i := 197) rfl)) rfl
theorem w_ml_M_280 : Cond.methodLink "RustFamilyModel" 280 ⟨"RustFamilyModel", "readThing", "()V"⟩ ∈ m_tb := m_in (m_t8 (List.mem_of_getElem? (i := 26) rfl)) rfl
theorem w_ml_M_283 : Cond.methodLink "RustFamilyModel" 283 ⟨"RustFamilyModel", "readLoves", "()V"⟩ ∈ m_tb := m_in (m_t8 (List.mem_of_getElem? (i := 30) rfl)) rfl
theorem w_ml_M_286 : Cond.methodLink "RustFamilyModel" 286 ⟨"RustFamilyModel", "starts", "(II)Z"⟩ ∈ m_tb := m_in (m_t7 (List.mem_of_getElem? (i := 120) rfl)) rfl
theorem w_ml_M_289 : Cond.methodLink "RustFamilyModel" 289 ⟨"RustFamilyModel", "readPart", "()V"⟩ ∈ m_tb := m_in (m_t7 (List.mem_of_getElem? (i := 144) rfl)) rfl
theorem w_ml_M_292 : Cond.methodLink "RustFamilyModel" 292 ⟨"RustFamilyModel", "isSign", "(I)Z"⟩ ∈ m_tb := m_in (m_t8 (List.mem_of_getElem? (i := 39) rfl)) rfl
theorem w_ml_M_295 : Cond.methodLink "RustFamilyModel" 295 ⟨"RustFamilyModel", "isWell", "()Z"⟩ ∈ m_tb := m_in (m_t8 (List.mem_of_getElem? (i := 43) rfl)) rfl
theorem w_ml_M_298 : Cond.methodLink "RustFamilyModel" 298 ⟨"RustFamilyModel", "copy", "(II)V"⟩ ∈ m_tb := m_in (m_t8 (List.mem_of_getElem? (i := 47) rfl)) rfl
theorem w_ml_M_301 : Cond.methodLink "RustFamilyModel" 301 ⟨"RustFamilyModel", "readTest", "(I)V"⟩ ∈ m_tb := m_in (m_t8 (List.mem_of_getElem? (i := 63) rfl)) rfl
theorem w_ml_M_307 : Cond.methodLink "RustFamilyModel" 307 ⟨"RustFamilyModel", "readRest", "(I)V"⟩ ∈ m_tb := m_in (m_t8 (List.mem_of_getElem? (i := 59) rfl)) rfl
theorem w_ml_M_310 : Cond.methodLink "RustFamilyModel" 310 ⟨"RustFamilyModel", "readStep", "(I)V"⟩ ∈ m_tb := m_in (m_t8 (List.mem_of_getElem? (i := 55) rfl)) rfl
theorem w_ml_M_313 : Cond.methodLink "RustFamilyModel" 313 ⟨"RustFamilyModel", "showsNow", "(I)Z"⟩ ∈ m_tb := m_in (m_t8 (List.mem_of_getElem? (i := 84) rfl)) rfl
theorem w_ml_M_316 : Cond.methodLink "RustFamilyModel" 316 ⟨"RustFamilyModel", "loveOf", "(II)I"⟩ ∈ m_tb := m_in (m_t8 (List.mem_of_getElem? (i := 117) rfl)) rfl
theorem w_ml_M_319 : Cond.methodLink "RustFamilyModel" 319 ⟨"RustFamilyModel", "isThrough", "(I)Z"⟩ ∈ m_tb := m_in (m_t8 (List.mem_of_getElem? (i := 92) rfl)) rfl
theorem w_ml_M_322 : Cond.methodLink "RustFamilyModel" 322 ⟨"RustFamilyModel", "lovedOf", "(I)I"⟩ ∈ m_tb := m_in (m_t8 (List.mem_of_getElem? (i := 130) rfl)) rfl
theorem w_ml_M_325 : Cond.methodLink "RustFamilyModel" 325 ⟨"RustFamilyModel", "bitten", "(IIZ)I"⟩ ∈ m_tb := m_in (m_t8 (List.mem_of_getElem? (i := 138) rfl)) rfl
theorem w_ml_M_331 : Cond.methodLink "RustFamilyModel" 331 ⟨"RustFamilyModel", "refuse", "(I)I"⟩ ∈ m_tb := m_in (m_t8 (List.mem_of_getElem? (i := 72) rfl)) rfl
theorem w_ml_M_334 : Cond.methodLink "RustFamilyModel" 334 ⟨"RustFamilyModel", "living", "()I"⟩ ∈ m_tb := m_in (m_t8 (List.mem_of_getElem? (i := 76) rfl)) rfl
theorem w_ml_M_337 : Cond.methodLink "RustFamilyModel" 337 ⟨"RustFamilyModel", "showing", "()I"⟩ ∈ m_tb := m_in (m_t8 (List.mem_of_getElem? (i := 80) rfl)) rfl
theorem w_ml_M_340 : Cond.methodLink "RustFamilyModel" 340 ⟨"RustFamilyModel", "throughs", "()I"⟩ ∈ m_tb := m_in (m_t8 (List.mem_of_getElem? (i := 88) rfl)) rfl
theorem w_ml_M_343 : Cond.methodLink "RustFamilyModel" 343 ⟨"RustFamilyModel", "oiled", "()I"⟩ ∈ m_tb := m_in (m_t8 (List.mem_of_getElem? (i := 96) rfl)) rfl
theorem w_ml_M_346 : Cond.methodLink "RustFamilyModel" 346 ⟨"RustFamilyModel", "allRust", "()I"⟩ ∈ m_tb := m_in (m_t8 (List.mem_of_getElem? (i := 100) rfl)) rfl
theorem w_ml_M_349 : Cond.methodLink "RustFamilyModel" 349 ⟨"RustFamilyModel", "isPersonAt", "(I)Z"⟩ ∈ m_tb := m_in (m_t8 (List.mem_of_getElem? (i := 108) rfl)) rfl
theorem w_ml_M_354 : Cond.methodLink "RustFamilyModel" 354 ⟨"RustFamilyModel", "lovedThings", "(I)I"⟩ ∈ m_tb := m_in (m_t8 (List.mem_of_getElem? (i := 113) rfl)) rfl
theorem w_ml_M_357 : Cond.methodLink "RustFamilyModel" 357 ⟨"RustFamilyModel", "isThingAt", "(I)Z"⟩ ∈ m_tb := m_in (m_t8 (List.mem_of_getElem? (i := 125) rfl)) rfl
theorem w_ml_M_362 : Cond.methodLink "RustFamilyModel" 362 ⟨"RustFamilyModel", "biteOf", "(I)I"⟩ ∈ m_tb := m_in (m_t8 (List.mem_of_getElem? (i := 134) rfl)) rfl
theorem w_ml_M_365 : Cond.methodLink "RustFamilyModel" 365 ⟨"RustFamilyModel", "isTray", "(I)Z"⟩ ∈ m_tb := m_in (m_t8 (List.mem_of_getElem? (i := 149) rfl)) rfl
theorem w_ml_M_368 : Cond.methodLink "RustFamilyModel" 368 ⟨"RustFamilyModel", "write", "(IIJ)Z"⟩ ∈ m_tb := m_in (m_t8 (List.mem_of_getElem? (i := 154) rfl)) rfl
theorem w_ml_M_375 : Cond.methodLink "RustFamilyModel" 375 ⟨"java/lang/Math", "min", "(II)I"⟩ ∈ m_tb := m_in (m_t8 (List.mem_of_getElem? (i := 172) rfl)) rfl
theorem w_ml_M_378 : Cond.methodLink "RustFamilyModel" 378 ⟨"RustFamilyModel", "ages", "()V"⟩ ∈ m_tb := m_in (m_t8 (List.mem_of_getElem? (i := 164) rfl)) rfl
theorem w_ml_M_381 : Cond.methodLink "RustFamilyModel" 381 ⟨"RustFamilyModel", "isBitten", "(II)V"⟩ ∈ m_tb := m_in (m_t8 (List.mem_of_getElem? (i := 168) rfl)) rfl
theorem w_ml_M_386 : Cond.methodLink "RustFamilyModel" 386 ⟨"RustFamilyModel", "goesYear", "()V"⟩ ∈ m_tb := m_in (m_t8 (List.mem_of_getElem? (i := 160) rfl)) rfl
theorem w_ml_M_393 : Cond.methodLink "RustFamilyModel" 393 ⟨"RustFamilyModel", "coats", "(II)I"⟩ ∈ m_tb := m_in (m_t8 (List.mem_of_getElem? (i := 187) rfl)) rfl
theorem w_ml_M_396 : Cond.methodLink "RustFamilyModel" 396 ⟨"RustFamilyModel", "mends", "(I)I"⟩ ∈ m_tb := m_in (m_t8 (List.mem_of_getElem? (i := 195) rfl)) rfl
theorem w_ml_M_399 : Cond.methodLink "RustFamilyModel" 399 ⟨"RustFamilyModel", "breathed", "(I)Z"⟩ ∈ m_tb := m_in (m_t8 (List.mem_of_getElem? (i := 203) rfl)) rfl
theorem w_ml_M_412 : Cond.methodLink "RustFamilyModel" 412 ⟨"RustFamilyModel", "isAhead", "(I)Z"⟩ ∈ m_tb := m_in (m_t8 (List.mem_of_getElem? (i := 227) rfl)) rfl
theorem w_ml_M_415 : Cond.methodLink "RustFamilyModel" 415 ⟨"RustFamilyModel", "puts", "()V"⟩ ∈ m_tb := m_in (m_t8 (List.mem_of_getElem? (i := 231) rfl)) rfl
theorem w_ml_M_418 : Cond.methodLink "RustFamilyModel" 418 ⟨"RustFamilyModel", "gives", "()V"⟩ ∈ m_tb := m_in (m_t8 (List.mem_of_getElem? (i := 235) rfl)) rfl
theorem w_ml_M_424 : Cond.methodLink "RustFamilyModel" 424 ⟨"RustFamilyModel", "throughOf", "(I)I"⟩ ∈ m_tb := m_in (m_t9 (List.mem_of_getElem? (i := 3) rfl)) rfl
theorem w_ml_M_429 : Cond.methodLink "RustFamilyModel" 429 ⟨"RustFamilyModel", "sizeOf", "(I)I"⟩ ∈ m_tb := m_in (m_t9 (List.mem_of_getElem? (i := 36) rfl)) rfl
theorem w_ml_M_432 : Cond.methodLink "RustFamilyModel" 432 ⟨"RustFamilyModel", "lastsBy", "(III)Z"⟩ ∈ m_tb := m_in (m_t9 (List.mem_of_getElem? (i := 39) rfl)) rfl
theorem w_ml_M_436 : Cond.methodLink "RustFamilyModel" 436 ⟨"RustFamilyModel", "jarsOf", "(II)I"⟩ ∈ m_tb := m_in (m_t9 (List.mem_of_getElem? (i := 32) rfl)) rfl
theorem w_ml_M_441 : Cond.methodLink "RustFamilyModel" 441 ⟨"RustFamilyModel", "numberOf", "(II)J"⟩ ∈ m_tb := m_in (m_t9 (List.mem_of_getElem? (i := 60) rfl)) rfl
theorem w_ml_M_448 : Cond.methodLink "RustFamilyModel" 448 ⟨"RustFamilyModel", "isSeen", "(III)Z"⟩ ∈ m_tb := m_in (m_t9 (List.mem_of_getElem? (i := 68) rfl)) rfl
theorem w_ml_M_451 : Cond.methodLink "RustFamilyModel" 451 ⟨"RustFamilyModel", "whyNotSeen", "(II)I"⟩ ∈ m_tb := m_in (m_t9 (List.mem_of_getElem? (i := 55) rfl)) rfl
theorem w_ml_M_454 : Cond.methodLink "RustFamilyModel" 454 ⟨"RustFamilyModel", "laysSeen", "(II)V"⟩ ∈ m_tb := m_in (m_t9 (List.mem_of_getElem? (i := 64) rfl)) rfl
theorem w_ml_M_457 : Cond.methodLink "RustFamilyModel" 457 ⟨"RustFamilyModel", "unlike", "(I)I"⟩ ∈ m_tb := m_in (m_t9 (List.mem_of_getElem? (i := 80) rfl)) rfl
theorem w_ml_M_463 : Cond.methodLink "RustFamilyModel" 463 ⟨"RustFamilyModel", "keepings", "(IIII)V"⟩ ∈ m_tb := m_in (m_t9 (List.mem_of_getElem? (i := 96) rfl)) rfl
theorem w_ml_M_467 : Cond.methodLink "RustFamilyModel" 467 ⟨"RustFamilyModel", "arePeople", "(I)Z"⟩ ∈ m_tb := m_in (m_t9 (List.mem_of_getElem? (i := 88) rfl)) rfl
theorem w_ml_M_470 : Cond.methodLink "RustFamilyModel" 470 ⟨"RustFamilyModel", "canKeep", "(I)Z"⟩ ∈ m_tb := m_in (m_t9 (List.mem_of_getElem? (i := 92) rfl)) rfl
theorem w_ml_M_473 : Cond.methodLink "RustFamilyModel" 473 ⟨"RustFamilyModel", "nextAsked", "(I)I"⟩ ∈ m_tb := m_in (m_t9 (List.mem_of_getElem? (i := 116) rfl)) rfl
theorem w_ml_M_476 : Cond.methodLink "RustFamilyModel" 476 ⟨"RustFamilyModel", "asker", "(I)I"⟩ ∈ m_tb := m_in (m_t9 (List.mem_of_getElem? (i := 112) rfl)) rfl
theorem w_ml_M_479 : Cond.methodLink "RustFamilyModel" 479 ⟨"RustFamilyModel", "laysStable", "(I)V"⟩ ∈ m_tb := m_in (m_t9 (List.mem_of_getElem? (i := 108) rfl)) rfl
theorem w_ml_M_482 : Cond.methodLink "RustFamilyModel" 482 ⟨"RustFamilyModel", "wouldTake", "(III)Z"⟩ ∈ m_tb := m_in (m_t9 (List.mem_of_getElem? (i := 132) rfl)) rfl
theorem w_ml_M_485 : Cond.methodLink "RustFamilyModel" 485 ⟨"RustFamilyModel", "isStable", "(I)Z"⟩ ∈ m_tb := m_in (m_t9 (List.mem_of_getElem? (i := 128) rfl)) rfl
theorem w_ml_M_488 : Cond.methodLink "RustFamilyModel" 488 ⟨"RustFamilyModel", "stablesOf", "(III)I"⟩ ∈ m_tb := m_in (m_t9 (List.mem_of_getElem? (i := 124) rfl)) rfl
theorem w_ml_M_492 : Cond.methodLink "RustFamilyModel" 492 ⟨"RustFamilyModel", "laysTurn", "(I)V"⟩ ∈ m_tb := m_in (m_t9 (List.mem_of_getElem? (i := 148) rfl)) rfl
theorem w_ml_M_495 : Cond.methodLink "RustFamilyModel" 495 ⟨"RustFamilyModel", "moves", "(III)Z"⟩ ∈ m_tb := m_in (m_t9 (List.mem_of_getElem? (i := 152) rfl)) rfl
theorem w_ml_M_498 : Cond.methodLink "RustFamilyModel" 498 ⟨"RustFamilyModel", "plays", "(IIII)I"⟩ ∈ m_tb := m_in (m_t9 (List.mem_of_getElem? (i := 144) rfl)) rfl
theorem w_ml_M_502 : Cond.methodLink "RustFamilyModel" 502 ⟨"RustFamilyModel", "takesTurn", "(I)V"⟩ ∈ m_tb := m_in (m_t9 (List.mem_of_getElem? (i := 156) rfl)) rfl
theorem w_ml_M_508 : Cond.methodLink "RustFamilyModel" 508 ⟨"RustFamilyModel", "whyNoGame", "(IIII)I"⟩ ∈ m_tb := m_in (m_t9 (List.mem_of_getElem? (i := 140) rfl)) rfl
theorem w_ml_M_516 : Cond.methodLink "RustFamilyModel" 516 ⟨"RustFamilyModel", "laysBites", "(II)V"⟩ ∈ m_tb := m_in (m_t9 (List.mem_of_getElem? (i := 168) rfl)) rfl
theorem w_ml_M_519 : Cond.methodLink "RustFamilyModel" 519 ⟨"RustFamilyModel", "lastsIf", "(II)J"⟩ ∈ m_tb := m_in (m_t9 (List.mem_of_getElem? (i := 173) rfl)) rfl
theorem w_ml_M_522 : Cond.methodLink "RustFamilyModel" 522 ⟨"RustFamilyModel", "fraction", "(JJ)Z"⟩ ∈ m_tb := m_in (m_t9 (List.mem_of_getElem? (i := 177) rfl)) rfl
theorem w_ml_M_536 : Cond.methodLink "RustFamilyModel" 536 ⟨"RustFamilyModel", "draw", "(I)I"⟩ ∈ m_tb := m_in (m_t9 (List.mem_of_getElem? (i := 225) rfl)) rfl
theorem w_ml_M_539 : Cond.methodLink "RustFamilyModel" 539 ⟨"RustFamilyModel", "isBreathed", "(I)Z"⟩ ∈ m_tb := m_in (m_t9 (List.mem_of_getElem? (i := 230) rfl)) rfl
theorem w_ml_M_542 : Cond.methodLink "RustFamilyModel" 542 ⟨"RustFamilyModel", "anyYears", "(I)Z"⟩ ∈ m_tb := m_in (m_t9 (List.mem_of_getElem? (i := 213) rfl)) rfl
theorem w_ml_M_545 : Cond.methodLink "RustFamilyModel" 545 ⟨"RustFamilyModel", "becomes", "(II)Z"⟩ ∈ m_tb := m_in (m_t9 (List.mem_of_getElem? (i := 217) rfl)) rfl
theorem w_ml_M_548 : Cond.methodLink "RustFamilyModel" 548 ⟨"RustFamilyModel", "isAny", "()Z"⟩ ∈ m_tb := m_in (m_t9 (List.mem_of_getElem? (i := 221) rfl)) rfl
theorem w_ml_M_551 : Cond.methodLink "RustFamilyModel" 551 ⟨"RustFamilyModel", "onThing", "(III)Z"⟩ ∈ m_tb := m_in (m_t9 (List.mem_of_getElem? (i := 234) rfl)) rfl
theorem w_ml_M_567 : Cond.methodLink "RustFamilyModel" 567 ⟨"RustFamilyModel", "does", "(I)Z"⟩ ∈ m_tb := m_in (m_t9 (List.mem_of_getElem? (i := 209) rfl)) rfl
theorem w_ml_M_570 : Cond.methodLink "RustFamilyModel" 570 ⟨"RustFamilyModel", "isSo", "(I)Z"⟩ ∈ m_tb := m_in (m_t9 (List.mem_of_getElem? (i := 238) rfl)) rfl
theorem w_ml_M_573 : Cond.methodLink "RustFamilyModel" 573 ⟨"RustFamilyModel", "doAll", "(II)V"⟩ ∈ m_tb := m_in (m_t9 (List.mem_of_getElem? (i := 201) rfl)) rfl
theorem w_ml_M_576 : Cond.methodLink "RustFamilyModel" 576 ⟨"RustFamilyModel", "doOne", "(I)V"⟩ ∈ m_tb := m_in (m_t9 (List.mem_of_getElem? (i := 205) rfl)) rfl
theorem w_ml_M_581 : Cond.methodLink "RustFamilyModel" 581 ⟨"RustFamilyModel", "runsYears", "(I)V"⟩ ∈ m_tb := m_in (m_t9 (List.mem_of_getElem? (i := 197) rfl)) rfl
theorem w_ml_M_77 : Cond.methodLink "RustFamilyModel" 77 ⟨"RustFamilyModel", "empties", "(I)V"⟩ ∈ m_tb := m_in (m_t6 (List.mem_of_getElem? (i := 142) rfl)) rfl
theorem w_ml_M_90 : Cond.methodLink "RustFamilyModel" 90 ⟨"java/lang/Math", "abs", "(J)J"⟩ ∈ m_tb := m_in (m_t9 (List.mem_of_getElem? (i := 181) rfl)) rfl
theorem w_ml_M_96 : Cond.methodLink "RustFamilyModel" 96 ⟨"RustFamilyModel", "no", "(I)Z"⟩ ∈ m_tb := m_in (m_t7 (List.mem_of_getElem? (i := 76) rfl)) rfl
theorem w_na_java_lang_System_arraycopy : Cond.native ⟨"java/lang/System", "arraycopy", "(Ljava/lang/Object;ILjava/lang/Object;II)V"⟩ ∈ m_tb := m_in (m_t3 (List.mem_of_getElem? (i := 33) rfl)) rfl
theorem w_st_Ke_isFree : Cond.static ⟨"RustFamily$Keepers", "isFree", "(LRustFamily$Family;II)Z"⟩ ∈ m_tb := m_in (m_t5 (List.mem_of_getElem? (i := 142) rfl)) rfl
theorem w_st_Pl_actDamp : Cond.static ⟨"RustFamily$Plan", "actDamp", "(LRustFamily$Family;I)Z"⟩ ∈ m_tb := m_in (m_t6 (List.mem_of_getElem? (i := 76) rfl)) rfl
theorem w_st_Pl_actLove : Cond.static ⟨"RustFamily$Plan", "actLove", "(LRustFamily$Person;II)Z"⟩ ∈ m_tb := m_in (m_t6 (List.mem_of_getElem? (i := 79) rfl)) rfl
theorem w_st_Pl_actOn : Cond.static ⟨"RustFamily$Plan", "actOn", "(LRustFamily$Thing;II)Z"⟩ ∈ m_tb := m_in (m_t6 (List.mem_of_getElem? (i := 92) rfl)) rfl
theorem w_st_Re_clear : Cond.static ⟨"RustFamily$Reader", "clear", "(LRustFamily$Family;)V"⟩ ∈ m_tb := m_in (m_t3 (List.mem_of_getElem? (i := 77) rfl)) rfl
theorem w_st_Re_closeBlock : Cond.static ⟨"RustFamily$Reader", "closeBlock", "(LRustFamily$Text;LRustFamily$Plan;)Z"⟩ ∈ m_tb := m_in (m_t4 (List.mem_of_getElem? (i := 10) rfl)) rfl
theorem w_st_Re_isNew : Cond.static ⟨"RustFamily$Reader", "isNew", "(LRustFamily$Family;J)Z"⟩ ∈ m_tb := m_in (m_t3 (List.mem_of_getElem? (i := 148) rfl)) rfl
theorem w_st_Re_openStep : Cond.static ⟨"RustFamily$Reader", "openStep", "(LRustFamily$Text;LRustFamily$Plan;I)Z"⟩ ∈ m_tb := m_in (m_t4 (List.mem_of_getElem? (i := 14) rfl)) rfl
theorem w_st_Re_setDefaults : Cond.static ⟨"RustFamily$Reader", "setDefaults", "(LRustFamily$Family;)V"⟩ ∈ m_tb := m_in (m_t3 (List.mem_of_getElem? (i := 84) rfl)) rfl
theorem w_st_Re_stepKind : Cond.static ⟨"RustFamily$Reader", "stepKind", "(LRustFamily$Text;)I"⟩ ∈ m_tb := m_in (m_t4 (List.mem_of_getElem? (i := 38) rfl)) rfl
theorem w_st_Re_takeCompares : Cond.static ⟨"RustFamily$Reader", "takeCompares", "(LRustFamily$Text;LRustFamily$Plan;)Z"⟩ ∈ m_tb := m_in (m_t4 (List.mem_of_getElem? (i := 32) rfl)) rfl
theorem w_st_Re_takeFamily : Cond.static ⟨"RustFamily$Reader", "takeFamily", "(LRustFamily$Text;LRustFamily$Family;)Z"⟩ ∈ m_tb := m_in (m_t3 (List.mem_of_getElem? (i := 74) rfl)) rfl
theorem w_st_Re_takeLove : Cond.static ⟨"RustFamily$Reader", "takeLove", "(LRustFamily$Text;LRustFamily$Family;)Z"⟩ ∈ m_tb := m_in (m_t3 (List.mem_of_getElem? (i := 225) rfl)) rfl
theorem w_st_Re_takeMuch : Cond.static ⟨"RustFamily$Reader", "takeMuch", "(LRustFamily$Text;LRustFamily$Plan;II)Z"⟩ ∈ m_tb := m_in (m_t4 (List.mem_of_getElem? (i := 35) rfl)) rfl
theorem w_st_Re_takeOnce : Cond.static ⟨"RustFamily$Reader", "takeOnce", "(LRustFamily$Text;III)Z"⟩ ∈ m_tb := m_in (m_t3 (List.mem_of_getElem? (i := 232) rfl)) rfl
theorem w_st_Re_takePerson : Cond.static ⟨"RustFamily$Reader", "takePerson", "(LRustFamily$Text;LRustFamily$Family;)Z"⟩ ∈ m_tb := m_in (m_t3 (List.mem_of_getElem? (i := 140) rfl)) rfl
theorem w_st_Re_takePersonName : Cond.static ⟨"RustFamily$Reader", "takePersonName", "(LRustFamily$Text;LRustFamily$Family;LRustFamily$Plan;)Z"⟩ ∈ m_tb := m_in (m_t4 (List.mem_of_getElem? (i := 28) rfl)) rfl
theorem w_st_Re_takePlan : Cond.static ⟨"RustFamily$Reader", "takePlan", "(LRustFamily$Text;LRustFamily$Family;LRustFamily$Plan;)Z"⟩ ∈ m_tb := m_in (m_t4 (List.mem_of_getElem? (i := 2) rfl)) rfl
theorem w_st_Re_takeRest : Cond.static ⟨"RustFamily$Reader", "takeRest", "(LRustFamily$Text;LRustFamily$Family;LRustFamily$Plan;)Z"⟩ ∈ m_tb := m_in (m_t4 (List.mem_of_getElem? (i := 47) rfl)) rfl
theorem w_st_Re_takeRule : Cond.static ⟨"RustFamily$Reader", "takeRule", "(LRustFamily$Text;LRustFamily$Family;)Z"⟩ ∈ m_tb := m_in (m_t3 (List.mem_of_getElem? (i := 228) rfl)) rfl
theorem w_st_Re_takeTest : Cond.static ⟨"RustFamily$Reader", "takeTest", "(LRustFamily$Text;LRustFamily$Family;LRustFamily$Plan;)Z"⟩ ∈ m_tb := m_in (m_t4 (List.mem_of_getElem? (i := 21) rfl)) rfl
theorem w_st_Re_takeThing : Cond.static ⟨"RustFamily$Reader", "takeThing", "(LRustFamily$Text;LRustFamily$Family;)Z"⟩ ∈ m_tb := m_in (m_t3 (List.mem_of_getElem? (i := 215) rfl)) rfl
theorem w_st_Re_takeThingName : Cond.static ⟨"RustFamily$Reader", "takeThingName", "(LRustFamily$Text;LRustFamily$Family;LRustFamily$Plan;)Z"⟩ ∈ m_tb := m_in (m_t4 (List.mem_of_getElem? (i := 25) rfl)) rfl
theorem w_st_Si_fitsAll : Cond.static ⟨"RustFamily$Sight", "fitsAll", "(I[JI)Z"⟩ ∈ m_tb := m_in (m_t5 (List.mem_of_getElem? (i := 82) rfl)) rfl
theorem w_st_Tx_isDigit : Cond.static ⟨"RustFamily$Text", "isDigit", "(B)Z"⟩ ∈ m_tb := m_in (m_t3 (List.mem_of_getElem? (i := 67) rfl)) rfl
theorem w_st_Tx_isLetter : Cond.static ⟨"RustFamily$Text", "isLetter", "(B)Z"⟩ ∈ m_tb := m_in (m_t3 (List.mem_of_getElem? (i := 59) rfl)) rfl
theorem w_st_Th_biteBy : Cond.static ⟨"RustFamily$Thing", "biteBy", "(IIZ)I"⟩ ∈ m_tb := m_in (m_t4 (List.mem_of_getElem? (i := 121) rfl)) rfl
theorem w_st_C_areTwos : Cond.static ⟨"RustFamily", "areTwos", "([JI)Z"⟩ ∈ m_tb := m_in (m_t5 (List.mem_of_getElem? (i := 68) rfl)) rfl
theorem w_st_C_canRule : Cond.static ⟨"RustFamily", "canRule", "(II)Z"⟩ ∈ m_tb := m_in (m_t4 (List.mem_of_getElem? (i := 217) rfl)) rfl
theorem w_st_C_commonDivisor : Cond.static ⟨"RustFamily", "commonDivisor", "(JJ)J"⟩ ∈ m_tb := m_in (m_t6 (List.mem_of_getElem? (i := 38) rfl)) rfl
theorem w_st_C_isSet : Cond.static ⟨"RustFamily", "isSet", "(II)Z"⟩ ∈ m_tb := m_in (m_t5 (List.mem_of_getElem? (i := 52) rfl)) rfl
theorem w_st_C_isTray : Cond.static ⟨"RustFamily", "isTray", "(I)Z"⟩ ∈ m_tb := m_in (m_t2 (List.mem_of_getElem? (i := 225) rfl)) rfl
theorem w_st_C_isWithin : Cond.static ⟨"RustFamily", "isWithin", "(III)Z"⟩ ∈ m_tb := m_in (m_t3 (List.mem_of_getElem? (i := 199) rfl)) rfl
theorem w_st_M_bitten : Cond.static ⟨"RustFamilyModel", "bitten", "(IIZ)I"⟩ ∈ m_tb := m_in (m_t8 (List.mem_of_getElem? (i := 139) rfl)) rfl
theorem w_st_M_cut : Cond.static ⟨"RustFamilyModel", "cut", "(IJ)J"⟩ ∈ m_tb := m_in (m_t7 (List.mem_of_getElem? (i := 93) rfl)) rfl
theorem w_st_M_has : Cond.static ⟨"RustFamilyModel", "has", "(II)Z"⟩ ∈ m_tb := m_in (m_t7 (List.mem_of_getElem? (i := 164) rfl)) rfl
theorem w_st_M_isAhead : Cond.static ⟨"RustFamilyModel", "isAhead", "(I)Z"⟩ ∈ m_tb := m_in (m_t8 (List.mem_of_getElem? (i := 228) rfl)) rfl
theorem w_st_M_isDigit : Cond.static ⟨"RustFamilyModel", "isDigit", "(I)Z"⟩ ∈ m_tb := m_in (m_t7 (List.mem_of_getElem? (i := 138) rfl)) rfl
theorem w_st_M_isIn : Cond.static ⟨"RustFamilyModel", "isIn", "(JJJ)Z"⟩ ∈ m_tb := m_in (m_t7 (List.mem_of_getElem? (i := 179) rfl)) rfl
theorem w_st_M_isLetter : Cond.static ⟨"RustFamilyModel", "isLetter", "(I)Z"⟩ ∈ m_tb := m_in (m_t7 (List.mem_of_getElem? (i := 133) rfl)) rfl
theorem w_st_M_sizeOf : Cond.static ⟨"RustFamilyModel", "sizeOf", "(I)I"⟩ ∈ m_tb := m_in (m_t9 (List.mem_of_getElem? (i := 37) rfl)) rfl
theorem w_st_M_spelled : Cond.static ⟨"RustFamilyModel", "spelled", "(IIIIII)J"⟩ ∈ m_tb := m_in (m_t7 (List.mem_of_getElem? (i := 153) rfl)) rfl
theorem w_st_JI_bitCount : Cond.static ⟨"java/lang/Integer", "bitCount", "(I)I"⟩ ∈ m_tb := m_in (m_t5 (List.mem_of_getElem? (i := 76) rfl)) rfl
theorem w_st_mabsJ : Cond.static ⟨"java/lang/Math", "abs", "(J)J"⟩ ∈ m_tb := m_in (m_t9 (List.mem_of_getElem? (i := 182) rfl)) rfl
theorem w_st_mmax : Cond.static ⟨"java/lang/Math", "max", "(II)I"⟩ ∈ m_tb := m_in (m_t4 (List.mem_of_getElem? (i := 159) rfl)) rfl
theorem w_st_mmaxJ : Cond.static ⟨"java/lang/Math", "max", "(JJ)J"⟩ ∈ m_tb := m_in (m_t6 (List.mem_of_getElem? (i := 41) rfl)) rfl
theorem w_st_mmin : Cond.static ⟨"java/lang/Math", "min", "(II)I"⟩ ∈ m_tb := m_in (m_t4 (List.mem_of_getElem? (i := 156) rfl)) rfl
theorem w_st_java_lang_System_arraycopy : Cond.static ⟨"java/lang/System", "arraycopy", "(Ljava/lang/Object;ILjava/lang/Object;II)V"⟩ ∈ m_tb := m_in (m_t3 (List.mem_of_getElem? (i := 32) rfl)) rfl
theorem w_st_JA_fill_aII : Cond.static ⟨"java/util/Arrays", "fill", "([II)V"⟩ ∈ m_tb := m_in (m_t3 (List.mem_of_getElem? (i := 211) rfl)) rfl
theorem w_st_JA_fill_aJJ : Cond.static ⟨"java/util/Arrays", "fill", "([JJ)V"⟩ ∈ m_tb := m_in (m_t2 (List.mem_of_getElem? (i := 232) rfl)) rfl
theorem w_se_C_status : Cond.selects "RustFamily" ⟨"RustFamily", "status", "()I"⟩ ⟨"RustFamily", "status", "()I"⟩ ∈ m_tb := m_in (m_t2 (List.mem_of_getElem? (i := 210) rfl)) rfl
theorem w_se_C_top : Cond.selects "RustFamily" ⟨"RustFamily", "top", "()J"⟩ ⟨"RustFamily", "top", "()J"⟩ ∈ m_tb := m_in (m_t2 (List.mem_of_getElem? (i := 214) rfl)) rfl
theorem w_se_C_bottom : Cond.selects "RustFamily" ⟨"RustFamily", "bottom", "()J"⟩ ⟨"RustFamily", "bottom", "()J"⟩ ∈ m_tb := m_in (m_t2 (List.mem_of_getElem? (i := 218) rfl)) rfl
theorem w_se_C_tray : Cond.selects "RustFamily" ⟨"RustFamily", "tray", "(III)Z"⟩ ⟨"RustFamily", "tray", "(III)Z"⟩ ∈ m_tb := m_in (m_t2 (List.mem_of_getElem? (i := 222) rfl)) rfl
theorem w_se_Tr_lay : Cond.selects "RustFamily$Tray" ⟨"RustFamily$Tray", "lay", "(II)V"⟩ ⟨"RustFamily$Tray", "lay", "(II)V"⟩ ∈ m_tb := m_in (m_t2 (List.mem_of_getElem? (i := 229) rfl)) rfl
theorem w_se_C_write : Cond.selects "RustFamily" ⟨"RustFamily", "write", "(IIJ)Z"⟩ ⟨"RustFamily", "write", "(IIJ)Z"⟩ ∈ m_tb := m_in (m_t2 (List.mem_of_getElem? (i := 236) rfl)) rfl
theorem w_se_C_placeStatus : Cond.selects "RustFamily" ⟨"RustFamily", "placeStatus", "(II)I"⟩ ⟨"RustFamily", "placeStatus", "(II)I"⟩ ∈ m_tb := m_inS (List.mem_of_getElem? (i := 0) rfl) rfl
theorem w_se_C_trayStatus : Cond.selects "RustFamily" ⟨"RustFamily", "trayStatus", "(I)I"⟩ ⟨"RustFamily", "trayStatus", "(I)I"⟩ ∈ m_tb := m_inS (List.mem_of_getElem? (i := 1) rfl) rfl
theorem w_se_Tr_isMissing : Cond.selects "RustFamily$Tray" ⟨"RustFamily$Tray", "isMissing", "()Z"⟩ ⟨"RustFamily$Tray", "isMissing", "()Z"⟩ ∈ m_tb := m_in (m_t3 (List.mem_of_getElem? (i := 8) rfl)) rfl
theorem w_se_Tr_holds : Cond.selects "RustFamily$Tray" ⟨"RustFamily$Tray", "holds", "(II)Z"⟩ ⟨"RustFamily$Tray", "holds", "(II)Z"⟩ ∈ m_tb := m_in (m_t3 (List.mem_of_getElem? (i := 12) rfl)) rfl
theorem w_se_Tr_put : Cond.selects "RustFamily$Tray" ⟨"RustFamily$Tray", "put", "(IJ)V"⟩ ⟨"RustFamily$Tray", "put", "(IJ)V"⟩ ∈ m_tb := m_in (m_t3 (List.mem_of_getElem? (i := 16) rfl)) rfl
theorem w_se_C_read : Cond.selects "RustFamily" ⟨"RustFamily", "read", "(II)J"⟩ ⟨"RustFamily", "read", "(II)J"⟩ ∈ m_tb := m_in (m_t3 (List.mem_of_getElem? (i := 20) rfl)) rfl
theorem w_se_C_pour : Cond.selects "RustFamily" ⟨"RustFamily", "pour", "(IIIII)Z"⟩ ⟨"RustFamily", "pour", "(IIIII)Z"⟩ ∈ m_tb := m_in (m_t3 (List.mem_of_getElem? (i := 25) rfl)) rfl
theorem w_se_C_pourStatus : Cond.selects "RustFamily" ⟨"RustFamily", "pourStatus", "(IIIII)I"⟩ ⟨"RustFamily", "pourStatus", "(IIIII)I"⟩ ∈ m_tb := m_inS (List.mem_of_getElem? (i := 2) rfl) rfl
theorem w_se_C_feed : Cond.selects "RustFamily" ⟨"RustFamily", "feed", "(IIIII)I"⟩ ⟨"RustFamily", "feed", "(IIIII)I"⟩ ∈ m_tb := m_in (m_t3 (List.mem_of_getElem? (i := 36) rfl)) rfl
theorem w_se_Tx_put : Cond.selects "RustFamily$Text" ⟨"RustFamily$Text", "put", "(I)V"⟩ ⟨"RustFamily$Text", "put", "(I)V"⟩ ∈ m_tb := m_in (m_t3 (List.mem_of_getElem? (i := 40) rfl)) rfl
theorem w_se_C_family : Cond.selects "RustFamily" ⟨"RustFamily", "family", "(I)I"⟩ ⟨"RustFamily", "family", "(I)I"⟩ ∈ m_tb := m_in (m_t3 (List.mem_of_getElem? (i := 44) rfl)) rfl
theorem w_se_Tx_open : Cond.selects "RustFamily$Text" ⟨"RustFamily$Text", "open", "(I)V"⟩ ⟨"RustFamily$Text", "open", "(I)V"⟩ ∈ m_tb := m_in (m_t3 (List.mem_of_getElem? (i := 48) rfl)) rfl
theorem w_se_Tx_advance : Cond.selects "RustFamily$Text" ⟨"RustFamily$Text", "advance", "()V"⟩ ⟨"RustFamily$Text", "advance", "()V"⟩ ∈ m_tb := m_in (m_t3 (List.mem_of_getElem? (i := 52) rfl)) rfl
theorem w_se_Tx_skipBlanks : Cond.selects "RustFamily$Text" ⟨"RustFamily$Text", "skipBlanks", "()V"⟩ ⟨"RustFamily$Text", "skipBlanks", "()V"⟩ ∈ m_tb := m_inS (List.mem_of_getElem? (i := 3) rfl) rfl
theorem w_se_Tx_scanWord : Cond.selects "RustFamily$Text" ⟨"RustFamily$Text", "scanWord", "()V"⟩ ⟨"RustFamily$Text", "scanWord", "()V"⟩ ∈ m_tb := m_inS (List.mem_of_getElem? (i := 4) rfl) rfl
theorem w_se_Tx_scanNumber : Cond.selects "RustFamily$Text" ⟨"RustFamily$Text", "scanNumber", "()V"⟩ ⟨"RustFamily$Text", "scanNumber", "()V"⟩ ∈ m_tb := m_inS (List.mem_of_getElem? (i := 5) rfl) rfl
theorem w_se_Pl_clear : Cond.selects "RustFamily$Plan" ⟨"RustFamily$Plan", "clear", "()V"⟩ ⟨"RustFamily$Plan", "clear", "()V"⟩ ∈ m_tb := m_in (m_t3 (List.mem_of_getElem? (i := 81) rfl)) rfl
theorem w_se_Tx_is : Cond.selects "RustFamily$Text" ⟨"RustFamily$Text", "is", "(Ljava/lang/String;)Z"⟩ ⟨"RustFamily$Text", "is", "(Ljava/lang/String;)Z"⟩ ∈ m_tb := m_in (m_t3 (List.mem_of_getElem? (i := 89) rfl)) rfl
theorem w_se_Tx_refuse : Cond.selects "RustFamily$Text" ⟨"RustFamily$Text", "refuse", "(I)Z"⟩ ⟨"RustFamily$Text", "refuse", "(I)Z"⟩ ∈ m_tb := m_in (m_t3 (List.mem_of_getElem? (i := 144) rfl)) rfl
theorem w_se_Fa_personNamed : Cond.selects "RustFamily$Family" ⟨"RustFamily$Family", "personNamed", "(J)I"⟩ ⟨"RustFamily$Family", "personNamed", "(J)I"⟩ ∈ m_tb := m_in (m_t3 (List.mem_of_getElem? (i := 152) rfl)) rfl
theorem w_se_Fa_thingNamed : Cond.selects "RustFamily$Family" ⟨"RustFamily$Family", "thingNamed", "(J)I"⟩ ⟨"RustFamily$Family", "thingNamed", "(J)I"⟩ ∈ m_tb := m_in (m_t3 (List.mem_of_getElem? (i := 156) rfl)) rfl
theorem w_se_Tx_takeName : Cond.selects "RustFamily$Text" ⟨"RustFamily$Text", "takeName", "(Z)Z"⟩ ⟨"RustFamily$Text", "takeName", "(Z)Z"⟩ ∈ m_tb := m_in (m_t3 (List.mem_of_getElem? (i := 160) rfl)) rfl
theorem w_se_Tx_isReserved : Cond.selects "RustFamily$Text" ⟨"RustFamily$Text", "isReserved", "()Z"⟩ ⟨"RustFamily$Text", "isReserved", "()Z"⟩ ∈ m_tb := m_inS (List.mem_of_getElem? (i := 6) rfl) rfl
theorem w_se_Tx_takeWord : Cond.selects "RustFamily$Text" ⟨"RustFamily$Text", "takeWord", "(Ljava/lang/String;)Z"⟩ ⟨"RustFamily$Text", "takeWord", "(Ljava/lang/String;)Z"⟩ ∈ m_tb := m_in (m_t3 (List.mem_of_getElem? (i := 192) rfl)) rfl
theorem w_se_Tx_takeNumber : Cond.selects "RustFamily$Text" ⟨"RustFamily$Text", "takeNumber", "(II)Z"⟩ ⟨"RustFamily$Text", "takeNumber", "(II)Z"⟩ ∈ m_tb := m_in (m_t3 (List.mem_of_getElem? (i := 196) rfl)) rfl
theorem w_se_Tx_takeEndSign : Cond.selects "RustFamily$Text" ⟨"RustFamily$Text", "takeEndSign", "()Z"⟩ ⟨"RustFamily$Text", "takeEndSign", "()Z"⟩ ∈ m_tb := m_in (m_t3 (List.mem_of_getElem? (i := 204) rfl)) rfl
theorem w_se_Fa_addPerson : Cond.selects "RustFamily$Family" ⟨"RustFamily$Family", "addPerson", "(JIZ)V"⟩ ⟨"RustFamily$Family", "addPerson", "(JIZ)V"⟩ ∈ m_tb := m_in (m_t3 (List.mem_of_getElem? (i := 208) rfl)) rfl
theorem w_se_Fa_addThing : Cond.selects "RustFamily$Family" ⟨"RustFamily$Family", "addThing", "(JII)V"⟩ ⟨"RustFamily$Family", "addThing", "(JII)V"⟩ ∈ m_tb := m_in (m_t3 (List.mem_of_getElem? (i := 221) rfl)) rfl
theorem w_se_C_years : Cond.selects "RustFamily" ⟨"RustFamily", "years", "(I)I"⟩ ⟨"RustFamily", "years", "(I)I"⟩ ∈ m_tb := m_in (m_t3 (List.mem_of_getElem? (i := 239) rfl)) rfl
theorem w_se_Pl_latestOpen : Cond.selects "RustFamily$Plan" ⟨"RustFamily$Plan", "latestOpen", "()I"⟩ ⟨"RustFamily$Plan", "latestOpen", "()I"⟩ ∈ m_tb := m_in (m_t4 (List.mem_of_getElem? (i := 6) rfl)) rfl
theorem w_se_Pl_openBlocks : Cond.selects "RustFamily$Plan" ⟨"RustFamily$Plan", "openBlocks", "()I"⟩ ⟨"RustFamily$Plan", "openBlocks", "()I"⟩ ∈ m_tb := m_in (m_t4 (List.mem_of_getElem? (i := 18) rfl)) rfl
theorem w_se_C_fault : Cond.selects "RustFamily" ⟨"RustFamily", "fault", "(I)I"⟩ ⟨"RustFamily", "fault", "(I)I"⟩ ∈ m_tb := m_in (m_t4 (List.mem_of_getElem? (i := 51) rfl)) rfl
theorem w_se_C_many : Cond.selects "RustFamily" ⟨"RustFamily", "many", "(I)I"⟩ ⟨"RustFamily", "many", "(I)I"⟩ ∈ m_tb := m_in (m_t4 (List.mem_of_getElem? (i := 55) rfl)) rfl
theorem w_se_Fa_livingSet : Cond.selects "RustFamily$Family" ⟨"RustFamily$Family", "livingSet", "()I"⟩ ⟨"RustFamily$Family", "livingSet", "()I"⟩ ∈ m_tb := m_in (m_t4 (List.mem_of_getElem? (i := 59) rfl)) rfl
theorem w_se_Fa_showingSet : Cond.selects "RustFamily$Family" ⟨"RustFamily$Family", "showingSet", "(I)I"⟩ ⟨"RustFamily$Family", "showingSet", "(I)I"⟩ ∈ m_tb := m_in (m_t4 (List.mem_of_getElem? (i := 63) rfl)) rfl
theorem w_se_Fa_showsAhead : Cond.selects "RustFamily$Family" ⟨"RustFamily$Family", "showsAhead", "(II)Z"⟩ ⟨"RustFamily$Family", "showsAhead", "(II)Z"⟩ ∈ m_tb := m_in (m_t4 (List.mem_of_getElem? (i := 67) rfl)) rfl
theorem w_se_Fa_throughSet : Cond.selects "RustFamily$Family" ⟨"RustFamily$Family", "throughSet", "()I"⟩ ⟨"RustFamily$Family", "throughSet", "()I"⟩ ∈ m_tb := m_in (m_t4 (List.mem_of_getElem? (i := 71) rfl)) rfl
theorem w_se_Th_isThrough : Cond.selects "RustFamily$Thing" ⟨"RustFamily$Thing", "isThrough", "()Z"⟩ ⟨"RustFamily$Thing", "isThrough", "()Z"⟩ ∈ m_tb := m_in (m_t4 (List.mem_of_getElem? (i := 75) rfl)) rfl
theorem w_se_Fa_oiledSet : Cond.selects "RustFamily$Family" ⟨"RustFamily$Family", "oiledSet", "()I"⟩ ⟨"RustFamily$Family", "oiledSet", "()I"⟩ ∈ m_tb := m_in (m_t4 (List.mem_of_getElem? (i := 79) rfl)) rfl
theorem w_se_Fa_allRust : Cond.selects "RustFamily$Family" ⟨"RustFamily$Family", "allRust", "()I"⟩ ⟨"RustFamily$Family", "allRust", "()I"⟩ ∈ m_tb := m_in (m_t4 (List.mem_of_getElem? (i := 83) rfl)) rfl
theorem w_se_C_person : Cond.selects "RustFamily" ⟨"RustFamily", "person", "(II)I"⟩ ⟨"RustFamily", "person", "(II)I"⟩ ∈ m_tb := m_in (m_t4 (List.mem_of_getElem? (i := 87) rfl)) rfl
theorem w_se_C_isPerson : Cond.selects "RustFamily" ⟨"RustFamily", "isPerson", "(I)Z"⟩ ⟨"RustFamily", "isPerson", "(I)Z"⟩ ∈ m_tb := m_inS (List.mem_of_getElem? (i := 7) rfl) rfl
theorem w_se_Pe_lovedSet : Cond.selects "RustFamily$Person" ⟨"RustFamily$Person", "lovedSet", "(I)I"⟩ ⟨"RustFamily$Person", "lovedSet", "(I)I"⟩ ∈ m_tb := m_in (m_t4 (List.mem_of_getElem? (i := 96) rfl)) rfl
theorem w_se_C_thing : Cond.selects "RustFamily" ⟨"RustFamily", "thing", "(II)I"⟩ ⟨"RustFamily", "thing", "(II)I"⟩ ∈ m_tb := m_in (m_t4 (List.mem_of_getElem? (i := 100) rfl)) rfl
theorem w_se_C_isThing : Cond.selects "RustFamily" ⟨"RustFamily", "isThing", "(I)Z"⟩ ⟨"RustFamily", "isThing", "(I)Z"⟩ ∈ m_tb := m_inS (List.mem_of_getElem? (i := 8) rfl) rfl
theorem w_se_Fa_lovedAhead : Cond.selects "RustFamily$Family" ⟨"RustFamily$Family", "lovedAhead", "(II)I"⟩ ⟨"RustFamily$Family", "lovedAhead", "(II)I"⟩ ∈ m_tb := m_in (m_t4 (List.mem_of_getElem? (i := 108) rfl)) rfl
theorem w_se_Fa_lovedBy : Cond.selects "RustFamily$Family" ⟨"RustFamily$Family", "lovedBy", "(II)I"⟩ ⟨"RustFamily$Family", "lovedBy", "(II)I"⟩ ∈ m_tb := m_in (m_t4 (List.mem_of_getElem? (i := 113) rfl)) rfl
theorem w_se_Th_bite : Cond.selects "RustFamily$Thing" ⟨"RustFamily$Thing", "bite", "(II)I"⟩ ⟨"RustFamily$Thing", "bite", "(II)I"⟩ ∈ m_tb := m_in (m_t4 (List.mem_of_getElem? (i := 117) rfl)) rfl
theorem w_se_C_love : Cond.selects "RustFamily" ⟨"RustFamily", "love", "(II)I"⟩ ⟨"RustFamily", "love", "(II)I"⟩ ∈ m_tb := m_in (m_t4 (List.mem_of_getElem? (i := 126) rfl)) rfl
theorem w_se_C_pairStatus : Cond.selects "RustFamily" ⟨"RustFamily", "pairStatus", "(II)I"⟩ ⟨"RustFamily", "pairStatus", "(II)I"⟩ ∈ m_tb := m_inS (List.mem_of_getElem? (i := 9) rfl) rfl
theorem w_se_C_copyRust : Cond.selects "RustFamily" ⟨"RustFamily", "copyRust", "(I)I"⟩ ⟨"RustFamily", "copyRust", "(I)I"⟩ ∈ m_tb := m_in (m_t4 (List.mem_of_getElem? (i := 134) rfl)) rfl
theorem w_se_C_year : Cond.selects "RustFamily" ⟨"RustFamily", "year", "(I)I"⟩ ⟨"RustFamily", "year", "(I)I"⟩ ∈ m_tb := m_in (m_t4 (List.mem_of_getElem? (i := 138) rfl)) rfl
theorem w_se_Fa_passYears : Cond.selects "RustFamily$Family" ⟨"RustFamily$Family", "passYears", "(I)Z"⟩ ⟨"RustFamily$Family", "passYears", "(I)Z"⟩ ∈ m_tb := m_in (m_t4 (List.mem_of_getElem? (i := 143) rfl)) rfl
theorem w_se_Fa_passYear : Cond.selects "RustFamily$Family" ⟨"RustFamily$Family", "passYear", "()V"⟩ ⟨"RustFamily$Family", "passYear", "()V"⟩ ∈ m_tb := m_inS (List.mem_of_getElem? (i := 10) rfl) rfl
theorem w_se_Th_passYear : Cond.selects "RustFamily$Thing" ⟨"RustFamily$Thing", "passYear", "(II)V"⟩ ⟨"RustFamily$Thing", "passYear", "(II)V"⟩ ∈ m_tb := m_in (m_t4 (List.mem_of_getElem? (i := 152) rfl)) rfl
theorem w_se_C_dote : Cond.selects "RustFamily" ⟨"RustFamily", "dote", "(III)I"⟩ ⟨"RustFamily", "dote", "(III)I"⟩ ∈ m_tb := m_in (m_t4 (List.mem_of_getElem? (i := 164) rfl)) rfl
theorem w_se_C_oil : Cond.selects "RustFamily" ⟨"RustFamily", "oil", "(I)I"⟩ ⟨"RustFamily", "oil", "(I)I"⟩ ∈ m_tb := m_in (m_t4 (List.mem_of_getElem? (i := 168) rfl)) rfl
theorem w_se_C_wholeStatus : Cond.selects "RustFamily" ⟨"RustFamily", "wholeStatus", "(I)I"⟩ ⟨"RustFamily", "wholeStatus", "(I)I"⟩ ∈ m_tb := m_inS (List.mem_of_getElem? (i := 11) rfl) rfl
theorem w_se_Th_putOil : Cond.selects "RustFamily$Thing" ⟨"RustFamily$Thing", "putOil", "()V"⟩ ⟨"RustFamily$Thing", "putOil", "()V"⟩ ∈ m_tb := m_in (m_t4 (List.mem_of_getElem? (i := 176) rfl)) rfl
theorem w_se_C_coat : Cond.selects "RustFamily" ⟨"RustFamily", "coat", "(II)I"⟩ ⟨"RustFamily", "coat", "(II)I"⟩ ∈ m_tb := m_in (m_t4 (List.mem_of_getElem? (i := 180) rfl)) rfl
theorem w_se_Th_putCoat : Cond.selects "RustFamily$Thing" ⟨"RustFamily$Thing", "putCoat", "(I)V"⟩ ⟨"RustFamily$Thing", "putCoat", "(I)V"⟩ ∈ m_tb := m_in (m_t4 (List.mem_of_getElem? (i := 184) rfl)) rfl
theorem w_se_C_mend : Cond.selects "RustFamily" ⟨"RustFamily", "mend", "(I)I"⟩ ⟨"RustFamily", "mend", "(I)I"⟩ ∈ m_tb := m_in (m_t4 (List.mem_of_getElem? (i := 188) rfl)) rfl
theorem w_se_Th_halveRust : Cond.selects "RustFamily$Thing" ⟨"RustFamily$Thing", "halveRust", "()V"⟩ ⟨"RustFamily$Thing", "halveRust", "()V"⟩ ∈ m_tb := m_in (m_t4 (List.mem_of_getElem? (i := 192) rfl)) rfl
theorem w_se_C_breathe : Cond.selects "RustFamily" ⟨"RustFamily", "breathe", "(I)I"⟩ ⟨"RustFamily", "breathe", "(I)I"⟩ ∈ m_tb := m_in (m_t4 (List.mem_of_getElem? (i := 196) rfl)) rfl
theorem w_se_Th_takeBreath : Cond.selects "RustFamily$Thing" ⟨"RustFamily$Thing", "takeBreath", "(I)V"⟩ ⟨"RustFamily$Thing", "takeBreath", "(I)V"⟩ ∈ m_tb := m_in (m_t4 (List.mem_of_getElem? (i := 200) rfl)) rfl
theorem w_se_C_forge : Cond.selects "RustFamily" ⟨"RustFamily", "forge", "(I)I"⟩ ⟨"RustFamily", "forge", "(I)I"⟩ ∈ m_tb := m_in (m_t4 (List.mem_of_getElem? (i := 204) rfl)) rfl
theorem w_se_C_born : Cond.selects "RustFamily" ⟨"RustFamily", "born", "(IZ)I"⟩ ⟨"RustFamily", "born", "(IZ)I"⟩ ∈ m_tb := m_in (m_t4 (List.mem_of_getElem? (i := 209) rfl)) rfl
theorem w_se_C_rule : Cond.selects "RustFamily" ⟨"RustFamily", "rule", "(II)Z"⟩ ⟨"RustFamily", "rule", "(II)Z"⟩ ∈ m_tb := m_in (m_t4 (List.mem_of_getElem? (i := 214) rfl)) rfl
theorem w_se_C_rustIn : Cond.selects "RustFamily" ⟨"RustFamily", "rustIn", "(II)I"⟩ ⟨"RustFamily", "rustIn", "(II)I"⟩ ∈ m_tb := m_in (m_t4 (List.mem_of_getElem? (i := 221) rfl)) rfl
theorem w_se_Ah_rustAfter : Cond.selects "RustFamily$Ahead" ⟨"RustFamily$Ahead", "rustAfter", "(LRustFamily$Family;II)I"⟩ ⟨"RustFamily$Ahead", "rustAfter", "(LRustFamily$Family;II)I"⟩ ∈ m_tb := m_in (m_t4 (List.mem_of_getElem? (i := 225) rfl)) rfl
theorem w_se_Ah_walk : Cond.selects "RustFamily$Ahead" ⟨"RustFamily$Ahead", "walk", "(LRustFamily$Family;IIII)I"⟩ ⟨"RustFamily$Ahead", "walk", "(LRustFamily$Family;IIII)I"⟩ ∈ m_tb := m_in (m_t4 (List.mem_of_getElem? (i := 229) rfl)) rfl
theorem w_se_Th_copyFrom : Cond.selects "RustFamily$Thing" ⟨"RustFamily$Thing", "copyFrom", "(LRustFamily$Thing;)V"⟩ ⟨"RustFamily$Thing", "copyFrom", "(LRustFamily$Thing;)V"⟩ ∈ m_tb := m_in (m_t4 (List.mem_of_getElem? (i := 233) rfl)) rfl
theorem w_se_C_throughIn : Cond.selects "RustFamily" ⟨"RustFamily", "throughIn", "(I)I"⟩ ⟨"RustFamily", "throughIn", "(I)I"⟩ ∈ m_tb := m_in (m_t5 (List.mem_of_getElem? (i := 1) rfl)) rfl
theorem w_se_C_orNone : Cond.selects "RustFamily" ⟨"RustFamily", "orNone", "(I)I"⟩ ⟨"RustFamily", "orNone", "(I)I"⟩ ∈ m_tb := m_inS (List.mem_of_getElem? (i := 12) rfl) rfl
theorem w_se_C_firstThrough : Cond.selects "RustFamily" ⟨"RustFamily", "firstThrough", "()I"⟩ ⟨"RustFamily", "firstThrough", "()I"⟩ ∈ m_tb := m_in (m_t5 (List.mem_of_getElem? (i := 10) rfl)) rfl
theorem w_se_C_throughBy : Cond.selects "RustFamily" ⟨"RustFamily", "throughBy", "(I)I"⟩ ⟨"RustFamily", "throughBy", "(I)I"⟩ ∈ m_tb := m_in (m_t5 (List.mem_of_getElem? (i := 14) rfl)) rfl
theorem w_se_C_showsIn : Cond.selects "RustFamily" ⟨"RustFamily", "showsIn", "(I)I"⟩ ⟨"RustFamily", "showsIn", "(I)I"⟩ ∈ m_tb := m_in (m_t5 (List.mem_of_getElem? (i := 18) rfl)) rfl
theorem w_se_C_diesIn : Cond.selects "RustFamily" ⟨"RustFamily", "diesIn", "(I)I"⟩ ⟨"RustFamily", "diesIn", "(I)I"⟩ ∈ m_tb := m_in (m_t5 (List.mem_of_getElem? (i := 23) rfl)) rfl
theorem w_se_C_worst : Cond.selects "RustFamily" ⟨"RustFamily", "worst", "(I)I"⟩ ⟨"RustFamily", "worst", "(I)I"⟩ ∈ m_tb := m_in (m_t5 (List.mem_of_getElem? (i := 27) rfl)) rfl
theorem w_se_Ah_allRustWithout : Cond.selects "RustFamily$Ahead" ⟨"RustFamily$Ahead", "allRustWithout", "(LRustFamily$Family;II)I"⟩ ⟨"RustFamily$Ahead", "allRustWithout", "(LRustFamily$Family;II)I"⟩ ∈ m_tb := m_in (m_t5 (List.mem_of_getElem? (i := 31) rfl)) rfl
theorem w_se_C_jars : Cond.selects "RustFamily" ⟨"RustFamily", "jars", "(II)I"⟩ ⟨"RustFamily", "jars", "(II)I"⟩ ∈ m_tb := m_in (m_t5 (List.mem_of_getElem? (i := 35) rfl)) rfl
theorem w_se_Ah_fewestJars : Cond.selects "RustFamily$Ahead" ⟨"RustFamily$Ahead", "fewestJars", "(LRustFamily$Family;II)I"⟩ ⟨"RustFamily$Ahead", "fewestJars", "(LRustFamily$Family;II)I"⟩ ∈ m_tb := m_in (m_t5 (List.mem_of_getElem? (i := 39) rfl)) rfl
theorem w_se_Ah_takeMostSaving : Cond.selects "RustFamily$Ahead" ⟨"RustFamily$Ahead", "takeMostSaving", "(I)I"⟩ ⟨"RustFamily$Ahead", "takeMostSaving", "(I)I"⟩ ∈ m_tb := m_inS (List.mem_of_getElem? (i := 13) rfl) rfl
theorem w_se_C_jarsFor : Cond.selects "RustFamily" ⟨"RustFamily", "jarsFor", "(II)I"⟩ ⟨"RustFamily", "jarsFor", "(II)I"⟩ ∈ m_tb := m_in (m_t5 (List.mem_of_getElem? (i := 49) rfl)) rfl
theorem w_se_C_less : Cond.selects "RustFamily" ⟨"RustFamily", "less", "(III)I"⟩ ⟨"RustFamily", "less", "(III)I"⟩ ∈ m_tb := m_in (m_t5 (List.mem_of_getElem? (i := 56) rfl)) rfl
theorem w_se_C_seen : Cond.selects "RustFamily" ⟨"RustFamily", "seen", "(II)I"⟩ ⟨"RustFamily", "seen", "(II)I"⟩ ∈ m_tb := m_in (m_t5 (List.mem_of_getElem? (i := 60) rfl)) rfl
theorem w_se_C_seenStatus : Cond.selects "RustFamily" ⟨"RustFamily", "seenStatus", "(II)I"⟩ ⟨"RustFamily", "seenStatus", "(II)I"⟩ ∈ m_tb := m_inS (List.mem_of_getElem? (i := 14) rfl) rfl
theorem w_se_Si_look : Cond.selects "RustFamily$Sight" ⟨"RustFamily$Sight", "look", "(I[JI)V"⟩ ⟨"RustFamily$Sight", "look", "(I[JI)V"⟩ ∈ m_tb := m_in (m_t5 (List.mem_of_getElem? (i := 73) rfl)) rfl
theorem w_se_Si_ways : Cond.selects "RustFamily$Sight" ⟨"RustFamily$Sight", "ways", "()I"⟩ ⟨"RustFamily$Sight", "ways", "()I"⟩ ∈ m_tb := m_in (m_t5 (List.mem_of_getElem? (i := 86) rfl)) rfl
theorem w_se_Si_countSums : Cond.selects "RustFamily$Sight" ⟨"RustFamily$Sight", "countSums", "()V"⟩ ⟨"RustFamily$Sight", "countSums", "()V"⟩ ∈ m_tb := m_inS (List.mem_of_getElem? (i := 15) rfl) rfl
theorem w_se_C_sure : Cond.selects "RustFamily" ⟨"RustFamily", "sure", "(III)I"⟩ ⟨"RustFamily", "sure", "(III)I"⟩ ∈ m_tb := m_in (m_t5 (List.mem_of_getElem? (i := 95) rfl)) rfl
theorem w_se_Si_onlyLove : Cond.selects "RustFamily$Sight" ⟨"RustFamily$Sight", "onlyLove", "()I"⟩ ⟨"RustFamily$Sight", "onlyLove", "()I"⟩ ∈ m_tb := m_in (m_t5 (List.mem_of_getElem? (i := 99) rfl)) rfl
theorem w_se_Si_canLove : Cond.selects "RustFamily$Sight" ⟨"RustFamily$Sight", "canLove", "(I)Z"⟩ ⟨"RustFamily$Sight", "canLove", "(I)Z"⟩ ∈ m_tb := m_inS (List.mem_of_getElem? (i := 16) rfl) rfl
theorem w_se_C_ask : Cond.selects "RustFamily" ⟨"RustFamily", "ask", "(II)I"⟩ ⟨"RustFamily", "ask", "(II)I"⟩ ∈ m_tb := m_in (m_t5 (List.mem_of_getElem? (i := 107) rfl)) rfl
theorem w_se_Si_bestDamp : Cond.selects "RustFamily$Sight" ⟨"RustFamily$Sight", "bestDamp", "()I"⟩ ⟨"RustFamily$Sight", "bestDamp", "()I"⟩ ∈ m_tb := m_in (m_t5 (List.mem_of_getElem? (i := 111) rfl)) rfl
theorem w_se_Si_unlikeBites : Cond.selects "RustFamily$Sight" ⟨"RustFamily$Sight", "unlikeBites", "(I)I"⟩ ⟨"RustFamily$Sight", "unlikeBites", "(I)I"⟩ ∈ m_tb := m_inS (List.mem_of_getElem? (i := 17) rfl) rfl
theorem w_se_C_keeping : Cond.selects "RustFamily" ⟨"RustFamily", "keeping", "(I)I"⟩ ⟨"RustFamily", "keeping", "(I)I"⟩ ∈ m_tb := m_in (m_t5 (List.mem_of_getElem? (i := 119) rfl)) rfl
theorem w_se_C_keepingStatus : Cond.selects "RustFamily" ⟨"RustFamily", "keepingStatus", "(I)I"⟩ ⟨"RustFamily", "keepingStatus", "(I)I"⟩ ∈ m_tb := m_inS (List.mem_of_getElem? (i := 18) rfl) rfl
theorem w_se_Ke_leastLove : Cond.selects "RustFamily$Keepers" ⟨"RustFamily$Keepers", "leastLove", "(LRustFamily$Family;I)I"⟩ ⟨"RustFamily$Keepers", "leastLove", "(LRustFamily$Family;I)I"⟩ ∈ m_tb := m_in (m_t5 (List.mem_of_getElem? (i := 128) rfl)) rfl
theorem w_se_Ke_gather : Cond.selects "RustFamily$Keepers" ⟨"RustFamily$Keepers", "gather", "(LRustFamily$Family;I)V"⟩ ⟨"RustFamily$Keepers", "gather", "(LRustFamily$Family;I)V"⟩ ∈ m_tb := m_inS (List.mem_of_getElem? (i := 19) rfl) rfl
theorem w_se_Ke_leastFrom : Cond.selects "RustFamily$Keepers" ⟨"RustFamily$Keepers", "leastFrom", "(LRustFamily$Family;II)I"⟩ ⟨"RustFamily$Keepers", "leastFrom", "(LRustFamily$Family;II)I"⟩ ∈ m_tb := m_inS (List.mem_of_getElem? (i := 20) rfl) rfl
theorem w_se_Ke_loveAndBehind : Cond.selects "RustFamily$Keepers" ⟨"RustFamily$Keepers", "loveAndBehind", "(LRustFamily$Family;III)I"⟩ ⟨"RustFamily$Keepers", "loveAndBehind", "(LRustFamily$Family;III)I"⟩ ∈ m_tb := m_inS (List.mem_of_getElem? (i := 21) rfl) rfl
theorem w_se_C_keeps : Cond.selects "RustFamily" ⟨"RustFamily", "keeps", "(II)I"⟩ ⟨"RustFamily", "keeps", "(II)I"⟩ ∈ m_tb := m_in (m_t5 (List.mem_of_getElem? (i := 152) rfl)) rfl
theorem w_se_C_memberStatus : Cond.selects "RustFamily" ⟨"RustFamily", "memberStatus", "(II)I"⟩ ⟨"RustFamily", "memberStatus", "(II)I"⟩ ∈ m_tb := m_inS (List.mem_of_getElem? (i := 22) rfl) rfl
theorem w_se_Ke_cheapestOf : Cond.selects "RustFamily$Keepers" ⟨"RustFamily$Keepers", "cheapestOf", "(LRustFamily$Family;I)I"⟩ ⟨"RustFamily$Keepers", "cheapestOf", "(LRustFamily$Family;I)I"⟩ ∈ m_tb := m_in (m_t5 (List.mem_of_getElem? (i := 160) rfl)) rfl
theorem w_se_Ke_firstLeast : Cond.selects "RustFamily$Keepers" ⟨"RustFamily$Keepers", "firstLeast", "(LRustFamily$Family;II)I"⟩ ⟨"RustFamily$Keepers", "firstLeast", "(LRustFamily$Family;II)I"⟩ ∈ m_tb := m_inS (List.mem_of_getElem? (i := 23) rfl) rfl
theorem w_se_C_stable : Cond.selects "RustFamily" ⟨"RustFamily", "stable", "(II)I"⟩ ⟨"RustFamily", "stable", "(II)I"⟩ ∈ m_tb := m_in (m_t5 (List.mem_of_getElem? (i := 168) rfl)) rfl
theorem w_se_Ke_askAround : Cond.selects "RustFamily$Keepers" ⟨"RustFamily$Keepers", "askAround", "(LRustFamily$Family;I)V"⟩ ⟨"RustFamily$Keepers", "askAround", "(LRustFamily$Family;I)V"⟩ ∈ m_tb := m_in (m_t5 (List.mem_of_getElem? (i := 172) rfl)) rfl
theorem w_se_Ke_askOnce : Cond.selects "RustFamily$Keepers" ⟨"RustFamily$Keepers", "askOnce", "(LRustFamily$Family;)Z"⟩ ⟨"RustFamily$Keepers", "askOnce", "(LRustFamily$Family;)Z"⟩ ∈ m_tb := m_inS (List.mem_of_getElem? (i := 24) rfl) rfl
theorem w_se_Ke_mostLoved : Cond.selects "RustFamily$Keepers" ⟨"RustFamily$Keepers", "mostLoved", "(LRustFamily$Family;I)I"⟩ ⟨"RustFamily$Keepers", "mostLoved", "(LRustFamily$Family;I)I"⟩ ∈ m_tb := m_inS (List.mem_of_getElem? (i := 25) rfl) rfl
theorem w_se_Ke_askFor : Cond.selects "RustFamily$Keepers" ⟨"RustFamily$Keepers", "askFor", "(LRustFamily$Family;II)V"⟩ ⟨"RustFamily$Keepers", "askFor", "(LRustFamily$Family;II)V"⟩ ∈ m_tb := m_inS (List.mem_of_getElem? (i := 26) rfl) rfl
theorem w_se_Ke_wouldTake : Cond.selects "RustFamily$Keepers" ⟨"RustFamily$Keepers", "wouldTake", "(LRustFamily$Family;II)Z"⟩ ⟨"RustFamily$Keepers", "wouldTake", "(LRustFamily$Family;II)Z"⟩ ∈ m_tb := m_inS (List.mem_of_getElem? (i := 27) rfl) rfl
theorem w_se_C_stables : Cond.selects "RustFamily" ⟨"RustFamily", "stables", "(I)I"⟩ ⟨"RustFamily", "stables", "(I)I"⟩ ∈ m_tb := m_in (m_t5 (List.mem_of_getElem? (i := 192) rfl)) rfl
theorem w_se_Ke_countStable : Cond.selects "RustFamily$Keepers" ⟨"RustFamily$Keepers", "countStable", "(LRustFamily$Family;I)I"⟩ ⟨"RustFamily$Keepers", "countStable", "(LRustFamily$Family;I)I"⟩ ∈ m_tb := m_in (m_t5 (List.mem_of_getElem? (i := 196) rfl)) rfl
theorem w_se_Ke_countFrom : Cond.selects "RustFamily$Keepers" ⟨"RustFamily$Keepers", "countFrom", "(LRustFamily$Family;I)I"⟩ ⟨"RustFamily$Keepers", "countFrom", "(LRustFamily$Family;I)I"⟩ ∈ m_tb := m_inS (List.mem_of_getElem? (i := 28) rfl) rfl
theorem w_se_Ke_isStable : Cond.selects "RustFamily$Keepers" ⟨"RustFamily$Keepers", "isStable", "(LRustFamily$Family;)Z"⟩ ⟨"RustFamily$Keepers", "isStable", "(LRustFamily$Family;)Z"⟩ ∈ m_tb := m_inS (List.mem_of_getElem? (i := 29) rfl) rfl
theorem w_se_Ke_wouldChange : Cond.selects "RustFamily$Keepers" ⟨"RustFamily$Keepers", "wouldChange", "(LRustFamily$Family;I)Z"⟩ ⟨"RustFamily$Keepers", "wouldChange", "(LRustFamily$Family;I)Z"⟩ ∈ m_tb := m_inS (List.mem_of_getElem? (i := 30) rfl) rfl
theorem w_se_C_game : Cond.selects "RustFamily" ⟨"RustFamily", "game", "(III)I"⟩ ⟨"RustFamily", "game", "(III)I"⟩ ∈ m_tb := m_in (m_t5 (List.mem_of_getElem? (i := 212) rfl)) rfl
theorem w_se_C_gameStatus : Cond.selects "RustFamily" ⟨"RustFamily", "gameStatus", "(IIII)I"⟩ ⟨"RustFamily", "gameStatus", "(IIII)I"⟩ ∈ m_tb := m_inS (List.mem_of_getElem? (i := 31) rfl) rfl
theorem w_se_Ga_play : Cond.selects "RustFamily$Game" ⟨"RustFamily$Game", "play", "(LRustFamily$Family;III)I"⟩ ⟨"RustFamily$Game", "play", "(LRustFamily$Family;III)I"⟩ ∈ m_tb := m_in (m_t5 (List.mem_of_getElem? (i := 220) rfl)) rfl
theorem w_se_Ga_bestFrom : Cond.selects "RustFamily$Game" ⟨"RustFamily$Game", "bestFrom", "(LRustFamily$Family;II)I"⟩ ⟨"RustFamily$Game", "bestFrom", "(LRustFamily$Family;II)I"⟩ ∈ m_tb := m_inS (List.mem_of_getElem? (i := 32) rfl) rfl
theorem w_se_Ga_canMove : Cond.selects "RustFamily$Game" ⟨"RustFamily$Game", "canMove", "(II)Z"⟩ ⟨"RustFamily$Game", "canMove", "(II)Z"⟩ ∈ m_tb := m_inS (List.mem_of_getElem? (i := 33) rfl) rfl
theorem w_se_Ga_otherOf : Cond.selects "RustFamily$Game" ⟨"RustFamily$Game", "otherOf", "(II)LRustFamily$Thing;"⟩ ⟨"RustFamily$Game", "otherOf", "(II)LRustFamily$Thing;"⟩ ∈ m_tb := m_inS (List.mem_of_getElem? (i := 34) rfl) rfl
theorem w_se_Ga_ownOf : Cond.selects "RustFamily$Game" ⟨"RustFamily$Game", "ownOf", "(II)LRustFamily$Thing;"⟩ ⟨"RustFamily$Game", "ownOf", "(II)LRustFamily$Thing;"⟩ ∈ m_tb := m_inS (List.mem_of_getElem? (i := 35) rfl) rfl
theorem w_se_Ga_makeMove : Cond.selects "RustFamily$Game" ⟨"RustFamily$Game", "makeMove", "(LRustFamily$Family;II)V"⟩ ⟨"RustFamily$Game", "makeMove", "(LRustFamily$Family;II)V"⟩ ∈ m_tb := m_inS (List.mem_of_getElem? (i := 36) rfl) rfl
theorem w_se_C_moveOf : Cond.selects "RustFamily" ⟨"RustFamily", "moveOf", "(III)I"⟩ ⟨"RustFamily", "moveOf", "(III)I"⟩ ∈ m_tb := m_in (m_t6 (List.mem_of_getElem? (i := 10) rfl)) rfl
theorem w_se_C_lasts : Cond.selects "RustFamily" ⟨"RustFamily", "lasts", "(II)Z"⟩ ⟨"RustFamily", "lasts", "(II)Z"⟩ ∈ m_tb := m_in (m_t6 (List.mem_of_getElem? (i := 14) rfl)) rfl
theorem w_se_C_oddsStatus : Cond.selects "RustFamily" ⟨"RustFamily", "oddsStatus", "(II)I"⟩ ⟨"RustFamily", "oddsStatus", "(II)I"⟩ ∈ m_tb := m_inS (List.mem_of_getElem? (i := 37) rfl) rfl
theorem w_se_Ah_spread : Cond.selects "RustFamily$Ahead" ⟨"RustFamily$Ahead", "spread", "(LRustFamily$Family;II)V"⟩ ⟨"RustFamily$Ahead", "spread", "(LRustFamily$Family;II)V"⟩ ∈ m_tb := m_in (m_t6 (List.mem_of_getElem? (i := 22) rfl)) rfl
theorem w_se_Ah_spreadYear : Cond.selects "RustFamily$Ahead" ⟨"RustFamily$Ahead", "spreadYear", "(IZ)V"⟩ ⟨"RustFamily$Ahead", "spreadYear", "(IZ)V"⟩ ∈ m_tb := m_inS (List.mem_of_getElem? (i := 38) rfl) rfl
theorem w_se_Ah_waysToLast : Cond.selects "RustFamily$Ahead" ⟨"RustFamily$Ahead", "waysToLast", "(LRustFamily$Thing;I)I"⟩ ⟨"RustFamily$Ahead", "waysToLast", "(LRustFamily$Thing;I)I"⟩ ∈ m_tb := m_in (m_t6 (List.mem_of_getElem? (i := 30) rfl)) rfl
theorem w_se_C_tell : Cond.selects "RustFamily" ⟨"RustFamily", "tell", "(JJ)V"⟩ ⟨"RustFamily", "tell", "(JJ)V"⟩ ∈ m_tb := m_inS (List.mem_of_getElem? (i := 39) rfl) rfl
theorem w_se_C_thickFor : Cond.selects "RustFamily" ⟨"RustFamily", "thickFor", "(III)I"⟩ ⟨"RustFamily", "thickFor", "(III)I"⟩ ∈ m_tb := m_in (m_t6 (List.mem_of_getElem? (i := 45) rfl)) rfl
theorem w_se_C_blame : Cond.selects "RustFamily" ⟨"RustFamily", "blame", "(I)Z"⟩ ⟨"RustFamily", "blame", "(I)Z"⟩ ∈ m_tb := m_in (m_t6 (List.mem_of_getElem? (i := 50) rfl)) rfl
theorem w_se_C_live : Cond.selects "RustFamily" ⟨"RustFamily", "live", "(I)I"⟩ ⟨"RustFamily", "live", "(I)I"⟩ ∈ m_tb := m_in (m_t6 (List.mem_of_getElem? (i := 54) rfl)) rfl
theorem w_se_Pl_run : Cond.selects "RustFamily$Plan" ⟨"RustFamily$Plan", "run", "(LRustFamily$Family;I)V"⟩ ⟨"RustFamily$Plan", "run", "(LRustFamily$Family;I)V"⟩ ∈ m_tb := m_in (m_t6 (List.mem_of_getElem? (i := 58) rfl)) rfl
theorem w_se_Pl_enterLoop : Cond.selects "RustFamily$Plan" ⟨"RustFamily$Plan", "enterLoop", "()V"⟩ ⟨"RustFamily$Plan", "enterLoop", "()V"⟩ ∈ m_tb := m_inS (List.mem_of_getElem? (i := 40) rfl) rfl
theorem w_se_Pl_holds : Cond.selects "RustFamily$Plan" ⟨"RustFamily$Plan", "holds", "(LRustFamily$Family;)Z"⟩ ⟨"RustFamily$Plan", "holds", "(LRustFamily$Family;)Z"⟩ ∈ m_tb := m_inS (List.mem_of_getElem? (i := 41) rfl) rfl
theorem w_se_Pl_act : Cond.selects "RustFamily$Plan" ⟨"RustFamily$Plan", "act", "(LRustFamily$Family;)Z"⟩ ⟨"RustFamily$Plan", "act", "(LRustFamily$Family;)Z"⟩ ∈ m_tb := m_inS (List.mem_of_getElem? (i := 42) rfl) rfl
theorem w_se_Pl_actAny : Cond.selects "RustFamily$Plan" ⟨"RustFamily$Plan", "actAny", "(LRustFamily$Family;)Z"⟩ ⟨"RustFamily$Plan", "actAny", "(LRustFamily$Family;)Z"⟩ ∈ m_tb := m_inS (List.mem_of_getElem? (i := 43) rfl) rfl
theorem w_se_Pl_draw : Cond.selects "RustFamily$Plan" ⟨"RustFamily$Plan", "draw", "(I)I"⟩ ⟨"RustFamily$Plan", "draw", "(I)I"⟩ ∈ m_tb := m_inS (List.mem_of_getElem? (i := 44) rfl) rfl
theorem w_se_Pl_goRound : Cond.selects "RustFamily$Plan" ⟨"RustFamily$Plan", "goRound", "()V"⟩ ⟨"RustFamily$Plan", "goRound", "()V"⟩ ∈ m_tb := m_inS (List.mem_of_getElem? (i := 45) rfl) rfl
theorem w_se_Pl_isLeft : Cond.selects "RustFamily$Plan" ⟨"RustFamily$Plan", "isLeft", "()Z"⟩ ⟨"RustFamily$Plan", "isLeft", "()Z"⟩ ∈ m_tb := m_in (m_t6 (List.mem_of_getElem? (i := 103) rfl)) rfl
theorem w_se_C_lived : Cond.selects "RustFamily" ⟨"RustFamily", "lived", "(I)I"⟩ ⟨"RustFamily", "lived", "(I)I"⟩ ∈ m_tb := m_in (m_t6 (List.mem_of_getElem? (i := 107) rfl)) rfl
theorem w_se_C_mean : Cond.selects "RustFamily" ⟨"RustFamily", "mean", "(II)Z"⟩ ⟨"RustFamily", "mean", "(II)Z"⟩ ∈ m_tb := m_in (m_t6 (List.mem_of_getElem? (i := 111) rfl)) rfl
theorem w_se_Fa_copyPeopleAndThings : Cond.selects "RustFamily$Family" ⟨"RustFamily$Family", "copyPeopleAndThings", "(LRustFamily$Family;)V"⟩ ⟨"RustFamily$Family", "copyPeopleAndThings", "(LRustFamily$Family;)V"⟩ ∈ m_tb := m_in (m_t6 (List.mem_of_getElem? (i := 115) rfl)) rfl
theorem w_se_Pe_copyFrom : Cond.selects "RustFamily$Person" ⟨"RustFamily$Person", "copyFrom", "(LRustFamily$Person;)V"⟩ ⟨"RustFamily$Person", "copyFrom", "(LRustFamily$Person;)V"⟩ ∈ m_tb := m_in (m_t6 (List.mem_of_getElem? (i := 119) rfl)) rfl
theorem w_se_C_mark : Cond.selects "RustFamily" ⟨"RustFamily", "mark", "()I"⟩ ⟨"RustFamily", "mark", "()I"⟩ ∈ m_tb := m_in (m_t6 (List.mem_of_getElem? (i := 125) rfl)) rfl
theorem w_se_Pl_copyFrom : Cond.selects "RustFamily$Plan" ⟨"RustFamily$Plan", "copyFrom", "(LRustFamily$Plan;)V"⟩ ⟨"RustFamily$Plan", "copyFrom", "(LRustFamily$Plan;)V"⟩ ∈ m_tb := m_in (m_t6 (List.mem_of_getElem? (i := 129) rfl)) rfl
theorem w_se_C_back : Cond.selects "RustFamily" ⟨"RustFamily", "back", "()I"⟩ ⟨"RustFamily", "back", "()I"⟩ ∈ m_tb := m_in (m_t6 (List.mem_of_getElem? (i := 134) rfl)) rfl
theorem w_se_M_empties : Cond.selects "RustFamilyModel" ⟨"RustFamilyModel", "empties", "(I)V"⟩ ⟨"RustFamilyModel", "empties", "(I)V"⟩ ∈ m_tb := m_inS (List.mem_of_getElem? (i := 46) rfl) rfl
theorem w_se_M_status : Cond.selects "RustFamilyModel" ⟨"RustFamilyModel", "status", "()I"⟩ ⟨"RustFamilyModel", "status", "()I"⟩ ∈ m_tb := m_in (m_t7 (List.mem_of_getElem? (i := 62) rfl)) rfl
theorem w_se_M_top : Cond.selects "RustFamilyModel" ⟨"RustFamilyModel", "top", "()J"⟩ ⟨"RustFamilyModel", "top", "()J"⟩ ∈ m_tb := m_in (m_t7 (List.mem_of_getElem? (i := 66) rfl)) rfl
theorem w_se_M_bottom : Cond.selects "RustFamilyModel" ⟨"RustFamilyModel", "bottom", "()J"⟩ ⟨"RustFamilyModel", "bottom", "()J"⟩ ∈ m_tb := m_in (m_t7 (List.mem_of_getElem? (i := 70) rfl)) rfl
theorem w_se_M_tray : Cond.selects "RustFamilyModel" ⟨"RustFamilyModel", "tray", "(III)Z"⟩ ⟨"RustFamilyModel", "tray", "(III)Z"⟩ ∈ m_tb := m_in (m_t7 (List.mem_of_getElem? (i := 74) rfl)) rfl
theorem w_se_M_no : Cond.selects "RustFamilyModel" ⟨"RustFamilyModel", "no", "(I)Z"⟩ ⟨"RustFamilyModel", "no", "(I)Z"⟩ ∈ m_tb := m_inS (List.mem_of_getElem? (i := 47) rfl) rfl
theorem w_se_M_write : Cond.selects "RustFamilyModel" ⟨"RustFamilyModel", "write", "(IIJ)Z"⟩ ⟨"RustFamilyModel", "write", "(IIJ)Z"⟩ ∈ m_tb := m_in (m_t7 (List.mem_of_getElem? (i := 82) rfl)) rfl
theorem w_se_M_placed : Cond.selects "RustFamilyModel" ⟨"RustFamilyModel", "placed", "(II)I"⟩ ⟨"RustFamilyModel", "placed", "(II)I"⟩ ∈ m_tb := m_inS (List.mem_of_getElem? (i := 48) rfl) rfl
theorem w_se_M_trayed : Cond.selects "RustFamilyModel" ⟨"RustFamilyModel", "trayed", "(I)I"⟩ ⟨"RustFamilyModel", "trayed", "(I)I"⟩ ∈ m_tb := m_inS (List.mem_of_getElem? (i := 49) rfl) rfl
theorem w_se_M_read : Cond.selects "RustFamilyModel" ⟨"RustFamilyModel", "read", "(II)J"⟩ ⟨"RustFamilyModel", "read", "(II)J"⟩ ∈ m_tb := m_in (m_t7 (List.mem_of_getElem? (i := 97) rfl)) rfl
theorem w_se_M_pour : Cond.selects "RustFamilyModel" ⟨"RustFamilyModel", "pour", "(IIIII)Z"⟩ ⟨"RustFamilyModel", "pour", "(IIIII)Z"⟩ ∈ m_tb := m_in (m_t7 (List.mem_of_getElem? (i := 102) rfl)) rfl
theorem w_se_M_feed : Cond.selects "RustFamilyModel" ⟨"RustFamilyModel", "feed", "(IIIII)I"⟩ ⟨"RustFamilyModel", "feed", "(IIIII)I"⟩ ∈ m_tb := m_in (m_t7 (List.mem_of_getElem? (i := 106) rfl)) rfl
theorem w_se_M_lay : Cond.selects "RustFamilyModel" ⟨"RustFamilyModel", "lay", "(I)V"⟩ ⟨"RustFamilyModel", "lay", "(I)V"⟩ ∈ m_tb := m_inS (List.mem_of_getElem? (i := 50) rfl) rfl
theorem w_se_M_fault : Cond.selects "RustFamilyModel" ⟨"RustFamilyModel", "fault", "(I)I"⟩ ⟨"RustFamilyModel", "fault", "(I)I"⟩ ∈ m_tb := m_in (m_t7 (List.mem_of_getElem? (i := 114) rfl)) rfl
theorem w_se_M_family : Cond.selects "RustFamilyModel" ⟨"RustFamilyModel", "family", "(I)I"⟩ ⟨"RustFamilyModel", "family", "(I)I"⟩ ∈ m_tb := m_in (m_t7 (List.mem_of_getElem? (i := 118) rfl)) rfl
theorem w_se_M_starts : Cond.selects "RustFamilyModel" ⟨"RustFamilyModel", "starts", "(II)Z"⟩ ⟨"RustFamilyModel", "starts", "(II)Z"⟩ ∈ m_tb := m_inS (List.mem_of_getElem? (i := 51) rfl) rfl
theorem w_se_M_advance : Cond.selects "RustFamilyModel" ⟨"RustFamilyModel", "advance", "()V"⟩ ⟨"RustFamilyModel", "advance", "()V"⟩ ∈ m_tb := m_inS (List.mem_of_getElem? (i := 52) rfl) rfl
theorem w_se_M_look2 : Cond.selects "RustFamilyModel" ⟨"RustFamilyModel", "look2", "(I)I"⟩ ⟨"RustFamilyModel", "look2", "(I)I"⟩ ∈ m_tb := m_inS (List.mem_of_getElem? (i := 53) rfl) rfl
theorem w_se_M_isSignByte : Cond.selects "RustFamilyModel" ⟨"RustFamilyModel", "isSignByte", "(I)Z"⟩ ⟨"RustFamilyModel", "isSignByte", "(I)Z"⟩ ∈ m_tb := m_inS (List.mem_of_getElem? (i := 54) rfl) rfl
theorem w_se_M_readPart : Cond.selects "RustFamilyModel" ⟨"RustFamilyModel", "readPart", "()V"⟩ ⟨"RustFamilyModel", "readPart", "()V"⟩ ∈ m_tb := m_inS (List.mem_of_getElem? (i := 55) rfl) rfl
theorem w_se_M_isShows : Cond.selects "RustFamilyModel" ⟨"RustFamilyModel", "isShows", "()Z"⟩ ⟨"RustFamilyModel", "isShows", "()Z"⟩ ∈ m_tb := m_inS (List.mem_of_getElem? (i := 56) rfl) rfl
theorem w_se_M_isWord : Cond.selects "RustFamilyModel" ⟨"RustFamilyModel", "isWord", "(J)Z"⟩ ⟨"RustFamilyModel", "isWord", "(J)Z"⟩ ∈ m_tb := m_inS (List.mem_of_getElem? (i := 57) rfl) rfl
theorem w_se_M_readOnce : Cond.selects "RustFamilyModel" ⟨"RustFamilyModel", "readOnce", "(III)V"⟩ ⟨"RustFamilyModel", "readOnce", "(III)V"⟩ ∈ m_tb := m_inS (List.mem_of_getElem? (i := 58) rfl) rfl
theorem w_se_M_fail : Cond.selects "RustFamilyModel" ⟨"RustFamilyModel", "fail", "(II)V"⟩ ⟨"RustFamilyModel", "fail", "(II)V"⟩ ∈ m_tb := m_inS (List.mem_of_getElem? (i := 59) rfl) rfl
theorem w_se_M_count : Cond.selects "RustFamilyModel" ⟨"RustFamilyModel", "count", "(II)I"⟩ ⟨"RustFamilyModel", "count", "(II)I"⟩ ∈ m_tb := m_inS (List.mem_of_getElem? (i := 60) rfl) rfl
theorem w_se_M_amiss : Cond.selects "RustFamilyModel" ⟨"RustFamilyModel", "amiss", "()V"⟩ ⟨"RustFamilyModel", "amiss", "()V"⟩ ∈ m_tb := m_inS (List.mem_of_getElem? (i := 61) rfl) rfl
theorem w_se_M_isLife : Cond.selects "RustFamilyModel" ⟨"RustFamilyModel", "isLife", "()Z"⟩ ⟨"RustFamilyModel", "isLife", "()Z"⟩ ∈ m_tb := m_inS (List.mem_of_getElem? (i := 62) rfl) rfl
theorem w_se_M_isDamp : Cond.selects "RustFamilyModel" ⟨"RustFamilyModel", "isDamp", "()Z"⟩ ⟨"RustFamilyModel", "isDamp", "()Z"⟩ ∈ m_tb := m_inS (List.mem_of_getElem? (i := 63) rfl) rfl
theorem w_se_M_isBreath : Cond.selects "RustFamilyModel" ⟨"RustFamilyModel", "isBreath", "()Z"⟩ ⟨"RustFamilyModel", "isBreath", "()Z"⟩ ∈ m_tb := m_inS (List.mem_of_getElem? (i := 64) rfl) rfl
theorem w_se_M_isPerson : Cond.selects "RustFamilyModel" ⟨"RustFamilyModel", "isPerson", "()Z"⟩ ⟨"RustFamilyModel", "isPerson", "()Z"⟩ ∈ m_tb := m_inS (List.mem_of_getElem? (i := 65) rfl) rfl
theorem w_se_M_readPerson : Cond.selects "RustFamilyModel" ⟨"RustFamilyModel", "readPerson", "()V"⟩ ⟨"RustFamilyModel", "readPerson", "()V"⟩ ∈ m_tb := m_inS (List.mem_of_getElem? (i := 66) rfl) rfl
theorem w_se_M_readNew : Cond.selects "RustFamilyModel" ⟨"RustFamilyModel", "readNew", "(II)I"⟩ ⟨"RustFamilyModel", "readNew", "(II)I"⟩ ∈ m_tb := m_inS (List.mem_of_getElem? (i := 67) rfl) rfl
theorem w_se_M_isName : Cond.selects "RustFamilyModel" ⟨"RustFamilyModel", "isName", "()Z"⟩ ⟨"RustFamilyModel", "isName", "()Z"⟩ ∈ m_tb := m_inS (List.mem_of_getElem? (i := 68) rfl) rfl
theorem w_se_M_isKept : Cond.selects "RustFamilyModel" ⟨"RustFamilyModel", "isKept", "()Z"⟩ ⟨"RustFamilyModel", "isKept", "()Z"⟩ ∈ m_tb := m_inS (List.mem_of_getElem? (i := 69) rfl) rfl
theorem w_se_M_isAge : Cond.selects "RustFamilyModel" ⟨"RustFamilyModel", "isAge", "()Z"⟩ ⟨"RustFamilyModel", "isAge", "()Z"⟩ ∈ m_tb := m_inS (List.mem_of_getElem? (i := 70) rfl) rfl
theorem w_se_M_isOf : Cond.selects "RustFamilyModel" ⟨"RustFamilyModel", "isOf", "()Z"⟩ ⟨"RustFamilyModel", "isOf", "()Z"⟩ ∈ m_tb := m_inS (List.mem_of_getElem? (i := 71) rfl) rfl
theorem w_se_M_isThing : Cond.selects "RustFamilyModel" ⟨"RustFamilyModel", "isThing", "()Z"⟩ ⟨"RustFamilyModel", "isThing", "()Z"⟩ ∈ m_tb := m_inS (List.mem_of_getElem? (i := 72) rfl) rfl
theorem w_se_M_isThick : Cond.selects "RustFamilyModel" ⟨"RustFamilyModel", "isThick", "()Z"⟩ ⟨"RustFamilyModel", "isThick", "()Z"⟩ ∈ m_tb := m_inS (List.mem_of_getElem? (i := 73) rfl) rfl
theorem w_se_M_stepWord : Cond.selects "RustFamilyModel" ⟨"RustFamilyModel", "stepWord", "()I"⟩ ⟨"RustFamilyModel", "stepWord", "()I"⟩ ∈ m_tb := m_inS (List.mem_of_getElem? (i := 74) rfl) rfl
theorem w_se_M_isLoves : Cond.selects "RustFamilyModel" ⟨"RustFamilyModel", "isLoves", "()Z"⟩ ⟨"RustFamilyModel", "isLoves", "()Z"⟩ ∈ m_tb := m_inS (List.mem_of_getElem? (i := 75) rfl) rfl
theorem w_se_M_isCoat : Cond.selects "RustFamilyModel" ⟨"RustFamilyModel", "isCoat", "()Z"⟩ ⟨"RustFamilyModel", "isCoat", "()Z"⟩ ∈ m_tb := m_inS (List.mem_of_getElem? (i := 76) rfl) rfl
theorem w_se_M_testWord : Cond.selects "RustFamilyModel" ⟨"RustFamilyModel", "testWord", "()I"⟩ ⟨"RustFamilyModel", "testWord", "()I"⟩ ∈ m_tb := m_inS (List.mem_of_getElem? (i := 77) rfl) rfl
theorem w_se_M_isEnd : Cond.selects "RustFamilyModel" ⟨"RustFamilyModel", "isEnd", "()Z"⟩ ⟨"RustFamilyModel", "isEnd", "()Z"⟩ ∈ m_tb := m_inS (List.mem_of_getElem? (i := 78) rfl) rfl
theorem w_se_M_named : Cond.selects "RustFamilyModel" ⟨"RustFamilyModel", "named", "(II)I"⟩ ⟨"RustFamilyModel", "named", "(II)I"⟩ ∈ m_tb := m_inS (List.mem_of_getElem? (i := 79) rfl) rfl
theorem w_se_M_behindWord : Cond.selects "RustFamilyModel" ⟨"RustFamilyModel", "behindWord", "(ZII)I"⟩ ⟨"RustFamilyModel", "behindWord", "(ZII)I"⟩ ∈ m_tb := m_inS (List.mem_of_getElem? (i := 80) rfl) rfl
theorem w_se_M_must : Cond.selects "RustFamilyModel" ⟨"RustFamilyModel", "must", "(Z)V"⟩ ⟨"RustFamilyModel", "must", "(Z)V"⟩ ∈ m_tb := m_inS (List.mem_of_getElem? (i := 81) rfl) rfl
theorem w_se_M_perhaps : Cond.selects "RustFamilyModel" ⟨"RustFamilyModel", "perhaps", "(Z)Z"⟩ ⟨"RustFamilyModel", "perhaps", "(Z)Z"⟩ ∈ m_tb := m_inS (List.mem_of_getElem? (i := 82) rfl) rfl
theorem w_se_M_readThing : Cond.selects "RustFamilyModel" ⟨"RustFamilyModel", "readThing", "()V"⟩ ⟨"RustFamilyModel", "readThing", "()V"⟩ ∈ m_tb := m_inS (List.mem_of_getElem? (i := 83) rfl) rfl
theorem w_se_M_readLoves : Cond.selects "RustFamilyModel" ⟨"RustFamilyModel", "readLoves", "()V"⟩ ⟨"RustFamilyModel", "readLoves", "()V"⟩ ∈ m_tb := m_inS (List.mem_of_getElem? (i := 84) rfl) rfl
theorem w_se_M_readTold : Cond.selects "RustFamilyModel" ⟨"RustFamilyModel", "readTold", "(II)I"⟩ ⟨"RustFamilyModel", "readTold", "(II)I"⟩ ∈ m_tb := m_inS (List.mem_of_getElem? (i := 85) rfl) rfl
theorem w_se_M_isSign : Cond.selects "RustFamilyModel" ⟨"RustFamilyModel", "isSign", "(I)Z"⟩ ⟨"RustFamilyModel", "isSign", "(I)Z"⟩ ∈ m_tb := m_inS (List.mem_of_getElem? (i := 86) rfl) rfl
theorem w_se_M_isWell : Cond.selects "RustFamilyModel" ⟨"RustFamilyModel", "isWell", "()Z"⟩ ⟨"RustFamilyModel", "isWell", "()Z"⟩ ∈ m_tb := m_inS (List.mem_of_getElem? (i := 87) rfl) rfl
theorem w_se_M_copy : Cond.selects "RustFamilyModel" ⟨"RustFamilyModel", "copy", "(II)V"⟩ ⟨"RustFamilyModel", "copy", "(II)V"⟩ ∈ m_tb := m_inS (List.mem_of_getElem? (i := 88) rfl) rfl
theorem w_se_M_years : Cond.selects "RustFamilyModel" ⟨"RustFamilyModel", "years", "(I)I"⟩ ⟨"RustFamilyModel", "years", "(I)I"⟩ ∈ m_tb := m_in (m_t8 (List.mem_of_getElem? (i := 53) rfl)) rfl
theorem w_se_M_readStep : Cond.selects "RustFamilyModel" ⟨"RustFamilyModel", "readStep", "(I)V"⟩ ⟨"RustFamilyModel", "readStep", "(I)V"⟩ ∈ m_tb := m_inS (List.mem_of_getElem? (i := 89) rfl) rfl
theorem w_se_M_readRest : Cond.selects "RustFamilyModel" ⟨"RustFamilyModel", "readRest", "(I)V"⟩ ⟨"RustFamilyModel", "readRest", "(I)V"⟩ ∈ m_tb := m_inS (List.mem_of_getElem? (i := 90) rfl) rfl
theorem w_se_M_readTest : Cond.selects "RustFamilyModel" ⟨"RustFamilyModel", "readTest", "(I)V"⟩ ⟨"RustFamilyModel", "readTest", "(I)V"⟩ ∈ m_tb := m_inS (List.mem_of_getElem? (i := 91) rfl) rfl
theorem w_se_M_many : Cond.selects "RustFamilyModel" ⟨"RustFamilyModel", "many", "(I)I"⟩ ⟨"RustFamilyModel", "many", "(I)I"⟩ ∈ m_tb := m_in (m_t8 (List.mem_of_getElem? (i := 69) rfl)) rfl
theorem w_se_M_refuse : Cond.selects "RustFamilyModel" ⟨"RustFamilyModel", "refuse", "(I)I"⟩ ⟨"RustFamilyModel", "refuse", "(I)I"⟩ ∈ m_tb := m_inS (List.mem_of_getElem? (i := 92) rfl) rfl
theorem w_se_M_living : Cond.selects "RustFamilyModel" ⟨"RustFamilyModel", "living", "()I"⟩ ⟨"RustFamilyModel", "living", "()I"⟩ ∈ m_tb := m_inS (List.mem_of_getElem? (i := 93) rfl) rfl
theorem w_se_M_showing : Cond.selects "RustFamilyModel" ⟨"RustFamilyModel", "showing", "()I"⟩ ⟨"RustFamilyModel", "showing", "()I"⟩ ∈ m_tb := m_inS (List.mem_of_getElem? (i := 94) rfl) rfl
theorem w_se_M_showsNow : Cond.selects "RustFamilyModel" ⟨"RustFamilyModel", "showsNow", "(I)Z"⟩ ⟨"RustFamilyModel", "showsNow", "(I)Z"⟩ ∈ m_tb := m_inS (List.mem_of_getElem? (i := 95) rfl) rfl
theorem w_se_M_throughs : Cond.selects "RustFamilyModel" ⟨"RustFamilyModel", "throughs", "()I"⟩ ⟨"RustFamilyModel", "throughs", "()I"⟩ ∈ m_tb := m_inS (List.mem_of_getElem? (i := 96) rfl) rfl
theorem w_se_M_isThrough : Cond.selects "RustFamilyModel" ⟨"RustFamilyModel", "isThrough", "(I)Z"⟩ ⟨"RustFamilyModel", "isThrough", "(I)Z"⟩ ∈ m_tb := m_inS (List.mem_of_getElem? (i := 97) rfl) rfl
theorem w_se_M_oiled : Cond.selects "RustFamilyModel" ⟨"RustFamilyModel", "oiled", "()I"⟩ ⟨"RustFamilyModel", "oiled", "()I"⟩ ∈ m_tb := m_inS (List.mem_of_getElem? (i := 98) rfl) rfl
theorem w_se_M_allRust : Cond.selects "RustFamilyModel" ⟨"RustFamilyModel", "allRust", "()I"⟩ ⟨"RustFamilyModel", "allRust", "()I"⟩ ∈ m_tb := m_inS (List.mem_of_getElem? (i := 99) rfl) rfl
theorem w_se_M_person : Cond.selects "RustFamilyModel" ⟨"RustFamilyModel", "person", "(II)I"⟩ ⟨"RustFamilyModel", "person", "(II)I"⟩ ∈ m_tb := m_in (m_t8 (List.mem_of_getElem? (i := 106) rfl)) rfl
theorem w_se_M_isPersonAt : Cond.selects "RustFamilyModel" ⟨"RustFamilyModel", "isPersonAt", "(I)Z"⟩ ⟨"RustFamilyModel", "isPersonAt", "(I)Z"⟩ ∈ m_tb := m_inS (List.mem_of_getElem? (i := 100) rfl) rfl
theorem w_se_M_lovedThings : Cond.selects "RustFamilyModel" ⟨"RustFamilyModel", "lovedThings", "(I)I"⟩ ⟨"RustFamilyModel", "lovedThings", "(I)I"⟩ ∈ m_tb := m_inS (List.mem_of_getElem? (i := 101) rfl) rfl
theorem w_se_M_loveOf : Cond.selects "RustFamilyModel" ⟨"RustFamilyModel", "loveOf", "(II)I"⟩ ⟨"RustFamilyModel", "loveOf", "(II)I"⟩ ∈ m_tb := m_inS (List.mem_of_getElem? (i := 102) rfl) rfl
theorem w_se_M_thing : Cond.selects "RustFamilyModel" ⟨"RustFamilyModel", "thing", "(II)I"⟩ ⟨"RustFamilyModel", "thing", "(II)I"⟩ ∈ m_tb := m_in (m_t8 (List.mem_of_getElem? (i := 123) rfl)) rfl
theorem w_se_M_isThingAt : Cond.selects "RustFamilyModel" ⟨"RustFamilyModel", "isThingAt", "(I)Z"⟩ ⟨"RustFamilyModel", "isThingAt", "(I)Z"⟩ ∈ m_tb := m_inS (List.mem_of_getElem? (i := 103) rfl) rfl
theorem w_se_M_lovedOf : Cond.selects "RustFamilyModel" ⟨"RustFamilyModel", "lovedOf", "(I)I"⟩ ⟨"RustFamilyModel", "lovedOf", "(I)I"⟩ ∈ m_tb := m_inS (List.mem_of_getElem? (i := 104) rfl) rfl
theorem w_se_M_biteOf : Cond.selects "RustFamilyModel" ⟨"RustFamilyModel", "biteOf", "(I)I"⟩ ⟨"RustFamilyModel", "biteOf", "(I)I"⟩ ∈ m_tb := m_inS (List.mem_of_getElem? (i := 105) rfl) rfl
theorem w_se_M_love : Cond.selects "RustFamilyModel" ⟨"RustFamilyModel", "love", "(II)I"⟩ ⟨"RustFamilyModel", "love", "(II)I"⟩ ∈ m_tb := m_in (m_t8 (List.mem_of_getElem? (i := 143) rfl)) rfl
theorem w_se_M_copyRust : Cond.selects "RustFamilyModel" ⟨"RustFamilyModel", "copyRust", "(I)I"⟩ ⟨"RustFamilyModel", "copyRust", "(I)I"⟩ ∈ m_tb := m_in (m_t8 (List.mem_of_getElem? (i := 147) rfl)) rfl
theorem w_se_M_isTray : Cond.selects "RustFamilyModel" ⟨"RustFamilyModel", "isTray", "(I)Z"⟩ ⟨"RustFamilyModel", "isTray", "(I)Z"⟩ ∈ m_tb := m_inS (List.mem_of_getElem? (i := 106) rfl) rfl
theorem w_se_M_year : Cond.selects "RustFamilyModel" ⟨"RustFamilyModel", "year", "(I)I"⟩ ⟨"RustFamilyModel", "year", "(I)I"⟩ ∈ m_tb := m_in (m_t8 (List.mem_of_getElem? (i := 157) rfl)) rfl
theorem w_se_M_goesYear : Cond.selects "RustFamilyModel" ⟨"RustFamilyModel", "goesYear", "()V"⟩ ⟨"RustFamilyModel", "goesYear", "()V"⟩ ∈ m_tb := m_inS (List.mem_of_getElem? (i := 107) rfl) rfl
theorem w_se_M_ages : Cond.selects "RustFamilyModel" ⟨"RustFamilyModel", "ages", "()V"⟩ ⟨"RustFamilyModel", "ages", "()V"⟩ ∈ m_tb := m_inS (List.mem_of_getElem? (i := 108) rfl) rfl
theorem w_se_M_isBitten : Cond.selects "RustFamilyModel" ⟨"RustFamilyModel", "isBitten", "(II)V"⟩ ⟨"RustFamilyModel", "isBitten", "(II)V"⟩ ∈ m_tb := m_inS (List.mem_of_getElem? (i := 109) rfl) rfl
theorem w_se_M_dote : Cond.selects "RustFamilyModel" ⟨"RustFamilyModel", "dote", "(III)I"⟩ ⟨"RustFamilyModel", "dote", "(III)I"⟩ ∈ m_tb := m_in (m_t8 (List.mem_of_getElem? (i := 175) rfl)) rfl
theorem w_se_M_oil : Cond.selects "RustFamilyModel" ⟨"RustFamilyModel", "oil", "(I)I"⟩ ⟨"RustFamilyModel", "oil", "(I)I"⟩ ∈ m_tb := m_in (m_t8 (List.mem_of_getElem? (i := 180) rfl)) rfl
theorem w_se_M_coat : Cond.selects "RustFamilyModel" ⟨"RustFamilyModel", "coat", "(II)I"⟩ ⟨"RustFamilyModel", "coat", "(II)I"⟩ ∈ m_tb := m_in (m_t8 (List.mem_of_getElem? (i := 184) rfl)) rfl
theorem w_se_M_coats : Cond.selects "RustFamilyModel" ⟨"RustFamilyModel", "coats", "(II)I"⟩ ⟨"RustFamilyModel", "coats", "(II)I"⟩ ∈ m_tb := m_inS (List.mem_of_getElem? (i := 110) rfl) rfl
theorem w_se_M_mend : Cond.selects "RustFamilyModel" ⟨"RustFamilyModel", "mend", "(I)I"⟩ ⟨"RustFamilyModel", "mend", "(I)I"⟩ ∈ m_tb := m_in (m_t8 (List.mem_of_getElem? (i := 193) rfl)) rfl
theorem w_se_M_mends : Cond.selects "RustFamilyModel" ⟨"RustFamilyModel", "mends", "(I)I"⟩ ⟨"RustFamilyModel", "mends", "(I)I"⟩ ∈ m_tb := m_inS (List.mem_of_getElem? (i := 111) rfl) rfl
theorem w_se_M_breathe : Cond.selects "RustFamilyModel" ⟨"RustFamilyModel", "breathe", "(I)I"⟩ ⟨"RustFamilyModel", "breathe", "(I)I"⟩ ∈ m_tb := m_in (m_t8 (List.mem_of_getElem? (i := 201) rfl)) rfl
theorem w_se_M_breathed : Cond.selects "RustFamilyModel" ⟨"RustFamilyModel", "breathed", "(I)Z"⟩ ⟨"RustFamilyModel", "breathed", "(I)Z"⟩ ∈ m_tb := m_inS (List.mem_of_getElem? (i := 112) rfl) rfl
theorem w_se_M_forge : Cond.selects "RustFamilyModel" ⟨"RustFamilyModel", "forge", "(I)I"⟩ ⟨"RustFamilyModel", "forge", "(I)I"⟩ ∈ m_tb := m_in (m_t8 (List.mem_of_getElem? (i := 209) rfl)) rfl
theorem w_se_M_born : Cond.selects "RustFamilyModel" ⟨"RustFamilyModel", "born", "(IZ)I"⟩ ⟨"RustFamilyModel", "born", "(IZ)I"⟩ ∈ m_tb := m_in (m_t8 (List.mem_of_getElem? (i := 213) rfl)) rfl
theorem w_se_M_rule : Cond.selects "RustFamilyModel" ⟨"RustFamilyModel", "rule", "(II)Z"⟩ ⟨"RustFamilyModel", "rule", "(II)Z"⟩ ∈ m_tb := m_in (m_t8 (List.mem_of_getElem? (i := 218) rfl)) rfl
theorem w_se_M_rustIn : Cond.selects "RustFamilyModel" ⟨"RustFamilyModel", "rustIn", "(II)I"⟩ ⟨"RustFamilyModel", "rustIn", "(II)I"⟩ ∈ m_tb := m_in (m_t8 (List.mem_of_getElem? (i := 225) rfl)) rfl
theorem w_se_M_puts : Cond.selects "RustFamilyModel" ⟨"RustFamilyModel", "puts", "()V"⟩ ⟨"RustFamilyModel", "puts", "()V"⟩ ∈ m_tb := m_inS (List.mem_of_getElem? (i := 113) rfl) rfl
theorem w_se_M_gives : Cond.selects "RustFamilyModel" ⟨"RustFamilyModel", "gives", "()V"⟩ ⟨"RustFamilyModel", "gives", "()V"⟩ ∈ m_tb := m_inS (List.mem_of_getElem? (i := 114) rfl) rfl
theorem w_se_M_throughIn : Cond.selects "RustFamilyModel" ⟨"RustFamilyModel", "throughIn", "(I)I"⟩ ⟨"RustFamilyModel", "throughIn", "(I)I"⟩ ∈ m_tb := m_in (m_t9 (List.mem_of_getElem? (i := 1) rfl)) rfl
theorem w_se_M_throughOf : Cond.selects "RustFamilyModel" ⟨"RustFamilyModel", "throughOf", "(I)I"⟩ ⟨"RustFamilyModel", "throughOf", "(I)I"⟩ ∈ m_tb := m_inS (List.mem_of_getElem? (i := 115) rfl) rfl
theorem w_se_M_firstThrough : Cond.selects "RustFamilyModel" ⟨"RustFamilyModel", "firstThrough", "()I"⟩ ⟨"RustFamilyModel", "firstThrough", "()I"⟩ ∈ m_tb := m_in (m_t9 (List.mem_of_getElem? (i := 9) rfl)) rfl
theorem w_se_M_throughBy : Cond.selects "RustFamilyModel" ⟨"RustFamilyModel", "throughBy", "(I)I"⟩ ⟨"RustFamilyModel", "throughBy", "(I)I"⟩ ∈ m_tb := m_in (m_t9 (List.mem_of_getElem? (i := 13) rfl)) rfl
theorem w_se_M_showsIn : Cond.selects "RustFamilyModel" ⟨"RustFamilyModel", "showsIn", "(I)I"⟩ ⟨"RustFamilyModel", "showsIn", "(I)I"⟩ ∈ m_tb := m_in (m_t9 (List.mem_of_getElem? (i := 17) rfl)) rfl
theorem w_se_M_diesIn : Cond.selects "RustFamilyModel" ⟨"RustFamilyModel", "diesIn", "(I)I"⟩ ⟨"RustFamilyModel", "diesIn", "(I)I"⟩ ∈ m_tb := m_in (m_t9 (List.mem_of_getElem? (i := 21) rfl)) rfl
theorem w_se_M_worst : Cond.selects "RustFamilyModel" ⟨"RustFamilyModel", "worst", "(I)I"⟩ ⟨"RustFamilyModel", "worst", "(I)I"⟩ ∈ m_tb := m_in (m_t9 (List.mem_of_getElem? (i := 25) rfl)) rfl
theorem w_se_M_jars : Cond.selects "RustFamilyModel" ⟨"RustFamilyModel", "jars", "(II)I"⟩ ⟨"RustFamilyModel", "jars", "(II)I"⟩ ∈ m_tb := m_in (m_t9 (List.mem_of_getElem? (i := 30) rfl)) rfl
theorem w_se_M_jarsOf : Cond.selects "RustFamilyModel" ⟨"RustFamilyModel", "jarsOf", "(II)I"⟩ ⟨"RustFamilyModel", "jarsOf", "(II)I"⟩ ∈ m_tb := m_inS (List.mem_of_getElem? (i := 116) rfl) rfl
theorem w_se_M_lastsBy : Cond.selects "RustFamilyModel" ⟨"RustFamilyModel", "lastsBy", "(III)Z"⟩ ⟨"RustFamilyModel", "lastsBy", "(III)Z"⟩ ∈ m_tb := m_inS (List.mem_of_getElem? (i := 117) rfl) rfl
theorem w_se_M_jarsFor : Cond.selects "RustFamilyModel" ⟨"RustFamilyModel", "jarsFor", "(II)I"⟩ ⟨"RustFamilyModel", "jarsFor", "(II)I"⟩ ∈ m_tb := m_in (m_t9 (List.mem_of_getElem? (i := 45) rfl)) rfl
theorem w_se_M_less : Cond.selects "RustFamilyModel" ⟨"RustFamilyModel", "less", "(III)I"⟩ ⟨"RustFamilyModel", "less", "(III)I"⟩ ∈ m_tb := m_in (m_t9 (List.mem_of_getElem? (i := 49) rfl)) rfl
theorem w_se_M_seen : Cond.selects "RustFamilyModel" ⟨"RustFamilyModel", "seen", "(II)I"⟩ ⟨"RustFamilyModel", "seen", "(II)I"⟩ ∈ m_tb := m_in (m_t9 (List.mem_of_getElem? (i := 53) rfl)) rfl
theorem w_se_M_whyNotSeen : Cond.selects "RustFamilyModel" ⟨"RustFamilyModel", "whyNotSeen", "(II)I"⟩ ⟨"RustFamilyModel", "whyNotSeen", "(II)I"⟩ ∈ m_tb := m_inS (List.mem_of_getElem? (i := 118) rfl) rfl
theorem w_se_M_numberOf : Cond.selects "RustFamilyModel" ⟨"RustFamilyModel", "numberOf", "(II)J"⟩ ⟨"RustFamilyModel", "numberOf", "(II)J"⟩ ∈ m_tb := m_inS (List.mem_of_getElem? (i := 119) rfl) rfl
theorem w_se_M_laysSeen : Cond.selects "RustFamilyModel" ⟨"RustFamilyModel", "laysSeen", "(II)V"⟩ ⟨"RustFamilyModel", "laysSeen", "(II)V"⟩ ∈ m_tb := m_inS (List.mem_of_getElem? (i := 120) rfl) rfl
theorem w_se_M_isSeen : Cond.selects "RustFamilyModel" ⟨"RustFamilyModel", "isSeen", "(III)Z"⟩ ⟨"RustFamilyModel", "isSeen", "(III)Z"⟩ ∈ m_tb := m_inS (List.mem_of_getElem? (i := 121) rfl) rfl
theorem w_se_M_sure : Cond.selects "RustFamilyModel" ⟨"RustFamilyModel", "sure", "(III)I"⟩ ⟨"RustFamilyModel", "sure", "(III)I"⟩ ∈ m_tb := m_in (m_t9 (List.mem_of_getElem? (i := 74) rfl)) rfl
theorem w_se_M_ask : Cond.selects "RustFamilyModel" ⟨"RustFamilyModel", "ask", "(II)I"⟩ ⟨"RustFamilyModel", "ask", "(II)I"⟩ ∈ m_tb := m_in (m_t9 (List.mem_of_getElem? (i := 78) rfl)) rfl
theorem w_se_M_unlike : Cond.selects "RustFamilyModel" ⟨"RustFamilyModel", "unlike", "(I)I"⟩ ⟨"RustFamilyModel", "unlike", "(I)I"⟩ ∈ m_tb := m_inS (List.mem_of_getElem? (i := 122) rfl) rfl
theorem w_se_M_keeping : Cond.selects "RustFamilyModel" ⟨"RustFamilyModel", "keeping", "(I)I"⟩ ⟨"RustFamilyModel", "keeping", "(I)I"⟩ ∈ m_tb := m_in (m_t9 (List.mem_of_getElem? (i := 86) rfl)) rfl
theorem w_se_M_arePeople : Cond.selects "RustFamilyModel" ⟨"RustFamilyModel", "arePeople", "(I)Z"⟩ ⟨"RustFamilyModel", "arePeople", "(I)Z"⟩ ∈ m_tb := m_inS (List.mem_of_getElem? (i := 123) rfl) rfl
theorem w_se_M_canKeep : Cond.selects "RustFamilyModel" ⟨"RustFamilyModel", "canKeep", "(I)Z"⟩ ⟨"RustFamilyModel", "canKeep", "(I)Z"⟩ ∈ m_tb := m_inS (List.mem_of_getElem? (i := 124) rfl) rfl
theorem w_se_M_keepings : Cond.selects "RustFamilyModel" ⟨"RustFamilyModel", "keepings", "(IIII)V"⟩ ⟨"RustFamilyModel", "keepings", "(IIII)V"⟩ ∈ m_tb := m_inS (List.mem_of_getElem? (i := 125) rfl) rfl
theorem w_se_M_keeps : Cond.selects "RustFamilyModel" ⟨"RustFamilyModel", "keeps", "(II)I"⟩ ⟨"RustFamilyModel", "keeps", "(II)I"⟩ ∈ m_tb := m_in (m_t9 (List.mem_of_getElem? (i := 102) rfl)) rfl
theorem w_se_M_stable : Cond.selects "RustFamilyModel" ⟨"RustFamilyModel", "stable", "(II)I"⟩ ⟨"RustFamilyModel", "stable", "(II)I"⟩ ∈ m_tb := m_in (m_t9 (List.mem_of_getElem? (i := 106) rfl)) rfl
theorem w_se_M_laysStable : Cond.selects "RustFamilyModel" ⟨"RustFamilyModel", "laysStable", "(I)V"⟩ ⟨"RustFamilyModel", "laysStable", "(I)V"⟩ ∈ m_tb := m_inS (List.mem_of_getElem? (i := 126) rfl) rfl
theorem w_se_M_asker : Cond.selects "RustFamilyModel" ⟨"RustFamilyModel", "asker", "(I)I"⟩ ⟨"RustFamilyModel", "asker", "(I)I"⟩ ∈ m_tb := m_inS (List.mem_of_getElem? (i := 127) rfl) rfl
theorem w_se_M_nextAsked : Cond.selects "RustFamilyModel" ⟨"RustFamilyModel", "nextAsked", "(I)I"⟩ ⟨"RustFamilyModel", "nextAsked", "(I)I"⟩ ∈ m_tb := m_inS (List.mem_of_getElem? (i := 128) rfl) rfl
theorem w_se_M_stables : Cond.selects "RustFamilyModel" ⟨"RustFamilyModel", "stables", "(I)I"⟩ ⟨"RustFamilyModel", "stables", "(I)I"⟩ ∈ m_tb := m_in (m_t9 (List.mem_of_getElem? (i := 122) rfl)) rfl
theorem w_se_M_stablesOf : Cond.selects "RustFamilyModel" ⟨"RustFamilyModel", "stablesOf", "(III)I"⟩ ⟨"RustFamilyModel", "stablesOf", "(III)I"⟩ ∈ m_tb := m_inS (List.mem_of_getElem? (i := 129) rfl) rfl
theorem w_se_M_isStable : Cond.selects "RustFamilyModel" ⟨"RustFamilyModel", "isStable", "(I)Z"⟩ ⟨"RustFamilyModel", "isStable", "(I)Z"⟩ ∈ m_tb := m_inS (List.mem_of_getElem? (i := 130) rfl) rfl
theorem w_se_M_wouldTake : Cond.selects "RustFamilyModel" ⟨"RustFamilyModel", "wouldTake", "(III)Z"⟩ ⟨"RustFamilyModel", "wouldTake", "(III)Z"⟩ ∈ m_tb := m_inS (List.mem_of_getElem? (i := 131) rfl) rfl
theorem w_se_M_game : Cond.selects "RustFamilyModel" ⟨"RustFamilyModel", "game", "(III)I"⟩ ⟨"RustFamilyModel", "game", "(III)I"⟩ ∈ m_tb := m_in (m_t9 (List.mem_of_getElem? (i := 138) rfl)) rfl
theorem w_se_M_whyNoGame : Cond.selects "RustFamilyModel" ⟨"RustFamilyModel", "whyNoGame", "(IIII)I"⟩ ⟨"RustFamilyModel", "whyNoGame", "(IIII)I"⟩ ∈ m_tb := m_inS (List.mem_of_getElem? (i := 132) rfl) rfl
theorem w_se_M_plays : Cond.selects "RustFamilyModel" ⟨"RustFamilyModel", "plays", "(IIII)I"⟩ ⟨"RustFamilyModel", "plays", "(IIII)I"⟩ ∈ m_tb := m_inS (List.mem_of_getElem? (i := 133) rfl) rfl
theorem w_se_M_laysTurn : Cond.selects "RustFamilyModel" ⟨"RustFamilyModel", "laysTurn", "(I)V"⟩ ⟨"RustFamilyModel", "laysTurn", "(I)V"⟩ ∈ m_tb := m_inS (List.mem_of_getElem? (i := 134) rfl) rfl
theorem w_se_M_moves : Cond.selects "RustFamilyModel" ⟨"RustFamilyModel", "moves", "(III)Z"⟩ ⟨"RustFamilyModel", "moves", "(III)Z"⟩ ∈ m_tb := m_inS (List.mem_of_getElem? (i := 135) rfl) rfl
theorem w_se_M_takesTurn : Cond.selects "RustFamilyModel" ⟨"RustFamilyModel", "takesTurn", "(I)V"⟩ ⟨"RustFamilyModel", "takesTurn", "(I)V"⟩ ∈ m_tb := m_inS (List.mem_of_getElem? (i := 136) rfl) rfl
theorem w_se_M_moveOf : Cond.selects "RustFamilyModel" ⟨"RustFamilyModel", "moveOf", "(III)I"⟩ ⟨"RustFamilyModel", "moveOf", "(III)I"⟩ ∈ m_tb := m_in (m_t9 (List.mem_of_getElem? (i := 162) rfl)) rfl
theorem w_se_M_lasts : Cond.selects "RustFamilyModel" ⟨"RustFamilyModel", "lasts", "(II)Z"⟩ ⟨"RustFamilyModel", "lasts", "(II)Z"⟩ ∈ m_tb := m_in (m_t9 (List.mem_of_getElem? (i := 166) rfl)) rfl
theorem w_se_M_laysBites : Cond.selects "RustFamilyModel" ⟨"RustFamilyModel", "laysBites", "(II)V"⟩ ⟨"RustFamilyModel", "laysBites", "(II)V"⟩ ∈ m_tb := m_inS (List.mem_of_getElem? (i := 137) rfl) rfl
theorem w_se_M_lastsIf : Cond.selects "RustFamilyModel" ⟨"RustFamilyModel", "lastsIf", "(II)J"⟩ ⟨"RustFamilyModel", "lastsIf", "(II)J"⟩ ∈ m_tb := m_inS (List.mem_of_getElem? (i := 138) rfl) rfl
theorem w_se_M_fraction : Cond.selects "RustFamilyModel" ⟨"RustFamilyModel", "fraction", "(JJ)Z"⟩ ⟨"RustFamilyModel", "fraction", "(JJ)Z"⟩ ∈ m_tb := m_inS (List.mem_of_getElem? (i := 139) rfl) rfl
theorem w_se_M_thickFor : Cond.selects "RustFamilyModel" ⟨"RustFamilyModel", "thickFor", "(III)I"⟩ ⟨"RustFamilyModel", "thickFor", "(III)I"⟩ ∈ m_tb := m_in (m_t9 (List.mem_of_getElem? (i := 186) rfl)) rfl
theorem w_se_M_blame : Cond.selects "RustFamilyModel" ⟨"RustFamilyModel", "blame", "(I)Z"⟩ ⟨"RustFamilyModel", "blame", "(I)Z"⟩ ∈ m_tb := m_in (m_t9 (List.mem_of_getElem? (i := 190) rfl)) rfl
theorem w_se_M_live : Cond.selects "RustFamilyModel" ⟨"RustFamilyModel", "live", "(I)I"⟩ ⟨"RustFamilyModel", "live", "(I)I"⟩ ∈ m_tb := m_in (m_t9 (List.mem_of_getElem? (i := 194) rfl)) rfl
theorem w_se_M_runsYears : Cond.selects "RustFamilyModel" ⟨"RustFamilyModel", "runsYears", "(I)V"⟩ ⟨"RustFamilyModel", "runsYears", "(I)V"⟩ ∈ m_tb := m_inS (List.mem_of_getElem? (i := 140) rfl) rfl
theorem w_se_M_doAll : Cond.selects "RustFamilyModel" ⟨"RustFamilyModel", "doAll", "(II)V"⟩ ⟨"RustFamilyModel", "doAll", "(II)V"⟩ ∈ m_tb := m_inS (List.mem_of_getElem? (i := 141) rfl) rfl
theorem w_se_M_doOne : Cond.selects "RustFamilyModel" ⟨"RustFamilyModel", "doOne", "(I)V"⟩ ⟨"RustFamilyModel", "doOne", "(I)V"⟩ ∈ m_tb := m_inS (List.mem_of_getElem? (i := 142) rfl) rfl
theorem w_se_M_does : Cond.selects "RustFamilyModel" ⟨"RustFamilyModel", "does", "(I)Z"⟩ ⟨"RustFamilyModel", "does", "(I)Z"⟩ ∈ m_tb := m_inS (List.mem_of_getElem? (i := 143) rfl) rfl
theorem w_se_M_anyYears : Cond.selects "RustFamilyModel" ⟨"RustFamilyModel", "anyYears", "(I)Z"⟩ ⟨"RustFamilyModel", "anyYears", "(I)Z"⟩ ∈ m_tb := m_inS (List.mem_of_getElem? (i := 144) rfl) rfl
theorem w_se_M_becomes : Cond.selects "RustFamilyModel" ⟨"RustFamilyModel", "becomes", "(II)Z"⟩ ⟨"RustFamilyModel", "becomes", "(II)Z"⟩ ∈ m_tb := m_inS (List.mem_of_getElem? (i := 145) rfl) rfl
theorem w_se_M_isAny : Cond.selects "RustFamilyModel" ⟨"RustFamilyModel", "isAny", "()Z"⟩ ⟨"RustFamilyModel", "isAny", "()Z"⟩ ∈ m_tb := m_inS (List.mem_of_getElem? (i := 146) rfl) rfl
theorem w_se_M_draw : Cond.selects "RustFamilyModel" ⟨"RustFamilyModel", "draw", "(I)I"⟩ ⟨"RustFamilyModel", "draw", "(I)I"⟩ ∈ m_tb := m_inS (List.mem_of_getElem? (i := 147) rfl) rfl
theorem w_se_M_isBreathed : Cond.selects "RustFamilyModel" ⟨"RustFamilyModel", "isBreathed", "(I)Z"⟩ ⟨"RustFamilyModel", "isBreathed", "(I)Z"⟩ ∈ m_tb := m_inS (List.mem_of_getElem? (i := 148) rfl) rfl
theorem w_se_M_onThing : Cond.selects "RustFamilyModel" ⟨"RustFamilyModel", "onThing", "(III)Z"⟩ ⟨"RustFamilyModel", "onThing", "(III)Z"⟩ ∈ m_tb := m_inS (List.mem_of_getElem? (i := 149) rfl) rfl
theorem w_se_M_isSo : Cond.selects "RustFamilyModel" ⟨"RustFamilyModel", "isSo", "(I)Z"⟩ ⟨"RustFamilyModel", "isSo", "(I)Z"⟩ ∈ m_tb := m_inS (List.mem_of_getElem? (i := 150) rfl) rfl
theorem w_se_M_lived : Cond.selects "RustFamilyModel" ⟨"RustFamilyModel", "lived", "(I)I"⟩ ⟨"RustFamilyModel", "lived", "(I)I"⟩ ∈ m_tb := m_in (m_t10 (List.mem_of_getElem? (i := 4) rfl)) rfl
theorem w_se_M_mean : Cond.selects "RustFamilyModel" ⟨"RustFamilyModel", "mean", "(II)Z"⟩ ⟨"RustFamilyModel", "mean", "(II)Z"⟩ ∈ m_tb := m_in (m_t10 (List.mem_of_getElem? (i := 8) rfl)) rfl
theorem w_se_M_mark : Cond.selects "RustFamilyModel" ⟨"RustFamilyModel", "mark", "()I"⟩ ⟨"RustFamilyModel", "mark", "()I"⟩ ∈ m_tb := m_in (m_t10 (List.mem_of_getElem? (i := 12) rfl)) rfl
theorem w_se_M_back : Cond.selects "RustFamilyModel" ⟨"RustFamilyModel", "back", "()I"⟩ ⟨"RustFamilyModel", "back", "()I"⟩ ∈ m_tb := m_in (m_t10 (List.mem_of_getElem? (i := 16) rfl)) rfl
theorem sm_mmax {k : mKt} {d mc ms : Nat} {α : Type} {pc pc' idx : Nat} {L : List (Nat × mV)} {st : List mV} {T : mP α} {post : α → mC} {x y : Int32} (hd : m_D k pc (.invokestatic idx) 3) (hp : pc + 3 = pc') (hl : Cond.methodLink k.1.cls idx Lib.Math.max.name ∈ m_tb) (hd1 : 1 ≤ d) (hw : m_wd st ≤ 8) (h : m_Sim k d mc ms (.inl (pc', L, .inl (iMax x y) :: st)) T post) : m_Sim k d mc ms (.inl (pc, L, .inl y :: .inl x :: st)) T post := by
  subst hp
  refine m_step (fun w p l e R s m args below meth c cells slots Q C hcl hsl μ hk H locs ls a1 a2 a3 => ?_) h
  obtain ⟨hx, hb, hml, hown, hts, hr, hlk, hnm, hK, hf, hlo, hga⟩ := C
  exact va_mmax hx hb (by rw [hml]; exact a3.1.symm) hown (hts _ hl) (hts _ w_st_mmax) (hts _ w_in_JM) (hts _ w_co_mmax) (by omega) (by show ((m_T w st).map fun v => v.category).sum + _ ≤ _; rw [m_wd_cat]; omega) hcl hsl hd (hk H locs ls a1 a2 a3)
theorem sm_mmin {k : mKt} {d mc ms : Nat} {α : Type} {pc pc' idx : Nat} {L : List (Nat × mV)} {st : List mV} {T : mP α} {post : α → mC} {x y : Int32} (hd : m_D k pc (.invokestatic idx) 3) (hp : pc + 3 = pc') (hl : Cond.methodLink k.1.cls idx Lib.Math.min.name ∈ m_tb) (hd1 : 1 ≤ d) (hw : m_wd st ≤ 8) (h : m_Sim k d mc ms (.inl (pc', L, .inl (iMin x y) :: st)) T post) : m_Sim k d mc ms (.inl (pc, L, .inl y :: .inl x :: st)) T post := by
  subst hp
  refine m_step (fun w p l e R s m args below meth c cells slots Q C hcl hsl μ hk H locs ls a1 a2 a3 => ?_) h
  obtain ⟨hx, hb, hml, hown, hts, hr, hlk, hnm, hK, hf, hlo, hga⟩ := C
  exact va_mmin hx hb (by rw [hml]; exact a3.1.symm) hown (hts _ hl) (hts _ w_st_mmin) (hts _ w_in_JM) (hts _ w_co_mmin) (by omega) (by show ((m_T w st).map fun v => v.category).sum + _ ≤ _; rw [m_wd_cat]; omega) hcl hsl hd (hk H locs ls a1 a2 a3)
theorem sm_mmaxJ {k : mKt} {d mc ms : Nat} {α : Type} {pc pc' idx : Nat} {L : List (Nat × mV)} {st : List mV} {T : mP α} {post : α → mC} {x y : Int64} (hd : m_D k pc (.invokestatic idx) 3) (hp : pc + 3 = pc') (hl : Cond.methodLink k.1.cls idx Lib.MathLoose.max_long.x ∈ m_tb) (hd1 : 1 ≤ d) (hw : m_wd st ≤ 8) (h : m_Sim k d mc ms (.inl (pc', L, .inr (.inl (jMax x y)) :: st)) T post) : m_Sim k d mc ms (.inl (pc, L, .inr (.inl y) :: .inr (.inl x) :: st)) T post := by
  subst hp
  refine m_step (fun w p l e R s m args below meth c cells slots Q C hcl hsl μ hk H locs ls a1 a2 a3 => ?_) h
  obtain ⟨hx, hb, hml, hown, hts, hr, hlk, hnm, hK, hf, hlo, hga⟩ := C
  exact va_mmax_long hx hb (by rw [hml]; exact a3.1.symm) hown (hts _ hl) (hts _ w_st_mmaxJ) (hts _ w_in_JM) (hts _ w_co_mmaxJ) (by omega) (by show ((m_T w st).map fun v => v.category).sum + _ ≤ _; rw [m_wd_cat]; omega) hcl hsl hd (hk H locs ls a1 a2 a3)
theorem sm_mabsJ {k : mKt} {d mc ms : Nat} {α : Type} {pc pc' idx : Nat} {L : List (Nat × mV)} {st : List mV} {T : mP α} {post : α → mC} {x : Int64} (hd : m_D k pc (.invokestatic idx) 3) (hp : pc + 3 = pc') (hl : Cond.methodLink k.1.cls idx Lib.MathLoose.abs_long.x ∈ m_tb) (hd1 : 1 ≤ d) (hw : m_wd st ≤ 8) (h : m_Sim k d mc ms (.inl (pc', L, .inr (.inl (jAbs x)) :: st)) T post) : m_Sim k d mc ms (.inl (pc, L, .inr (.inl x) :: st)) T post := by
  subst hp
  refine m_step (fun w p l e R s m args below meth c cells slots Q C hcl hsl μ hk H locs ls a1 a2 a3 => ?_) h
  obtain ⟨hx, hb, hml, hown, hts, hr, hlk, hnm, hK, hf, hlo, hga⟩ := C
  exact va_mabs_long hx hb (by rw [hml]; exact a3.1.symm) hown (hts _ hl) (hts _ w_st_mabsJ) (hts _ w_in_JM) (hts _ w_co_mabsJ) (by omega) (by show ((m_T w st).map fun v => v.category).sum + _ ≤ _; rw [m_wd_cat]; omega) hcl hsl hd (hk H locs ls a1 a2 a3)
theorem c_g0 : (u_ws c_R0 c_T0 16).all goodWord = true := by decide +kernel
theorem c_j0 : ∀ q ∈ u_ws c_R0 c_T0 16, q ∈ m_tb := fun q h => List.mem_filter.mpr ⟨c_i0 q h, List.all_eq_true.mp c_g0 q h⟩
theorem c_g1 : (u_ws c_R1 c_T1 3).all goodWord = true := by decide +kernel
theorem c_j1 : ∀ q ∈ u_ws c_R1 c_T1 3, q ∈ m_tb := fun q h => List.mem_filter.mpr ⟨c_i1 q h, List.all_eq_true.mp c_g1 q h⟩
theorem c_g2 : (u_ws c_R2 c_T2 12).all goodWord = true := by decide +kernel
theorem c_j2 : ∀ q ∈ u_ws c_R2 c_T2 12, q ∈ m_tb := fun q h => List.mem_filter.mpr ⟨c_i2 q h, List.all_eq_true.mp c_g2 q h⟩
theorem c_g3 : (u_ws c_R3 c_T3 10).all goodWord = true := by decide +kernel
theorem c_j3 : ∀ q ∈ u_ws c_R3 c_T3 10, q ∈ m_tb := fun q h => List.mem_filter.mpr ⟨c_i3 q h, List.all_eq_true.mp c_g3 q h⟩
theorem c_g4 : (u_ws c_R4 c_T4 5).all goodWord = true := by decide +kernel
theorem c_j4 : ∀ q ∈ u_ws c_R4 c_T4 5, q ∈ m_tb := fun q h => List.mem_filter.mpr ⟨c_i4 q h, List.all_eq_true.mp c_g4 q h⟩
theorem c_g5 : (u_ws c_R5 c_T5 5).all goodWord = true := by decide +kernel
theorem c_j5 : ∀ q ∈ u_ws c_R5 c_T5 5, q ∈ m_tb := fun q h => List.mem_filter.mpr ⟨c_i5 q h, List.all_eq_true.mp c_g5 q h⟩
theorem c_g6 : (u_ws c_R6 c_T6 14).all goodWord = true := by decide +kernel
theorem c_j6 : ∀ q ∈ u_ws c_R6 c_T6 14, q ∈ m_tb := fun q h => List.mem_filter.mpr ⟨c_i6 q h, List.all_eq_true.mp c_g6 q h⟩
theorem c_g7 : (u_ws c_R7 c_T7 5).all goodWord = true := by decide +kernel
theorem c_j7 : ∀ q ∈ u_ws c_R7 c_T7 5, q ∈ m_tb := fun q h => List.mem_filter.mpr ⟨c_i7 q h, List.all_eq_true.mp c_g7 q h⟩
theorem c_g8 : (u_ws c_R8 c_T8 3).all goodWord = true := by decide +kernel
theorem c_j8 : ∀ q ∈ u_ws c_R8 c_T8 3, q ∈ m_tb := fun q h => List.mem_filter.mpr ⟨c_i8 q h, List.all_eq_true.mp c_g8 q h⟩
theorem c_g9 : (u_ws c_R9 c_T9 6).all goodWord = true := by decide +kernel
theorem c_j9 : ∀ q ∈ u_ws c_R9 c_T9 6, q ∈ m_tb := fun q h => List.mem_filter.mpr ⟨c_i9 q h, List.all_eq_true.mp c_g9 q h⟩
theorem c_g10 : (u_ws c_R10 c_T10 3).all goodWord = true := by decide +kernel
theorem c_j10 : ∀ q ∈ u_ws c_R10 c_T10 3, q ∈ m_tb := fun q h => List.mem_filter.mpr ⟨c_i10 q h, List.all_eq_true.mp c_g10 q h⟩
theorem c_g11 : (u_ws c_R11 c_T11 51).all goodWord = true := by decide +kernel
theorem c_j11 : ∀ q ∈ u_ws c_R11 c_T11 51, q ∈ m_tb := fun q h => List.mem_filter.mpr ⟨c_i11 q h, List.all_eq_true.mp c_g11 q h⟩
theorem fl_C_9 : m_FL "RustFamily" 9 0 0 false .int := ⟨c_R0, c_T0, 16, c_y0, rfl, by decide, w_fl_C_9, c_j0, rfl, rfl, c_t0, c_n0, by decide +kernel⟩
theorem fl_C_13 : m_FL "RustFamily" 13 0 1 false .long := ⟨c_R0, c_T0, 16, c_y0, rfl, by decide, w_fl_C_13, c_j0, rfl, rfl, c_t0, c_n0, by decide +kernel⟩
theorem fl_C_17 : m_FL "RustFamily" 17 0 2 false .long := ⟨c_R0, c_T0, 16, c_y0, rfl, by decide, w_fl_C_17, c_j0, rfl, rfl, c_t0, c_n0, by decide +kernel⟩
theorem fl_C_22 : m_FL "RustFamily" 22 0 3 true (.array (.object "RustFamily$Tray")) := ⟨c_R0, c_T0, 16, c_y0, rfl, by decide, w_fl_C_22, c_j0, rfl, rfl, c_t0, c_n0, by decide +kernel⟩
theorem fl_C_30 : m_FL "RustFamily" 30 0 4 true (.object "RustFamily$Text") := ⟨c_R0, c_T0, 16, c_y0, rfl, by decide, w_fl_C_30, c_j0, rfl, rfl, c_t0, c_n0, by decide +kernel⟩
theorem fl_C_37 : m_FL "RustFamily" 37 0 5 false (.object "RustFamily$Family") := ⟨c_R0, c_T0, 16, c_y0, rfl, by decide, w_fl_C_37, c_j0, rfl, rfl, c_t0, c_n0, by decide +kernel⟩
theorem fl_C_41 : m_FL "RustFamily" 41 0 6 false (.object "RustFamily$Family") := ⟨c_R0, c_T0, 16, c_y0, rfl, by decide, w_fl_C_41, c_j0, rfl, rfl, c_t0, c_n0, by decide +kernel⟩
theorem fl_C_47 : m_FL "RustFamily" 47 0 7 false (.object "RustFamily$Plan") := ⟨c_R0, c_T0, 16, c_y0, rfl, by decide, w_fl_C_47, c_j0, rfl, rfl, c_t0, c_n0, by decide +kernel⟩
theorem fl_C_51 : m_FL "RustFamily" 51 0 8 true (.array (.object "RustFamily$Family")) := ⟨c_R0, c_T0, 16, c_y0, rfl, by decide, w_fl_C_51, c_j0, rfl, rfl, c_t0, c_n0, by decide +kernel⟩
theorem fl_C_55 : m_FL "RustFamily" 55 0 9 false .int := ⟨c_R0, c_T0, 16, c_y0, rfl, by decide, w_fl_C_55, c_j0, rfl, rfl, c_t0, c_n0, by decide +kernel⟩
theorem fl_C_61 : m_FL "RustFamily" 61 0 10 true (.object "RustFamily$Ahead") := ⟨c_R0, c_T0, 16, c_y0, rfl, by decide, w_fl_C_61, c_j0, rfl, rfl, c_t0, c_n0, by decide +kernel⟩
theorem fl_C_68 : m_FL "RustFamily" 68 0 11 true (.object "RustFamily$Sight") := ⟨c_R0, c_T0, 16, c_y0, rfl, by decide, w_fl_C_68, c_j0, rfl, rfl, c_t0, c_n0, by decide +kernel⟩
theorem fl_C_75 : m_FL "RustFamily" 75 0 12 true (.object "RustFamily$Keepers") := ⟨c_R0, c_T0, 16, c_y0, rfl, by decide, w_fl_C_75, c_j0, rfl, rfl, c_t0, c_n0, by decide +kernel⟩
theorem fl_C_82 : m_FL "RustFamily" 82 0 13 true (.object "RustFamily$Game") := ⟨c_R0, c_T0, 16, c_y0, rfl, by decide, w_fl_C_82, c_j0, rfl, rfl, c_t0, c_n0, by decide +kernel⟩
theorem fl_C_86 : m_FL "RustFamily" 86 0 14 true (.array .int) := ⟨c_R0, c_T0, 16, c_y0, rfl, by decide, w_fl_C_86, c_j0, rfl, rfl, c_t0, c_n0, by decide +kernel⟩
theorem fl_C_90 : m_FL "RustFamily" 90 0 15 false .boolean := ⟨c_R0, c_T0, 16, c_y0, rfl, by decide, w_fl_C_90, c_j0, rfl, rfl, c_t0, c_n0, by decide +kernel⟩
theorem fl_C_112 : m_FL "RustFamily" 112 1 2 true (.array .long) := ⟨c_R1, c_T1, 3, c_y1, rfl, by decide, w_fl_C_112, c_j1, rfl, rfl, c_t1, c_n1, by decide +kernel⟩
theorem fl_C_130 : m_FL "RustFamily" 130 1 0 false .int := ⟨c_R1, c_T1, 3, c_y1, rfl, by decide, w_fl_C_130, c_j1, rfl, rfl, c_t1, c_n1, by decide +kernel⟩
theorem fl_C_141 : m_FL "RustFamily" 141 2 1 false .int := ⟨c_R2, c_T2, 12, c_y2, rfl, by decide, w_fl_C_141, c_j2, rfl, rfl, c_t2, c_n2, by decide +kernel⟩
theorem fl_C_156 : m_FL "RustFamily" 156 3 1 false .int := ⟨c_R3, c_T3, 10, c_y3, rfl, by decide, w_fl_C_156, c_j3, rfl, rfl, c_t3, c_n3, by decide +kernel⟩
theorem fl_C_163 : m_FL "RustFamily" 163 3 9 false (.object "RustFamily$Plan") := ⟨c_R3, c_T3, 10, c_y3, rfl, by decide, w_fl_C_163, c_j3, rfl, rfl, c_t3, c_n3, by decide +kernel⟩
theorem fl_C_166 : m_FL "RustFamily" 166 6 1 false .int := ⟨c_R6, c_T6, 14, c_y6, rfl, by decide, w_fl_C_166, c_j6, rfl, rfl, c_t6, c_n6, by decide +kernel⟩
theorem fl_C_169 : m_FL "RustFamily" 169 2 10 false .int := ⟨c_R2, c_T2, 12, c_y2, rfl, by decide, w_fl_C_169, c_j2, rfl, rfl, c_t2, c_n2, by decide +kernel⟩
theorem fl_C_172 : m_FL "RustFamily" 172 2 11 false .int := ⟨c_R2, c_T2, 12, c_y2, rfl, by decide, w_fl_C_172, c_j2, rfl, rfl, c_t2, c_n2, by decide +kernel⟩
theorem fl_C_175 : m_FL "RustFamily" 175 3 0 false .int := ⟨c_R3, c_T3, 10, c_y3, rfl, by decide, w_fl_C_175, c_j3, rfl, rfl, c_t3, c_n3, by decide +kernel⟩
theorem fl_C_178 : m_FL "RustFamily" 178 3 2 false .int := ⟨c_R3, c_T3, 10, c_y3, rfl, by decide, w_fl_C_178, c_j3, rfl, rfl, c_t3, c_n3, by decide +kernel⟩
theorem fl_C_181 : m_FL "RustFamily" 181 3 3 false .int := ⟨c_R3, c_T3, 10, c_y3, rfl, by decide, w_fl_C_181, c_j3, rfl, rfl, c_t3, c_n3, by decide +kernel⟩
theorem fl_C_184 : m_FL "RustFamily" 184 3 4 false .int := ⟨c_R3, c_T3, 10, c_y3, rfl, by decide, w_fl_C_184, c_j3, rfl, rfl, c_t3, c_n3, by decide +kernel⟩
theorem fl_C_187 : m_FL "RustFamily" 187 3 5 false .int := ⟨c_R3, c_T3, 10, c_y3, rfl, by decide, w_fl_C_187, c_j3, rfl, rfl, c_t3, c_n3, by decide +kernel⟩
theorem fl_C_190 : m_FL "RustFamily" 190 3 6 false .int := ⟨c_R3, c_T3, 10, c_y3, rfl, by decide, w_fl_C_190, c_j3, rfl, rfl, c_t3, c_n3, by decide +kernel⟩
theorem fl_C_212 : m_FL "RustFamily" 212 3 7 true (.array (.object "RustFamily$Person")) := ⟨c_R3, c_T3, 10, c_y3, rfl, by decide, w_fl_C_212, c_j3, rfl, rfl, c_t3, c_n3, by decide +kernel⟩
theorem fl_C_216 : m_FL "RustFamily" 216 4 1 false .int := ⟨c_R4, c_T4, 5, c_y4, rfl, by decide, w_fl_C_216, c_j4, rfl, rfl, c_t4, c_n4, by decide +kernel⟩
theorem fl_C_221 : m_FL "RustFamily" 221 4 2 false .boolean := ⟨c_R4, c_T4, 5, c_y4, rfl, by decide, w_fl_C_221, c_j4, rfl, rfl, c_t4, c_n4, by decide +kernel⟩
theorem fl_C_224 : m_FL "RustFamily" 224 4 3 false .boolean := ⟨c_R4, c_T4, 5, c_y4, rfl, by decide, w_fl_C_224, c_j4, rfl, rfl, c_t4, c_n4, by decide +kernel⟩
theorem fl_C_236 : m_FL "RustFamily" 236 3 8 true (.array (.object "RustFamily$Thing")) := ⟨c_R3, c_T3, 10, c_y3, rfl, by decide, w_fl_C_236, c_j3, rfl, rfl, c_t3, c_n3, by decide +kernel⟩
theorem fl_C_240 : m_FL "RustFamily" 240 5 1 false .int := ⟨c_R5, c_T5, 5, c_y5, rfl, by decide, w_fl_C_240, c_j5, rfl, rfl, c_t5, c_n5, by decide +kernel⟩
theorem fl_C_245 : m_FL "RustFamily" 245 5 2 false .int := ⟨c_R5, c_T5, 5, c_y5, rfl, by decide, w_fl_C_245, c_j5, rfl, rfl, c_t5, c_n5, by decide +kernel⟩
theorem fl_C_248 : m_FL "RustFamily" 248 5 3 false .int := ⟨c_R5, c_T5, 5, c_y5, rfl, by decide, w_fl_C_248, c_j5, rfl, rfl, c_t5, c_n5, by decide +kernel⟩
theorem fl_C_251 : m_FL "RustFamily" 251 5 4 false .int := ⟨c_R5, c_T5, 5, c_y5, rfl, by decide, w_fl_C_251, c_j5, rfl, rfl, c_t5, c_n5, by decide +kernel⟩
theorem fl_C_266 : m_FL "RustFamily" 266 4 4 true (.array .int) := ⟨c_R4, c_T4, 5, c_y4, rfl, by decide, w_fl_C_266, c_j4, rfl, rfl, c_t4, c_n4, by decide +kernel⟩
theorem fl_C_345 : m_FL "RustFamily" 345 1 1 false .int := ⟨c_R1, c_T1, 3, c_y1, rfl, by decide, w_fl_C_345, c_j1, rfl, rfl, c_t1, c_n1, by decide +kernel⟩
theorem fl_C_371 : m_FL "RustFamily" 371 9 0 true (.array .int) := ⟨c_R9, c_T9, 6, c_y9, rfl, by decide, w_fl_C_371, c_j9, rfl, rfl, c_t9, c_n9, by decide +kernel⟩
theorem fl_C_390 : m_FL "RustFamily" 390 10 0 false .int := ⟨c_R10, c_T10, 3, c_y10, rfl, by decide, w_fl_C_390, c_j10, rfl, rfl, c_t10, c_n10, by decide +kernel⟩
theorem fl_C_404 : m_FL "RustFamily" 404 7 0 false .int := ⟨c_R7, c_T7, 5, c_y7, rfl, by decide, w_fl_C_404, c_j7, rfl, rfl, c_t7, c_n7, by decide +kernel⟩
theorem fl_C_419 : m_FL "RustFamily" 419 6 0 false .boolean := ⟨c_R6, c_T6, 14, c_y6, rfl, by decide, w_fl_C_419, c_j6, rfl, rfl, c_t6, c_n6, by decide +kernel⟩
theorem fl_C_425 : m_FL "RustFamily" 425 6 8 false .int := ⟨c_R6, c_T6, 14, c_y6, rfl, by decide, w_fl_C_425, c_j6, rfl, rfl, c_t6, c_n6, by decide +kernel⟩
theorem fl_C_431 : m_FL "RustFamily" 431 6 7 false .int := ⟨c_R6, c_T6, 14, c_y6, rfl, by decide, w_fl_C_431, c_j6, rfl, rfl, c_t6, c_n6, by decide +kernel⟩
theorem fl_Ah_12 : m_FL "RustFamily$Ahead" 12 7 1 true (.object "RustFamily$Thing") := ⟨c_R7, c_T7, 5, c_y7, rfl, by decide, w_fl_Ah_12, c_j7, rfl, rfl, c_t7, c_n7, by decide +kernel⟩
theorem fl_Ah_18 : m_FL "RustFamily$Ahead" 18 7 2 true (.array .int) := ⟨c_R7, c_T7, 5, c_y7, rfl, by decide, w_fl_Ah_18, c_j7, rfl, rfl, c_t7, c_n7, by decide +kernel⟩
theorem fl_Ah_22 : m_FL "RustFamily$Ahead" 22 7 3 true (.array .int) := ⟨c_R7, c_T7, 5, c_y7, rfl, by decide, w_fl_Ah_22, c_j7, rfl, rfl, c_t7, c_n7, by decide +kernel⟩
theorem fl_Ah_25 : m_FL "RustFamily$Ahead" 25 3 8 true (.array (.object "RustFamily$Thing")) := ⟨c_R3, c_T3, 10, c_y3, rfl, by decide, w_fl_Ah_25, c_j3, rfl, rfl, c_t3, c_n3, by decide +kernel⟩
theorem fl_Ah_47 : m_FL "RustFamily$Ahead" 47 3 4 false .int := ⟨c_R3, c_T3, 10, c_y3, rfl, by decide, w_fl_Ah_47, c_j3, rfl, rfl, c_t3, c_n3, by decide +kernel⟩
theorem fl_Ah_59 : m_FL "RustFamily$Ahead" 59 5 3 false .int := ⟨c_R5, c_T5, 5, c_y5, rfl, by decide, w_fl_Ah_59, c_j5, rfl, rfl, c_t5, c_n5, by decide +kernel⟩
theorem fl_Ah_62 : m_FL "RustFamily$Ahead" 62 3 1 false .int := ⟨c_R3, c_T3, 10, c_y3, rfl, by decide, w_fl_Ah_62, c_j3, rfl, rfl, c_t3, c_n3, by decide +kernel⟩
theorem fl_Ah_65 : m_FL "RustFamily$Ahead" 65 3 7 true (.array (.object "RustFamily$Person")) := ⟨c_R3, c_T3, 10, c_y3, rfl, by decide, w_fl_Ah_65, c_j3, rfl, rfl, c_t3, c_n3, by decide +kernel⟩
theorem fl_Ah_69 : m_FL "RustFamily$Ahead" 69 4 4 true (.array .int) := ⟨c_R4, c_T4, 5, c_y4, rfl, by decide, w_fl_Ah_69, c_j4, rfl, rfl, c_t4, c_n4, by decide +kernel⟩
theorem fl_Ah_74 : m_FL "RustFamily$Ahead" 74 5 1 false .int := ⟨c_R5, c_T5, 5, c_y5, rfl, by decide, w_fl_Ah_74, c_j5, rfl, rfl, c_t5, c_n5, by decide +kernel⟩
theorem fl_Ah_77 : m_FL "RustFamily$Ahead" 77 5 2 false .int := ⟨c_R5, c_T5, 5, c_y5, rfl, by decide, w_fl_Ah_77, c_j5, rfl, rfl, c_t5, c_n5, by decide +kernel⟩
theorem fl_Ah_83 : m_FL "RustFamily$Ahead" 83 5 4 false .int := ⟨c_R5, c_T5, 5, c_y5, rfl, by decide, w_fl_Ah_83, c_j5, rfl, rfl, c_t5, c_n5, by decide +kernel⟩
theorem fl_Ah_93 : m_FL "RustFamily$Ahead" 93 7 0 false .int := ⟨c_R7, c_T7, 5, c_y7, rfl, by decide, w_fl_Ah_93, c_j7, rfl, rfl, c_t7, c_n7, by decide +kernel⟩
theorem fl_Ah_96 : m_FL "RustFamily$Ahead" 96 7 4 false .int := ⟨c_R7, c_T7, 5, c_y7, rfl, by decide, w_fl_Ah_96, c_j7, rfl, rfl, c_t7, c_n7, by decide +kernel⟩
theorem fl_Fa_11 : m_FL "RustFamily$Family" 11 3 2 false .int := ⟨c_R3, c_T3, 10, c_y3, rfl, by decide, w_fl_Fa_11, c_j3, rfl, rfl, c_t3, c_n3, by decide +kernel⟩
theorem fl_Fa_15 : m_FL "RustFamily$Family" 15 3 3 false .int := ⟨c_R3, c_T3, 10, c_y3, rfl, by decide, w_fl_Fa_15, c_j3, rfl, rfl, c_t3, c_n3, by decide +kernel⟩
theorem fl_Fa_18 : m_FL "RustFamily$Family" 18 3 4 false .int := ⟨c_R3, c_T3, 10, c_y3, rfl, by decide, w_fl_Fa_18, c_j3, rfl, rfl, c_t3, c_n3, by decide +kernel⟩
theorem fl_Fa_21 : m_FL "RustFamily$Family" 21 3 5 false .int := ⟨c_R3, c_T3, 10, c_y3, rfl, by decide, w_fl_Fa_21, c_j3, rfl, rfl, c_t3, c_n3, by decide +kernel⟩
theorem fl_Fa_26 : m_FL "RustFamily$Family" 26 3 7 true (.array (.object "RustFamily$Person")) := ⟨c_R3, c_T3, 10, c_y3, rfl, by decide, w_fl_Fa_26, c_j3, rfl, rfl, c_t3, c_n3, by decide +kernel⟩
theorem fl_Fa_33 : m_FL "RustFamily$Family" 33 3 8 true (.array (.object "RustFamily$Thing")) := ⟨c_R3, c_T3, 10, c_y3, rfl, by decide, w_fl_Fa_33, c_j3, rfl, rfl, c_t3, c_n3, by decide +kernel⟩
theorem fl_Fa_41 : m_FL "RustFamily$Family" 41 3 9 false (.object "RustFamily$Plan") := ⟨c_R3, c_T3, 10, c_y3, rfl, by decide, w_fl_Fa_41, c_j3, rfl, rfl, c_t3, c_n3, by decide +kernel⟩
theorem fl_Fa_45 : m_FL "RustFamily$Family" 45 3 0 false .int := ⟨c_R3, c_T3, 10, c_y3, rfl, by decide, w_fl_Fa_45, c_j3, rfl, rfl, c_t3, c_n3, by decide +kernel⟩
theorem fl_Fa_48 : m_FL "RustFamily$Family" 48 3 1 false .int := ⟨c_R3, c_T3, 10, c_y3, rfl, by decide, w_fl_Fa_48, c_j3, rfl, rfl, c_t3, c_n3, by decide +kernel⟩
theorem fl_Fa_51 : m_FL "RustFamily$Family" 51 3 6 false .int := ⟨c_R3, c_T3, 10, c_y3, rfl, by decide, w_fl_Fa_51, c_j3, rfl, rfl, c_t3, c_n3, by decide +kernel⟩
theorem fl_Fa_61 : m_FL "RustFamily$Family" 61 4 0 false .long := ⟨c_R4, c_T4, 5, c_y4, rfl, by decide, w_fl_Fa_61, c_j4, rfl, rfl, c_t4, c_n4, by decide +kernel⟩
theorem fl_Fa_65 : m_FL "RustFamily$Family" 65 4 1 false .int := ⟨c_R4, c_T4, 5, c_y4, rfl, by decide, w_fl_Fa_65, c_j4, rfl, rfl, c_t4, c_n4, by decide +kernel⟩
theorem fl_Fa_68 : m_FL "RustFamily$Family" 68 4 2 false .boolean := ⟨c_R4, c_T4, 5, c_y4, rfl, by decide, w_fl_Fa_68, c_j4, rfl, rfl, c_t4, c_n4, by decide +kernel⟩
theorem fl_Fa_72 : m_FL "RustFamily$Family" 72 4 3 false .boolean := ⟨c_R4, c_T4, 5, c_y4, rfl, by decide, w_fl_Fa_72, c_j4, rfl, rfl, c_t4, c_n4, by decide +kernel⟩
theorem fl_Fa_75 : m_FL "RustFamily$Family" 75 4 4 true (.array .int) := ⟨c_R4, c_T4, 5, c_y4, rfl, by decide, w_fl_Fa_75, c_j4, rfl, rfl, c_t4, c_n4, by decide +kernel⟩
theorem fl_Fa_85 : m_FL "RustFamily$Family" 85 5 0 false .long := ⟨c_R5, c_T5, 5, c_y5, rfl, by decide, w_fl_Fa_85, c_j5, rfl, rfl, c_t5, c_n5, by decide +kernel⟩
theorem fl_Fa_86 : m_FL "RustFamily$Family" 86 5 1 false .int := ⟨c_R5, c_T5, 5, c_y5, rfl, by decide, w_fl_Fa_86, c_j5, rfl, rfl, c_t5, c_n5, by decide +kernel⟩
theorem fl_Fa_89 : m_FL "RustFamily$Family" 89 5 2 false .int := ⟨c_R5, c_T5, 5, c_y5, rfl, by decide, w_fl_Fa_89, c_j5, rfl, rfl, c_t5, c_n5, by decide +kernel⟩
theorem fl_Fa_92 : m_FL "RustFamily$Family" 92 5 3 false .int := ⟨c_R5, c_T5, 5, c_y5, rfl, by decide, w_fl_Fa_92, c_j5, rfl, rfl, c_t5, c_n5, by decide +kernel⟩
theorem fl_Fa_95 : m_FL "RustFamily$Family" 95 5 4 false .int := ⟨c_R5, c_T5, 5, c_y5, rfl, by decide, w_fl_Fa_95, c_j5, rfl, rfl, c_t5, c_n5, by decide +kernel⟩
theorem fl_Ga_11 : m_FL "RustFamily$Game" 11 10 1 true (.array (.object "RustFamily$Thing")) := ⟨c_R10, c_T10, 3, c_y10, rfl, by decide, w_fl_Ga_11, c_j10, rfl, rfl, c_t10, c_n10, by decide +kernel⟩
theorem fl_Ga_16 : m_FL "RustFamily$Game" 16 10 2 true (.array .int) := ⟨c_R10, c_T10, 3, c_y10, rfl, by decide, w_fl_Ga_16, c_j10, rfl, rfl, c_t10, c_n10, by decide +kernel⟩
theorem fl_Ga_20 : m_FL "RustFamily$Game" 20 3 8 true (.array (.object "RustFamily$Thing")) := ⟨c_R3, c_T3, 10, c_y3, rfl, by decide, w_fl_Ga_20, c_j3, rfl, rfl, c_t3, c_n3, by decide +kernel⟩
theorem fl_Ga_37 : m_FL "RustFamily$Game" 37 5 3 false .int := ⟨c_R5, c_T5, 5, c_y5, rfl, by decide, w_fl_Ga_37, c_j5, rfl, rfl, c_t5, c_n5, by decide +kernel⟩
theorem fl_Ga_49 : m_FL "RustFamily$Game" 49 10 0 false .int := ⟨c_R10, c_T10, 3, c_y10, rfl, by decide, w_fl_Ga_49, c_j10, rfl, rfl, c_t10, c_n10, by decide +kernel⟩
theorem fl_Ga_63 : m_FL "RustFamily$Game" 63 3 5 false .int := ⟨c_R3, c_T3, 10, c_y3, rfl, by decide, w_fl_Ga_63, c_j3, rfl, rfl, c_t3, c_n3, by decide +kernel⟩
theorem fl_Ga_73 : m_FL "RustFamily$Game" 73 3 4 false .int := ⟨c_R3, c_T3, 10, c_y3, rfl, by decide, w_fl_Ga_73, c_j3, rfl, rfl, c_t3, c_n3, by decide +kernel⟩
theorem fl_Ke_9 : m_FL "RustFamily$Keepers" 9 9 0 true (.array .int) := ⟨c_R9, c_T9, 6, c_y9, rfl, by decide, w_fl_Ke_9, c_j9, rfl, rfl, c_t9, c_n9, by decide +kernel⟩
theorem fl_Ke_15 : m_FL "RustFamily$Keepers" 15 9 1 true (.array .int) := ⟨c_R9, c_T9, 6, c_y9, rfl, by decide, w_fl_Ke_15, c_j9, rfl, rfl, c_t9, c_n9, by decide +kernel⟩
theorem fl_Ke_18 : m_FL "RustFamily$Keepers" 18 9 2 true (.array .int) := ⟨c_R9, c_T9, 6, c_y9, rfl, by decide, w_fl_Ke_18, c_j9, rfl, rfl, c_t9, c_n9, by decide +kernel⟩
theorem fl_Ke_21 : m_FL "RustFamily$Keepers" 21 9 3 true (.array .int) := ⟨c_R9, c_T9, 6, c_y9, rfl, by decide, w_fl_Ke_21, c_j9, rfl, rfl, c_t9, c_n9, by decide +kernel⟩
theorem fl_Ke_24 : m_FL "RustFamily$Keepers" 24 9 5 true (.array .int) := ⟨c_R9, c_T9, 6, c_y9, rfl, by decide, w_fl_Ke_24, c_j9, rfl, rfl, c_t9, c_n9, by decide +kernel⟩
theorem fl_Ke_27 : m_FL "RustFamily$Keepers" 27 9 4 false .int := ⟨c_R9, c_T9, 6, c_y9, rfl, by decide, w_fl_Ke_27, c_j9, rfl, rfl, c_t9, c_n9, by decide +kernel⟩
theorem fl_Ke_31 : m_FL "RustFamily$Keepers" 31 3 0 false .int := ⟨c_R3, c_T3, 10, c_y3, rfl, by decide, w_fl_Ke_31, c_j3, rfl, rfl, c_t3, c_n3, by decide +kernel⟩
theorem fl_Ke_46 : m_FL "RustFamily$Keepers" 46 3 1 false .int := ⟨c_R3, c_T3, 10, c_y3, rfl, by decide, w_fl_Ke_46, c_j3, rfl, rfl, c_t3, c_n3, by decide +kernel⟩
theorem fl_Ke_74 : m_FL "RustFamily$Keepers" 74 3 8 true (.array (.object "RustFamily$Thing")) := ⟨c_R3, c_T3, 10, c_y3, rfl, by decide, w_fl_Ke_74, c_j3, rfl, rfl, c_t3, c_n3, by decide +kernel⟩
theorem fl_Ke_84 : m_FL "RustFamily$Keepers" 84 3 7 true (.array (.object "RustFamily$Person")) := ⟨c_R3, c_T3, 10, c_y3, rfl, by decide, w_fl_Ke_84, c_j3, rfl, rfl, c_t3, c_n3, by decide +kernel⟩
theorem fl_Ke_88 : m_FL "RustFamily$Keepers" 88 4 4 true (.array .int) := ⟨c_R4, c_T4, 5, c_y4, rfl, by decide, w_fl_Ke_88, c_j4, rfl, rfl, c_t4, c_n4, by decide +kernel⟩
theorem fl_Pe_9 : m_FL "RustFamily$Person" 9 4 4 true (.array .int) := ⟨c_R4, c_T4, 5, c_y4, rfl, by decide, w_fl_Pe_9, c_j4, rfl, rfl, c_t4, c_n4, by decide +kernel⟩
theorem fl_Pe_15 : m_FL "RustFamily$Person" 15 4 0 false .long := ⟨c_R4, c_T4, 5, c_y4, rfl, by decide, w_fl_Pe_15, c_j4, rfl, rfl, c_t4, c_n4, by decide +kernel⟩
theorem fl_Pe_19 : m_FL "RustFamily$Person" 19 4 1 false .int := ⟨c_R4, c_T4, 5, c_y4, rfl, by decide, w_fl_Pe_19, c_j4, rfl, rfl, c_t4, c_n4, by decide +kernel⟩
theorem fl_Pe_23 : m_FL "RustFamily$Person" 23 4 2 false .boolean := ⟨c_R4, c_T4, 5, c_y4, rfl, by decide, w_fl_Pe_23, c_j4, rfl, rfl, c_t4, c_n4, by decide +kernel⟩
theorem fl_Pe_27 : m_FL "RustFamily$Person" 27 4 3 false .boolean := ⟨c_R4, c_T4, 5, c_y4, rfl, by decide, w_fl_Pe_27, c_j4, rfl, rfl, c_t4, c_n4, by decide +kernel⟩
theorem fl_Pl_11 : m_FL "RustFamily$Plan" 11 6 2 true (.array .int) := ⟨c_R6, c_T6, 14, c_y6, rfl, by decide, w_fl_Pl_11, c_j6, rfl, rfl, c_t6, c_n6, by decide +kernel⟩
theorem fl_Pl_15 : m_FL "RustFamily$Plan" 15 6 3 true (.array .int) := ⟨c_R6, c_T6, 14, c_y6, rfl, by decide, w_fl_Pl_15, c_j6, rfl, rfl, c_t6, c_n6, by decide +kernel⟩
theorem fl_Pl_18 : m_FL "RustFamily$Plan" 18 6 4 true (.array .int) := ⟨c_R6, c_T6, 14, c_y6, rfl, by decide, w_fl_Pl_18, c_j6, rfl, rfl, c_t6, c_n6, by decide +kernel⟩
theorem fl_Pl_21 : m_FL "RustFamily$Plan" 21 6 5 true (.array .int) := ⟨c_R6, c_T6, 14, c_y6, rfl, by decide, w_fl_Pl_21, c_j6, rfl, rfl, c_t6, c_n6, by decide +kernel⟩
theorem fl_Pl_24 : m_FL "RustFamily$Plan" 24 6 6 true (.array .int) := ⟨c_R6, c_T6, 14, c_y6, rfl, by decide, w_fl_Pl_24, c_j6, rfl, rfl, c_t6, c_n6, by decide +kernel⟩
theorem fl_Pl_27 : m_FL "RustFamily$Plan" 27 6 11 true (.array .int) := ⟨c_R6, c_T6, 14, c_y6, rfl, by decide, w_fl_Pl_27, c_j6, rfl, rfl, c_t6, c_n6, by decide +kernel⟩
theorem fl_Pl_30 : m_FL "RustFamily$Plan" 30 6 12 true (.array .int) := ⟨c_R6, c_T6, 14, c_y6, rfl, by decide, w_fl_Pl_30, c_j6, rfl, rfl, c_t6, c_n6, by decide +kernel⟩
theorem fl_Pl_33 : m_FL "RustFamily$Plan" 33 6 0 false .boolean := ⟨c_R6, c_T6, 14, c_y6, rfl, by decide, w_fl_Pl_33, c_j6, rfl, rfl, c_t6, c_n6, by decide +kernel⟩
theorem fl_Pl_37 : m_FL "RustFamily$Plan" 37 6 1 false .int := ⟨c_R6, c_T6, 14, c_y6, rfl, by decide, w_fl_Pl_37, c_j6, rfl, rfl, c_t6, c_n6, by decide +kernel⟩
theorem fl_Pl_47 : m_FL "RustFamily$Plan" 47 6 9 false .int := ⟨c_R6, c_T6, 14, c_y6, rfl, by decide, w_fl_Pl_47, c_j6, rfl, rfl, c_t6, c_n6, by decide +kernel⟩
theorem fl_Pl_50 : m_FL "RustFamily$Plan" 50 6 7 false .int := ⟨c_R6, c_T6, 14, c_y6, rfl, by decide, w_fl_Pl_50, c_j6, rfl, rfl, c_t6, c_n6, by decide +kernel⟩
theorem fl_Pl_53 : m_FL "RustFamily$Plan" 53 6 8 false .int := ⟨c_R6, c_T6, 14, c_y6, rfl, by decide, w_fl_Pl_53, c_j6, rfl, rfl, c_t6, c_n6, by decide +kernel⟩
theorem fl_Pl_56 : m_FL "RustFamily$Plan" 56 6 10 false .int := ⟨c_R6, c_T6, 14, c_y6, rfl, by decide, w_fl_Pl_56, c_j6, rfl, rfl, c_t6, c_n6, by decide +kernel⟩
theorem fl_Pl_59 : m_FL "RustFamily$Plan" 59 6 13 false .int := ⟨c_R6, c_T6, 14, c_y6, rfl, by decide, w_fl_Pl_59, c_j6, rfl, rfl, c_t6, c_n6, by decide +kernel⟩
theorem fl_Pl_81 : m_FL "RustFamily$Plan" 81 3 8 true (.array (.object "RustFamily$Thing")) := ⟨c_R3, c_T3, 10, c_y3, rfl, by decide, w_fl_Pl_81, c_j3, rfl, rfl, c_t3, c_n3, by decide +kernel⟩
theorem fl_Pl_85 : m_FL "RustFamily$Plan" 85 5 3 false .int := ⟨c_R5, c_T5, 5, c_y5, rfl, by decide, w_fl_Pl_85, c_j5, rfl, rfl, c_t5, c_n5, by decide +kernel⟩
theorem fl_Pl_102 : m_FL "RustFamily$Plan" 102 3 7 true (.array (.object "RustFamily$Person")) := ⟨c_R3, c_T3, 10, c_y3, rfl, by decide, w_fl_Pl_102, c_j3, rfl, rfl, c_t3, c_n3, by decide +kernel⟩
theorem fl_Pl_117 : m_FL "RustFamily$Plan" 117 3 4 false .int := ⟨c_R3, c_T3, 10, c_y3, rfl, by decide, w_fl_Pl_117, c_j3, rfl, rfl, c_t3, c_n3, by decide +kernel⟩
theorem fl_Pl_120 : m_FL "RustFamily$Plan" 120 4 4 true (.array .int) := ⟨c_R4, c_T4, 5, c_y4, rfl, by decide, w_fl_Pl_120, c_j4, rfl, rfl, c_t4, c_n4, by decide +kernel⟩
theorem fl_Pl_125 : m_FL "RustFamily$Plan" 125 3 1 false .int := ⟨c_R3, c_T3, 10, c_y3, rfl, by decide, w_fl_Pl_125, c_j3, rfl, rfl, c_t3, c_n3, by decide +kernel⟩
theorem fl_Pl_132 : m_FL "RustFamily$Plan" 132 3 5 false .int := ⟨c_R3, c_T3, 10, c_y3, rfl, by decide, w_fl_Pl_132, c_j3, rfl, rfl, c_t3, c_n3, by decide +kernel⟩
theorem fl_Re_15 : m_FL "RustFamily$Reader" 15 2 4 false .int := ⟨c_R2, c_T2, 12, c_y2, rfl, by decide, w_fl_Re_15, c_j2, rfl, rfl, c_t2, c_n2, by decide +kernel⟩
theorem fl_Re_47 : m_FL "RustFamily$Reader" 47 3 0 false .int := ⟨c_R3, c_T3, 10, c_y3, rfl, by decide, w_fl_Re_47, c_j3, rfl, rfl, c_t3, c_n3, by decide +kernel⟩
theorem fl_Re_52 : m_FL "RustFamily$Reader" 52 3 1 false .int := ⟨c_R3, c_T3, 10, c_y3, rfl, by decide, w_fl_Re_52, c_j3, rfl, rfl, c_t3, c_n3, by decide +kernel⟩
theorem fl_Re_55 : m_FL "RustFamily$Reader" 55 3 2 false .int := ⟨c_R3, c_T3, 10, c_y3, rfl, by decide, w_fl_Re_55, c_j3, rfl, rfl, c_t3, c_n3, by decide +kernel⟩
theorem fl_Re_58 : m_FL "RustFamily$Reader" 58 3 3 false .int := ⟨c_R3, c_T3, 10, c_y3, rfl, by decide, w_fl_Re_58, c_j3, rfl, rfl, c_t3, c_n3, by decide +kernel⟩
theorem fl_Re_61 : m_FL "RustFamily$Reader" 61 3 4 false .int := ⟨c_R3, c_T3, 10, c_y3, rfl, by decide, w_fl_Re_61, c_j3, rfl, rfl, c_t3, c_n3, by decide +kernel⟩
theorem fl_Re_64 : m_FL "RustFamily$Reader" 64 3 5 false .int := ⟨c_R3, c_T3, 10, c_y3, rfl, by decide, w_fl_Re_64, c_j3, rfl, rfl, c_t3, c_n3, by decide +kernel⟩
theorem fl_Re_67 : m_FL "RustFamily$Reader" 67 3 6 false .int := ⟨c_R3, c_T3, 10, c_y3, rfl, by decide, w_fl_Re_67, c_j3, rfl, rfl, c_t3, c_n3, by decide +kernel⟩
theorem fl_Re_70 : m_FL "RustFamily$Reader" 70 3 9 false (.object "RustFamily$Plan") := ⟨c_R3, c_T3, 10, c_y3, rfl, by decide, w_fl_Re_70, c_j3, rfl, rfl, c_t3, c_n3, by decide +kernel⟩
theorem fl_Re_83 : m_FL "RustFamily$Reader" 83 2 9 false .int := ⟨c_R2, c_T2, 12, c_y2, rfl, by decide, w_fl_Re_83, c_j2, rfl, rfl, c_t2, c_n2, by decide +kernel⟩
theorem fl_Re_111 : m_FL "RustFamily$Reader" 111 2 7 false .long := ⟨c_R2, c_T2, 12, c_y2, rfl, by decide, w_fl_Re_111, c_j2, rfl, rfl, c_t2, c_n2, by decide +kernel⟩
theorem fl_Re_142 : m_FL "RustFamily$Reader" 142 3 7 true (.array (.object "RustFamily$Person")) := ⟨c_R3, c_T3, 10, c_y3, rfl, by decide, w_fl_Re_142, c_j3, rfl, rfl, c_t3, c_n3, by decide +kernel⟩
theorem fl_Re_146 : m_FL "RustFamily$Reader" 146 4 4 true (.array .int) := ⟨c_R4, c_T4, 5, c_y4, rfl, by decide, w_fl_Re_146, c_j4, rfl, rfl, c_t4, c_n4, by decide +kernel⟩
theorem fl_Re_156 : m_FL "RustFamily$Reader" 156 6 0 false .boolean := ⟨c_R6, c_T6, 14, c_y6, rfl, by decide, w_fl_Re_156, c_j6, rfl, rfl, c_t6, c_n6, by decide +kernel⟩
theorem fl_Re_183 : m_FL "RustFamily$Reader" 183 6 6 true (.array .int) := ⟨c_R6, c_T6, 14, c_y6, rfl, by decide, w_fl_Re_183, c_j6, rfl, rfl, c_t6, c_n6, by decide +kernel⟩
theorem fl_Re_186 : m_FL "RustFamily$Reader" 186 6 1 false .int := ⟨c_R6, c_T6, 14, c_y6, rfl, by decide, w_fl_Re_186, c_j6, rfl, rfl, c_t6, c_n6, by decide +kernel⟩
theorem fl_Re_203 : m_FL "RustFamily$Reader" 203 6 2 true (.array .int) := ⟨c_R6, c_T6, 14, c_y6, rfl, by decide, w_fl_Re_203, c_j6, rfl, rfl, c_t6, c_n6, by decide +kernel⟩
theorem fl_Re_222 : m_FL "RustFamily$Reader" 222 2 8 false .int := ⟨c_R2, c_T2, 12, c_y2, rfl, by decide, w_fl_Re_222, c_j2, rfl, rfl, c_t2, c_n2, by decide +kernel⟩
theorem fl_Re_225 : m_FL "RustFamily$Reader" 225 6 5 true (.array .int) := ⟨c_R6, c_T6, 14, c_y6, rfl, by decide, w_fl_Re_225, c_j6, rfl, rfl, c_t6, c_n6, by decide +kernel⟩
theorem fl_Re_228 : m_FL "RustFamily$Reader" 228 6 3 true (.array .int) := ⟨c_R6, c_T6, 14, c_y6, rfl, by decide, w_fl_Re_228, c_j6, rfl, rfl, c_t6, c_n6, by decide +kernel⟩
theorem fl_Re_230 : m_FL "RustFamily$Reader" 230 6 4 true (.array .int) := ⟨c_R6, c_T6, 14, c_y6, rfl, by decide, w_fl_Re_230, c_j6, rfl, rfl, c_t6, c_n6, by decide +kernel⟩
theorem fl_Si_11 : m_FL "RustFamily$Sight" 11 8 0 true (.array .boolean) := ⟨c_R8, c_T8, 3, c_y8, rfl, by decide, w_fl_Si_11, c_j8, rfl, rfl, c_t8, c_n8, by decide +kernel⟩
theorem fl_Si_15 : m_FL "RustFamily$Sight" 15 8 1 true (.array .int) := ⟨c_R8, c_T8, 3, c_y8, rfl, by decide, w_fl_Si_15, c_j8, rfl, rfl, c_t8, c_n8, by decide +kernel⟩
theorem fl_Si_25 : m_FL "RustFamily$Sight" 25 8 2 false .int := ⟨c_R8, c_T8, 3, c_y8, rfl, by decide, w_fl_Si_25, c_j8, rfl, rfl, c_t8, c_n8, by decide +kernel⟩
theorem fl_Tx_9 : m_FL "RustFamily$Text" 9 2 0 true (.array .byte) := ⟨c_R2, c_T2, 12, c_y2, rfl, by decide, w_fl_Tx_9, c_j2, rfl, rfl, c_t2, c_n2, by decide +kernel⟩
theorem fl_Tx_15 : m_FL "RustFamily$Text" 15 2 10 false .int := ⟨c_R2, c_T2, 12, c_y2, rfl, by decide, w_fl_Tx_15, c_j2, rfl, rfl, c_t2, c_n2, by decide +kernel⟩
theorem fl_Tx_19 : m_FL "RustFamily$Text" 19 2 11 false .int := ⟨c_R2, c_T2, 12, c_y2, rfl, by decide, w_fl_Tx_19, c_j2, rfl, rfl, c_t2, c_n2, by decide +kernel⟩
theorem fl_Tx_22 : m_FL "RustFamily$Text" 22 2 1 false .int := ⟨c_R2, c_T2, 12, c_y2, rfl, by decide, w_fl_Tx_22, c_j2, rfl, rfl, c_t2, c_n2, by decide +kernel⟩
theorem fl_Tx_25 : m_FL "RustFamily$Text" 25 2 2 false .int := ⟨c_R2, c_T2, 12, c_y2, rfl, by decide, w_fl_Tx_25, c_j2, rfl, rfl, c_t2, c_n2, by decide +kernel⟩
theorem fl_Tx_28 : m_FL "RustFamily$Text" 28 2 3 false .int := ⟨c_R2, c_T2, 12, c_y2, rfl, by decide, w_fl_Tx_28, c_j2, rfl, rfl, c_t2, c_n2, by decide +kernel⟩
theorem fl_Tx_37 : m_FL "RustFamily$Text" 37 2 5 false .int := ⟨c_R2, c_T2, 12, c_y2, rfl, by decide, w_fl_Tx_37, c_j2, rfl, rfl, c_t2, c_n2, by decide +kernel⟩
theorem fl_Tx_40 : m_FL "RustFamily$Text" 40 2 6 false .int := ⟨c_R2, c_T2, 12, c_y2, rfl, by decide, w_fl_Tx_40, c_j2, rfl, rfl, c_t2, c_n2, by decide +kernel⟩
theorem fl_Tx_43 : m_FL "RustFamily$Text" 43 2 7 false .long := ⟨c_R2, c_T2, 12, c_y2, rfl, by decide, w_fl_Tx_43, c_j2, rfl, rfl, c_t2, c_n2, by decide +kernel⟩
theorem fl_Tx_47 : m_FL "RustFamily$Text" 47 2 8 false .int := ⟨c_R2, c_T2, 12, c_y2, rfl, by decide, w_fl_Tx_47, c_j2, rfl, rfl, c_t2, c_n2, by decide +kernel⟩
theorem fl_Tx_50 : m_FL "RustFamily$Text" 50 2 4 false .int := ⟨c_R2, c_T2, 12, c_y2, rfl, by decide, w_fl_Tx_50, c_j2, rfl, rfl, c_t2, c_n2, by decide +kernel⟩
theorem fl_Tx_131 : m_FL "RustFamily$Text" 131 2 9 false .int := ⟨c_R2, c_T2, 12, c_y2, rfl, by decide, w_fl_Tx_131, c_j2, rfl, rfl, c_t2, c_n2, by decide +kernel⟩
theorem fl_Th_9 : m_FL "RustFamily$Thing" 9 5 0 false .long := ⟨c_R5, c_T5, 5, c_y5, rfl, by decide, w_fl_Th_9, c_j5, rfl, rfl, c_t5, c_n5, by decide +kernel⟩
theorem fl_Th_15 : m_FL "RustFamily$Thing" 15 5 1 false .int := ⟨c_R5, c_T5, 5, c_y5, rfl, by decide, w_fl_Th_15, c_j5, rfl, rfl, c_t5, c_n5, by decide +kernel⟩
theorem fl_Th_19 : m_FL "RustFamily$Thing" 19 5 2 false .int := ⟨c_R5, c_T5, 5, c_y5, rfl, by decide, w_fl_Th_19, c_j5, rfl, rfl, c_t5, c_n5, by decide +kernel⟩
theorem fl_Th_22 : m_FL "RustFamily$Thing" 22 5 3 false .int := ⟨c_R5, c_T5, 5, c_y5, rfl, by decide, w_fl_Th_22, c_j5, rfl, rfl, c_t5, c_n5, by decide +kernel⟩
theorem fl_Th_25 : m_FL "RustFamily$Thing" 25 5 4 false .int := ⟨c_R5, c_T5, 5, c_y5, rfl, by decide, w_fl_Th_25, c_j5, rfl, rfl, c_t5, c_n5, by decide +kernel⟩
theorem fl_Tr_9 : m_FL "RustFamily$Tray" 9 1 0 false .int := ⟨c_R1, c_T1, 3, c_y1, rfl, by decide, w_fl_Tr_9, c_j1, rfl, rfl, c_t1, c_n1, by decide +kernel⟩
theorem fl_Tr_15 : m_FL "RustFamily$Tray" 15 1 1 false .int := ⟨c_R1, c_T1, 3, c_y1, rfl, by decide, w_fl_Tr_15, c_j1, rfl, rfl, c_t1, c_n1, by decide +kernel⟩
theorem fl_Tr_18 : m_FL "RustFamily$Tray" 18 1 2 true (.array .long) := ⟨c_R1, c_T1, 3, c_y1, rfl, by decide, w_fl_Tr_18, c_j1, rfl, rfl, c_t1, c_n1, by decide +kernel⟩
theorem fl_M_7 : m_FL "RustFamilyModel" 7 11 3 false .long := ⟨c_R11, c_T11, 51, c_y11, rfl, by decide, w_fl_M_7, c_j11, rfl, rfl, c_t11, c_n11, by decide +kernel⟩
theorem fl_M_13 : m_FL "RustFamilyModel" 13 11 4 true (.array .int) := ⟨c_R11, c_T11, 51, c_y11, rfl, by decide, w_fl_M_13, c_j11, rfl, rfl, c_t11, c_n11, by decide +kernel⟩
theorem fl_M_17 : m_FL "RustFamilyModel" 17 11 5 true (.array .int) := ⟨c_R11, c_T11, 51, c_y11, rfl, by decide, w_fl_M_17, c_j11, rfl, rfl, c_t11, c_n11, by decide +kernel⟩
theorem fl_M_20 : m_FL "RustFamilyModel" 20 11 6 true (.array .long) := ⟨c_R11, c_T11, 51, c_y11, rfl, by decide, w_fl_M_20, c_j11, rfl, rfl, c_t11, c_n11, by decide +kernel⟩
theorem fl_M_24 : m_FL "RustFamilyModel" 24 11 7 true (.array .byte) := ⟨c_R11, c_T11, 51, c_y11, rfl, by decide, w_fl_M_24, c_j11, rfl, rfl, c_t11, c_n11, by decide +kernel⟩
theorem fl_M_28 : m_FL "RustFamilyModel" 28 11 10 false .int := ⟨c_R11, c_T11, 51, c_y11, rfl, by decide, w_fl_M_28, c_j11, rfl, rfl, c_t11, c_n11, by decide +kernel⟩
theorem fl_M_32 : m_FL "RustFamilyModel" 32 11 11 false .int := ⟨c_R11, c_T11, 51, c_y11, rfl, by decide, w_fl_M_32, c_j11, rfl, rfl, c_t11, c_n11, by decide +kernel⟩
theorem fl_M_35 : m_FL "RustFamilyModel" 35 11 20 true (.array .int) := ⟨c_R11, c_T11, 51, c_y11, rfl, by decide, w_fl_M_35, c_j11, rfl, rfl, c_t11, c_n11, by decide +kernel⟩
theorem fl_M_38 : m_FL "RustFamilyModel" 38 11 21 true (.array .int) := ⟨c_R11, c_T11, 51, c_y11, rfl, by decide, w_fl_M_38, c_j11, rfl, rfl, c_t11, c_n11, by decide +kernel⟩
theorem fl_M_41 : m_FL "RustFamilyModel" 41 11 22 true (.array .int) := ⟨c_R11, c_T11, 51, c_y11, rfl, by decide, w_fl_M_41, c_j11, rfl, rfl, c_t11, c_n11, by decide +kernel⟩
theorem fl_M_44 : m_FL "RustFamilyModel" 44 11 23 true (.array .long) := ⟨c_R11, c_T11, 51, c_y11, rfl, by decide, w_fl_M_44, c_j11, rfl, rfl, c_t11, c_n11, by decide +kernel⟩
theorem fl_M_47 : m_FL "RustFamilyModel" 47 11 30 true (.array .int) := ⟨c_R11, c_T11, 51, c_y11, rfl, by decide, w_fl_M_47, c_j11, rfl, rfl, c_t11, c_n11, by decide +kernel⟩
theorem fl_M_50 : m_FL "RustFamilyModel" 50 11 31 true (.array .int) := ⟨c_R11, c_T11, 51, c_y11, rfl, by decide, w_fl_M_50, c_j11, rfl, rfl, c_t11, c_n11, by decide +kernel⟩
theorem fl_M_53 : m_FL "RustFamilyModel" 53 11 32 true (.array .int) := ⟨c_R11, c_T11, 51, c_y11, rfl, by decide, w_fl_M_53, c_j11, rfl, rfl, c_t11, c_n11, by decide +kernel⟩
theorem fl_M_56 : m_FL "RustFamilyModel" 56 11 33 true (.array .int) := ⟨c_R11, c_T11, 51, c_y11, rfl, by decide, w_fl_M_56, c_j11, rfl, rfl, c_t11, c_n11, by decide +kernel⟩
theorem fl_M_59 : m_FL "RustFamilyModel" 59 11 35 true (.array .int) := ⟨c_R11, c_T11, 51, c_y11, rfl, by decide, w_fl_M_59, c_j11, rfl, rfl, c_t11, c_n11, by decide +kernel⟩
theorem fl_M_62 : m_FL "RustFamilyModel" 62 11 36 true (.array .int) := ⟨c_R11, c_T11, 51, c_y11, rfl, by decide, w_fl_M_62, c_j11, rfl, rfl, c_t11, c_n11, by decide +kernel⟩
theorem fl_M_65 : m_FL "RustFamilyModel" 65 11 37 true (.array .int) := ⟨c_R11, c_T11, 51, c_y11, rfl, by decide, w_fl_M_65, c_j11, rfl, rfl, c_t11, c_n11, by decide +kernel⟩
theorem fl_M_68 : m_FL "RustFamilyModel" 68 11 39 true (.array .long) := ⟨c_R11, c_T11, 51, c_y11, rfl, by decide, w_fl_M_68, c_j11, rfl, rfl, c_t11, c_n11, by decide +kernel⟩
theorem fl_M_71 : m_FL "RustFamilyModel" 71 11 40 true (.array .long) := ⟨c_R11, c_T11, 51, c_y11, rfl, by decide, w_fl_M_71, c_j11, rfl, rfl, c_t11, c_n11, by decide +kernel⟩
theorem fl_M_74 : m_FL "RustFamilyModel" 74 11 42 true (.array .int) := ⟨c_R11, c_T11, 51, c_y11, rfl, by decide, w_fl_M_74, c_j11, rfl, rfl, c_t11, c_n11, by decide +kernel⟩
theorem fl_M_81 : m_FL "RustFamilyModel" 81 11 1 false .int := ⟨c_R11, c_T11, 51, c_y11, rfl, by decide, w_fl_M_81, c_j11, rfl, rfl, c_t11, c_n11, by decide +kernel⟩
theorem fl_M_84 : m_FL "RustFamilyModel" 84 11 0 false .int := ⟨c_R11, c_T11, 51, c_y11, rfl, by decide, w_fl_M_84, c_j11, rfl, rfl, c_t11, c_n11, by decide +kernel⟩
theorem fl_M_87 : m_FL "RustFamilyModel" 87 11 2 false .long := ⟨c_R11, c_T11, 51, c_y11, rfl, by decide, w_fl_M_87, c_j11, rfl, rfl, c_t11, c_n11, by decide +kernel⟩
theorem fl_M_124 : m_FL "RustFamilyModel" 124 11 9 false .int := ⟨c_R11, c_T11, 51, c_y11, rfl, by decide, w_fl_M_124, c_j11, rfl, rfl, c_t11, c_n11, by decide +kernel⟩
theorem fl_M_127 : m_FL "RustFamilyModel" 127 11 16 false .int := ⟨c_R11, c_T11, 51, c_y11, rfl, by decide, w_fl_M_127, c_j11, rfl, rfl, c_t11, c_n11, by decide +kernel⟩
theorem fl_M_130 : m_FL "RustFamilyModel" 130 11 15 false .int := ⟨c_R11, c_T11, 51, c_y11, rfl, by decide, w_fl_M_130, c_j11, rfl, rfl, c_t11, c_n11, by decide +kernel⟩
theorem fl_M_136 : m_FL "RustFamilyModel" 136 11 14 false .int := ⟨c_R11, c_T11, 51, c_y11, rfl, by decide, w_fl_M_136, c_j11, rfl, rfl, c_t11, c_n11, by decide +kernel⟩
theorem fl_M_142 : m_FL "RustFamilyModel" 142 11 19 false .long := ⟨c_R11, c_T11, 51, c_y11, rfl, by decide, w_fl_M_142, c_j11, rfl, rfl, c_t11, c_n11, by decide +kernel⟩
theorem fl_M_149 : m_FL "RustFamilyModel" 149 11 18 false .int := ⟨c_R11, c_T11, 51, c_y11, rfl, by decide, w_fl_M_149, c_j11, rfl, rfl, c_t11, c_n11, by decide +kernel⟩
theorem fl_M_155 : m_FL "RustFamilyModel" 155 11 17 false .int := ⟨c_R11, c_T11, 51, c_y11, rfl, by decide, w_fl_M_155, c_j11, rfl, rfl, c_t11, c_n11, by decide +kernel⟩
theorem fl_M_218 : m_FL "RustFamilyModel" 218 11 12 false .int := ⟨c_R11, c_T11, 51, c_y11, rfl, by decide, w_fl_M_218, c_j11, rfl, rfl, c_t11, c_n11, by decide +kernel⟩
theorem fl_M_221 : m_FL "RustFamilyModel" 221 11 13 false .int := ⟨c_R11, c_T11, 51, c_y11, rfl, by decide, w_fl_M_221, c_j11, rfl, rfl, c_t11, c_n11, by decide +kernel⟩
theorem fl_M_241 : m_FL "RustFamilyModel" 241 11 8 false .int := ⟨c_R11, c_T11, 51, c_y11, rfl, by decide, w_fl_M_241, c_j11, rfl, rfl, c_t11, c_n11, by decide +kernel⟩
theorem fl_M_256 : m_FL "RustFamilyModel" 256 11 25 false .int := ⟨c_R11, c_T11, 51, c_y11, rfl, by decide, w_fl_M_256, c_j11, rfl, rfl, c_t11, c_n11, by decide +kernel⟩
theorem fl_M_304 : m_FL "RustFamilyModel" 304 11 26 false .int := ⟨c_R11, c_T11, 51, c_y11, rfl, by decide, w_fl_M_304, c_j11, rfl, rfl, c_t11, c_n11, by decide +kernel⟩
theorem fl_M_372 : m_FL "RustFamilyModel" 372 11 27 false .int := ⟨c_R11, c_T11, 51, c_y11, rfl, by decide, w_fl_M_372, c_j11, rfl, rfl, c_t11, c_n11, by decide +kernel⟩
theorem fl_M_421 : m_FL "RustFamilyModel" 421 11 28 false .int := ⟨c_R11, c_T11, 51, c_y11, rfl, by decide, w_fl_M_421, c_j11, rfl, rfl, c_t11, c_n11, by decide +kernel⟩
theorem fl_M_445 : m_FL "RustFamilyModel" 445 11 29 false .int := ⟨c_R11, c_T11, 51, c_y11, rfl, by decide, w_fl_M_445, c_j11, rfl, rfl, c_t11, c_n11, by decide +kernel⟩
theorem fl_M_460 : m_FL "RustFamilyModel" 460 11 34 false .int := ⟨c_R11, c_T11, 51, c_y11, rfl, by decide, w_fl_M_460, c_j11, rfl, rfl, c_t11, c_n11, by decide +kernel⟩
theorem fl_M_505 : m_FL "RustFamilyModel" 505 11 38 false .int := ⟨c_R11, c_T11, 51, c_y11, rfl, by decide, w_fl_M_505, c_j11, rfl, rfl, c_t11, c_n11, by decide +kernel⟩
theorem fl_M_511 : m_FL "RustFamilyModel" 511 11 41 false .long := ⟨c_R11, c_T11, 51, c_y11, rfl, by decide, w_fl_M_511, c_j11, rfl, rfl, c_t11, c_n11, by decide +kernel⟩
theorem fl_M_526 : m_FL "RustFamilyModel" 526 11 45 false .int := ⟨c_R11, c_T11, 51, c_y11, rfl, by decide, w_fl_M_526, c_j11, rfl, rfl, c_t11, c_n11, by decide +kernel⟩
theorem fl_M_530 : m_FL "RustFamilyModel" 530 11 49 false .int := ⟨c_R11, c_T11, 51, c_y11, rfl, by decide, w_fl_M_530, c_j11, rfl, rfl, c_t11, c_n11, by decide +kernel⟩
theorem fl_M_533 : m_FL "RustFamilyModel" 533 11 48 false .int := ⟨c_R11, c_T11, 51, c_y11, rfl, by decide, w_fl_M_533, c_j11, rfl, rfl, c_t11, c_n11, by decide +kernel⟩
theorem fl_M_554 : m_FL "RustFamilyModel" 554 11 46 false .int := ⟨c_R11, c_T11, 51, c_y11, rfl, by decide, w_fl_M_554, c_j11, rfl, rfl, c_t11, c_n11, by decide +kernel⟩
theorem fl_M_557 : m_FL "RustFamilyModel" 557 11 44 false .boolean := ⟨c_R11, c_T11, 51, c_y11, rfl, by decide, w_fl_M_557, c_j11, rfl, rfl, c_t11, c_n11, by decide +kernel⟩
theorem fl_M_561 : m_FL "RustFamilyModel" 561 11 50 false .int := ⟨c_R11, c_T11, 51, c_y11, rfl, by decide, w_fl_M_561, c_j11, rfl, rfl, c_t11, c_n11, by decide +kernel⟩
theorem fl_M_564 : m_FL "RustFamilyModel" 564 11 47 false .int := ⟨c_R11, c_T11, 51, c_y11, rfl, by decide, w_fl_M_564, c_j11, rfl, rfl, c_t11, c_n11, by decide +kernel⟩
theorem fl_M_584 : m_FL "RustFamilyModel" 584 11 43 false .boolean := ⟨c_R11, c_T11, 51, c_y11, rfl, by decide, w_fl_M_584, c_j11, rfl, rfl, c_t11, c_n11, by decide +kernel⟩
theorem fl_M_587 : m_FL "RustFamilyModel" 587 11 24 false .int := ⟨c_R11, c_T11, 51, c_y11, rfl, by decide, w_fl_M_587, c_j11, rfl, rfl, c_t11, c_n11, by decide +kernel⟩
theorem nw_C_20 : m_NW "RustFamily" 20 1 3 := ⟨c_R1, c_T1, c_y1, rfl, w_kl_C_20, w_is_Tr, w_in_Tr, c_j1, c_t1, fun j hj => ⟨(m_ft 1).getD j 0, by have : j < 3 := hj; rw [List.getD_eq_getElem?_getD]; revert j; decide +kernel, by revert j; decide +kernel⟩⟩
theorem nw_C_27 : m_NW "RustFamily" 27 2 12 := ⟨c_R2, c_T2, c_y2, rfl, w_kl_C_27, w_is_Tx, w_in_Tx, c_j2, c_t2, fun j hj => ⟨(m_ft 2).getD j 0, by have : j < 12 := hj; rw [List.getD_eq_getElem?_getD]; revert j; decide +kernel, by revert j; decide +kernel⟩⟩
theorem nw_C_34 : m_NW "RustFamily" 34 3 10 := ⟨c_R3, c_T3, c_y3, rfl, w_kl_C_34, w_is_Fa, w_in_Fa, c_j3, c_t3, fun j hj => ⟨(m_ft 3).getD j 0, by have : j < 10 := hj; rw [List.getD_eq_getElem?_getD]; revert j; decide +kernel, by revert j; decide +kernel⟩⟩
theorem nw_C_44 : m_NW "RustFamily" 44 6 14 := ⟨c_R6, c_T6, c_y6, rfl, w_kl_C_44, w_is_Pl, w_in_Pl, c_j6, c_t6, fun j hj => ⟨(m_ft 6).getD j 0, by have : j < 14 := hj; rw [List.getD_eq_getElem?_getD]; revert j; decide +kernel, by revert j; decide +kernel⟩⟩
theorem nw_C_58 : m_NW "RustFamily" 58 7 5 := ⟨c_R7, c_T7, c_y7, rfl, w_kl_C_58, w_is_Ah, w_in_Ah, c_j7, c_t7, fun j hj => ⟨(m_ft 7).getD j 0, by have : j < 5 := hj; rw [List.getD_eq_getElem?_getD]; revert j; decide +kernel, by revert j; decide +kernel⟩⟩
theorem nw_C_65 : m_NW "RustFamily" 65 8 3 := ⟨c_R8, c_T8, c_y8, rfl, w_kl_C_65, w_is_Si, w_in_Si, c_j8, c_t8, fun j hj => ⟨(m_ft 8).getD j 0, by have : j < 3 := hj; rw [List.getD_eq_getElem?_getD]; revert j; decide +kernel, by revert j; decide +kernel⟩⟩
theorem nw_C_72 : m_NW "RustFamily" 72 9 6 := ⟨c_R9, c_T9, c_y9, rfl, w_kl_C_72, w_is_Ke, w_in_Ke, c_j9, c_t9, fun j hj => ⟨(m_ft 9).getD j 0, by have : j < 6 := hj; rw [List.getD_eq_getElem?_getD]; revert j; decide +kernel, by revert j; decide +kernel⟩⟩
theorem nw_C_79 : m_NW "RustFamily" 79 10 3 := ⟨c_R10, c_T10, c_y10, rfl, w_kl_C_79, w_is_Ga, w_in_Ga, c_j10, c_t10, fun j hj => ⟨(m_ft 10).getD j 0, by have : j < 3 := hj; rw [List.getD_eq_getElem?_getD]; revert j; decide +kernel, by revert j; decide +kernel⟩⟩
theorem nw_Ah_9 : m_NW "RustFamily$Ahead" 9 5 5 := ⟨c_R5, c_T5, c_y5, rfl, w_kl_Ah_9, w_is_Th, w_in_Th, c_j5, c_t5, fun j hj => ⟨(m_ft 5).getD j 0, by have : j < 5 := hj; rw [List.getD_eq_getElem?_getD]; revert j; decide +kernel, by revert j; decide +kernel⟩⟩
theorem nw_Fa_24 : m_NW "RustFamily$Family" 24 4 5 := ⟨c_R4, c_T4, c_y4, rfl, w_kl_Fa_24, w_is_Pe, w_in_Pe, c_j4, c_t4, fun j hj => ⟨(m_ft 4).getD j 0, by have : j < 5 := hj; rw [List.getD_eq_getElem?_getD]; revert j; decide +kernel, by revert j; decide +kernel⟩⟩
theorem nw_Fa_31 : m_NW "RustFamily$Family" 31 5 5 := ⟨c_R5, c_T5, c_y5, rfl, w_kl_Fa_31, w_is_Th, w_in_Th, c_j5, c_t5, fun j hj => ⟨(m_ft 5).getD j 0, by have : j < 5 := hj; rw [List.getD_eq_getElem?_getD]; revert j; decide +kernel, by revert j; decide +kernel⟩⟩
theorem nw_Fa_38 : m_NW "RustFamily$Family" 38 6 14 := ⟨c_R6, c_T6, c_y6, rfl, w_kl_Fa_38, w_is_Pl, w_in_Pl, c_j6, c_t6, fun j hj => ⟨(m_ft 6).getD j 0, by have : j < 14 := hj; rw [List.getD_eq_getElem?_getD]; revert j; decide +kernel, by revert j; decide +kernel⟩⟩
theorem nw_Ga_9 : m_NW "RustFamily$Game" 9 5 5 := ⟨c_R5, c_T5, c_y5, rfl, w_kl_Ga_9, w_is_Th, w_in_Th, c_j5, c_t5, fun j hj => ⟨(m_ft 5).getD j 0, by have : j < 5 := hj; rw [List.getD_eq_getElem?_getD]; revert j; decide +kernel, by revert j; decide +kernel⟩⟩
def k_C_init : mKt := (⟨"RustFamily", "<init>", "()V"⟩, prog_1_method_1_code, 2, (Option.none : Option Jvm.ClassFile.FieldType), fun _ _ => True)
theorem ci_C_init : m_CI k_C_init 0 := ⟨⟨w_co_C_init, w_in_C, by decide, Nat.le_of_ble_eq_true rfl, by decide, by decide, by decide +kernel, fun _ _ => trivial⟩, w_im_C_init, rfl, rfl⟩
def k_Tr_init : mKt := (⟨"RustFamily$Tray", "<init>", "()V"⟩, prog_12_method_1_code, 1, (Option.none : Option Jvm.ClassFile.FieldType), fun _ _ => True)
theorem ci_Tr_init : m_CI k_Tr_init 0 := ⟨⟨w_co_Tr_init, w_in_Tr, by decide, Nat.le_of_ble_eq_true rfl, by decide, by decide, by decide +kernel, fun _ _ => trivial⟩, w_im_Tr_init, rfl, rfl⟩
def k_Tx_init : mKt := (⟨"RustFamily$Text", "<init>", "()V"⟩, prog_10_method_1_code, 1, (Option.none : Option Jvm.ClassFile.FieldType), fun _ _ => True)
theorem ci_Tx_init : m_CI k_Tx_init 0 := ⟨⟨w_co_Tx_init, w_in_Tx, by decide, Nat.le_of_ble_eq_true rfl, by decide, by decide, by decide +kernel, fun _ _ => trivial⟩, w_im_Tx_init, rfl, rfl⟩
def k_Fa_init : mKt := (⟨"RustFamily$Family", "<init>", "()V"⟩, prog_3_method_1_code, 2, (Option.none : Option Jvm.ClassFile.FieldType), fun _ _ => True)
theorem ci_Fa_init : m_CI k_Fa_init 0 := ⟨⟨w_co_Fa_init, w_in_Fa, by decide, Nat.le_of_ble_eq_true rfl, by decide, by decide, by decide +kernel, fun _ _ => trivial⟩, w_im_Fa_init, rfl, rfl⟩
def k_Pe_init : mKt := (⟨"RustFamily$Person", "<init>", "()V"⟩, prog_6_method_1_code, 1, (Option.none : Option Jvm.ClassFile.FieldType), fun _ _ => True)
theorem ci_Pe_init : m_CI k_Pe_init 0 := ⟨⟨w_co_Pe_init, w_in_Pe, by decide, Nat.le_of_ble_eq_true rfl, by decide, by decide, by decide +kernel, fun _ _ => trivial⟩, w_im_Pe_init, rfl, rfl⟩
def k_Th_init : mKt := (⟨"RustFamily$Thing", "<init>", "()V"⟩, prog_11_method_1_code, 1, (Option.none : Option Jvm.ClassFile.FieldType), fun _ _ => True)
theorem ci_Th_init : m_CI k_Th_init 0 := ⟨⟨w_co_Th_init, w_in_Th, by decide, Nat.le_of_ble_eq_true rfl, by decide, by decide, by decide +kernel, fun _ _ => trivial⟩, w_im_Th_init, rfl, rfl⟩
def k_Pl_init : mKt := (⟨"RustFamily$Plan", "<init>", "()V"⟩, prog_7_method_1_code, 1, (Option.none : Option Jvm.ClassFile.FieldType), fun _ _ => True)
theorem ci_Pl_init : m_CI k_Pl_init 0 := ⟨⟨w_co_Pl_init, w_in_Pl, by decide, Nat.le_of_ble_eq_true rfl, by decide, by decide, by decide +kernel, fun _ _ => trivial⟩, w_im_Pl_init, rfl, rfl⟩
def k_Ah_init : mKt := (⟨"RustFamily$Ahead", "<init>", "()V"⟩, prog_2_method_1_code, 1, (Option.none : Option Jvm.ClassFile.FieldType), fun _ _ => True)
theorem ci_Ah_init : m_CI k_Ah_init 0 := ⟨⟨w_co_Ah_init, w_in_Ah, by decide, Nat.le_of_ble_eq_true rfl, by decide, by decide, by decide +kernel, fun _ _ => trivial⟩, w_im_Ah_init, rfl, rfl⟩
def k_Si_init : mKt := (⟨"RustFamily$Sight", "<init>", "()V"⟩, prog_9_method_1_code, 1, (Option.none : Option Jvm.ClassFile.FieldType), fun _ _ => True)
theorem ci_Si_init : m_CI k_Si_init 0 := ⟨⟨w_co_Si_init, w_in_Si, by decide, Nat.le_of_ble_eq_true rfl, by decide, by decide, by decide +kernel, fun _ _ => trivial⟩, w_im_Si_init, rfl, rfl⟩
def k_Ke_init : mKt := (⟨"RustFamily$Keepers", "<init>", "()V"⟩, prog_5_method_1_code, 1, (Option.none : Option Jvm.ClassFile.FieldType), fun _ _ => True)
theorem ci_Ke_init : m_CI k_Ke_init 0 := ⟨⟨w_co_Ke_init, w_in_Ke, by decide, Nat.le_of_ble_eq_true rfl, by decide, by decide, by decide +kernel, fun _ _ => trivial⟩, w_im_Ke_init, rfl, rfl⟩
def k_Ga_init : mKt := (⟨"RustFamily$Game", "<init>", "()V"⟩, prog_4_method_1_code, 2, (Option.none : Option Jvm.ClassFile.FieldType), fun _ _ => True)
theorem ci_Ga_init : m_CI k_Ga_init 0 := ⟨⟨w_co_Ga_init, w_in_Ga, by decide, Nat.le_of_ble_eq_true rfl, by decide, by decide, by decide +kernel, fun _ _ => trivial⟩, w_im_Ga_init, rfl, rfl⟩
def k_C_status : mKt := (⟨"RustFamily", "status", "()I"⟩, prog_1_method_2_code, 1, (Option.some Jvm.ClassFile.FieldType.int), fun _ _ => True)
theorem cv_C_status : m_CV k_C_status 0 := ⟨⟨w_co_C_status, w_in_C, by decide, Nat.le_of_ble_eq_true rfl, by decide, by decide, by decide +kernel, fun _ _ => trivial⟩, w_im_C_status, w_se_C_status⟩
def k_C_top : mKt := (⟨"RustFamily", "top", "()J"⟩, prog_1_method_3_code, 1, (Option.some Jvm.ClassFile.FieldType.long), fun _ _ => True)
theorem cv_C_top : m_CV k_C_top 0 := ⟨⟨w_co_C_top, w_in_C, by decide, Nat.le_of_ble_eq_true rfl, by decide, by decide, by decide +kernel, fun _ _ => trivial⟩, w_im_C_top, w_se_C_top⟩
def k_C_bottom : mKt := (⟨"RustFamily", "bottom", "()J"⟩, prog_1_method_4_code, 1, (Option.some Jvm.ClassFile.FieldType.long), fun _ _ => True)
theorem cv_C_bottom : m_CV k_C_bottom 0 := ⟨⟨w_co_C_bottom, w_in_C, by decide, Nat.le_of_ble_eq_true rfl, by decide, by decide, by decide +kernel, fun _ _ => trivial⟩, w_im_C_bottom, w_se_C_bottom⟩
def k_C_tray : mKt := (⟨"RustFamily", "tray", "(III)Z"⟩, prog_1_method_5_code, 4, (Option.some Jvm.ClassFile.FieldType.boolean), fun _ _ => True)
theorem cv_C_tray : m_CV k_C_tray 3 := ⟨⟨w_co_C_tray, w_in_C, by decide, Nat.le_of_ble_eq_true rfl, by decide, by decide, by decide +kernel, fun _ _ => trivial⟩, w_im_C_tray, w_se_C_tray⟩
def k_C_isTray : mKt := (⟨"RustFamily", "isTray", "(I)Z"⟩, prog_1_method_10_code, 1, (Option.some Jvm.ClassFile.FieldType.boolean), fun _ _ => True)
theorem cs_C_isTray : m_CS k_C_isTray 1 := ⟨⟨w_co_C_isTray, w_in_C, by decide, Nat.le_of_ble_eq_true rfl, by decide, by decide, by decide +kernel, fun _ _ => trivial⟩, w_st_C_isTray⟩
def k_Tr_lay : mKt := (⟨"RustFamily$Tray", "lay", "(II)V"⟩, prog_12_method_3_code, 3, (Option.none : Option Jvm.ClassFile.FieldType), fun _ _ => True)
theorem cv_Tr_lay : m_CV k_Tr_lay 2 := ⟨⟨w_co_Tr_lay, w_in_Tr, by decide, Nat.le_of_ble_eq_true rfl, by decide, by decide, by decide +kernel, fun _ _ => trivial⟩, w_im_Tr_lay, w_se_Tr_lay⟩
def k_JA_fill_aJJ : mKt := (⟨"java/util/Arrays", "fill", "([JJ)V"⟩, prog_21_method_101_code, 5, (Option.none : Option Jvm.ClassFile.FieldType), fun _ _ => True)
theorem cs_JA_fill_aJJ : m_CS k_JA_fill_aJJ 2 := ⟨⟨w_co_JA_fill_aJJ, w_in_JA, by decide, Nat.le_of_ble_eq_true rfl, by decide, by decide, by decide +kernel, fun _ _ => trivial⟩, w_st_JA_fill_aJJ⟩
def k_C_write : mKt := (⟨"RustFamily", "write", "(IIJ)Z"⟩, prog_1_method_6_code, 5, (Option.some Jvm.ClassFile.FieldType.boolean), fun _ _ => True)
theorem cv_C_write : m_CV k_C_write 3 := ⟨⟨w_co_C_write, w_in_C, by decide, Nat.le_of_ble_eq_true rfl, by decide, by decide, by decide +kernel, fun _ _ => trivial⟩, w_im_C_write, w_se_C_write⟩
def k_C_placeStatus : mKt := (⟨"RustFamily", "placeStatus", "(II)I"⟩, prog_1_method_12_code, 4, (Option.some Jvm.ClassFile.FieldType.int), fun _ _ => True)
theorem cv_C_placeStatus : m_CV k_C_placeStatus 2 := ⟨⟨w_co_C_placeStatus, w_in_C, by decide, Nat.le_of_ble_eq_true rfl, by decide, by decide, by decide +kernel, fun _ _ => trivial⟩, w_im_C_placeStatus, w_se_C_placeStatus⟩
def k_C_trayStatus : mKt := (⟨"RustFamily", "trayStatus", "(I)I"⟩, prog_1_method_11_code, 2, (Option.some Jvm.ClassFile.FieldType.int), fun _ _ => True)
theorem cv_C_trayStatus : m_CV k_C_trayStatus 1 := ⟨⟨w_co_C_trayStatus, w_in_C, by decide, Nat.le_of_ble_eq_true rfl, by decide, by decide, by decide +kernel, fun _ _ => trivial⟩, w_im_C_trayStatus, w_se_C_trayStatus⟩
def k_Tr_isMissing : mKt := (⟨"RustFamily$Tray", "isMissing", "()Z"⟩, prog_12_method_2_code, 1, (Option.some Jvm.ClassFile.FieldType.boolean), fun _ _ => True)
theorem cv_Tr_isMissing : m_CV k_Tr_isMissing 0 := ⟨⟨w_co_Tr_isMissing, w_in_Tr, by decide, Nat.le_of_ble_eq_true rfl, by decide, by decide, by decide +kernel, fun _ _ => trivial⟩, w_im_Tr_isMissing, w_se_Tr_isMissing⟩
def k_Tr_holds : mKt := (⟨"RustFamily$Tray", "holds", "(II)Z"⟩, prog_12_method_4_code, 3, (Option.some Jvm.ClassFile.FieldType.boolean), fun _ _ => True)
theorem cv_Tr_holds : m_CV k_Tr_holds 2 := ⟨⟨w_co_Tr_holds, w_in_Tr, by decide, Nat.le_of_ble_eq_true rfl, by decide, by decide, by decide +kernel, fun _ _ => trivial⟩, w_im_Tr_holds, w_se_Tr_holds⟩
def k_Tr_put : mKt := (⟨"RustFamily$Tray", "put", "(IJ)V"⟩, prog_12_method_5_code, 4, (Option.none : Option Jvm.ClassFile.FieldType), fun _ _ => True)
theorem cv_Tr_put : m_CV k_Tr_put 2 := ⟨⟨w_co_Tr_put, w_in_Tr, by decide, Nat.le_of_ble_eq_true rfl, by decide, by decide, by decide +kernel, fun _ _ => trivial⟩, w_im_Tr_put, w_se_Tr_put⟩
def k_C_read : mKt := (⟨"RustFamily", "read", "(II)J"⟩, prog_1_method_7_code, 3, (Option.some Jvm.ClassFile.FieldType.long), fun _ _ => True)
theorem cv_C_read : m_CV k_C_read 2 := ⟨⟨w_co_C_read, w_in_C, by decide, Nat.le_of_ble_eq_true rfl, by decide, by decide, by decide +kernel, fun _ _ => trivial⟩, w_im_C_read, w_se_C_read⟩
def k_C_pour : mKt := (⟨"RustFamily", "pour", "(IIIII)Z"⟩, prog_1_method_8_code, 6, (Option.some Jvm.ClassFile.FieldType.boolean), fun _ _ => True)
theorem cv_C_pour : m_CV k_C_pour 5 := ⟨⟨w_co_C_pour, w_in_C, by decide, Nat.le_of_ble_eq_true rfl, by decide, by decide, by decide +kernel, fun _ _ => trivial⟩, w_im_C_pour, w_se_C_pour⟩
def k_C_pourStatus : mKt := (⟨"RustFamily", "pourStatus", "(IIIII)I"⟩, prog_1_method_9_code, 6, (Option.some Jvm.ClassFile.FieldType.int), fun _ _ => True)
theorem cv_C_pourStatus : m_CV k_C_pourStatus 5 := ⟨⟨w_co_C_pourStatus, w_in_C, by decide, Nat.le_of_ble_eq_true rfl, by decide, by decide, by decide +kernel, fun _ _ => trivial⟩, w_im_C_pourStatus, w_se_C_pourStatus⟩
def k_C_feed : mKt := (⟨"RustFamily", "feed", "(IIIII)I"⟩, prog_1_method_13_code, 6, (Option.some Jvm.ClassFile.FieldType.int), fun _ _ => True)
theorem cv_C_feed : m_CV k_C_feed 5 := ⟨⟨w_co_C_feed, w_in_C, by decide, Nat.le_of_ble_eq_true rfl, by decide, by decide, by decide +kernel, fun _ _ => trivial⟩, w_im_C_feed, w_se_C_feed⟩
def k_Tx_put : mKt := (⟨"RustFamily$Text", "put", "(I)V"⟩, prog_10_method_2_code, 3, (Option.none : Option Jvm.ClassFile.FieldType), fun _ _ => True)
theorem cv_Tx_put : m_CV k_Tx_put 1 := ⟨⟨w_co_Tx_put, w_in_Tx, by decide, Nat.le_of_ble_eq_true rfl, by decide, by decide, by decide +kernel, fun _ _ => trivial⟩, w_im_Tx_put, w_se_Tx_put⟩
def k_C_family : mKt := (⟨"RustFamily", "family", "(I)I"⟩, prog_1_method_14_code, 3, (Option.some Jvm.ClassFile.FieldType.int), fun _ _ => True)
theorem cv_C_family : m_CV k_C_family 1 := ⟨⟨w_co_C_family, w_in_C, by decide, Nat.le_of_ble_eq_true rfl, by decide, by decide, by decide +kernel, fun _ _ => trivial⟩, w_im_C_family, w_se_C_family⟩
def k_Tx_open : mKt := (⟨"RustFamily$Text", "open", "(I)V"⟩, prog_10_method_3_code, 2, (Option.none : Option Jvm.ClassFile.FieldType), fun _ _ => True)
theorem cv_Tx_open : m_CV k_Tx_open 1 := ⟨⟨w_co_Tx_open, w_in_Tx, by decide, Nat.le_of_ble_eq_true rfl, by decide, by decide, by decide +kernel, fun _ _ => trivial⟩, w_im_Tx_open, w_se_Tx_open⟩
def k_Tx_advance : mKt := (⟨"RustFamily$Text", "advance", "()V"⟩, prog_10_method_4_code, 1, (Option.none : Option Jvm.ClassFile.FieldType), fun _ _ => True)
theorem cv_Tx_advance : m_CV k_Tx_advance 0 := ⟨⟨w_co_Tx_advance, w_in_Tx, by decide, Nat.le_of_ble_eq_true rfl, by decide, by decide, by decide +kernel, fun _ _ => trivial⟩, w_im_Tx_advance, w_se_Tx_advance⟩
def k_Tx_skipBlanks : mKt := (⟨"RustFamily$Text", "skipBlanks", "()V"⟩, prog_10_method_5_code, 1, (Option.none : Option Jvm.ClassFile.FieldType), fun _ _ => True)
theorem cv_Tx_skipBlanks : m_CV k_Tx_skipBlanks 0 := ⟨⟨w_co_Tx_skipBlanks, w_in_Tx, by decide, Nat.le_of_ble_eq_true rfl, by decide, by decide, by decide +kernel, fun _ _ => trivial⟩, w_im_Tx_skipBlanks, w_se_Tx_skipBlanks⟩
def k_Tx_isLetter : mKt := (⟨"RustFamily$Text", "isLetter", "(B)Z"⟩, prog_10_method_8_code, 1, (Option.some Jvm.ClassFile.FieldType.boolean), fun _ _ => True)
theorem cs_Tx_isLetter : m_CS k_Tx_isLetter 1 := ⟨⟨w_co_Tx_isLetter, w_in_Tx, by decide, Nat.le_of_ble_eq_true rfl, by decide, by decide, by decide +kernel, fun _ _ => trivial⟩, w_st_Tx_isLetter⟩
def k_Tx_scanWord : mKt := (⟨"RustFamily$Text", "scanWord", "()V"⟩, prog_10_method_6_code, 1, (Option.none : Option Jvm.ClassFile.FieldType), fun _ _ => True)
theorem cv_Tx_scanWord : m_CV k_Tx_scanWord 0 := ⟨⟨w_co_Tx_scanWord, w_in_Tx, by decide, Nat.le_of_ble_eq_true rfl, by decide, by decide, by decide +kernel, fun _ _ => trivial⟩, w_im_Tx_scanWord, w_se_Tx_scanWord⟩
def k_Tx_isDigit : mKt := (⟨"RustFamily$Text", "isDigit", "(B)Z"⟩, prog_10_method_9_code, 1, (Option.some Jvm.ClassFile.FieldType.boolean), fun _ _ => True)
theorem cs_Tx_isDigit : m_CS k_Tx_isDigit 1 := ⟨⟨w_co_Tx_isDigit, w_in_Tx, by decide, Nat.le_of_ble_eq_true rfl, by decide, by decide, by decide +kernel, fun _ _ => trivial⟩, w_st_Tx_isDigit⟩
def k_Tx_scanNumber : mKt := (⟨"RustFamily$Text", "scanNumber", "()V"⟩, prog_10_method_7_code, 1, (Option.none : Option Jvm.ClassFile.FieldType), fun _ _ => True)
theorem cv_Tx_scanNumber : m_CV k_Tx_scanNumber 0 := ⟨⟨w_co_Tx_scanNumber, w_in_Tx, by decide, Nat.le_of_ble_eq_true rfl, by decide, by decide, by decide +kernel, fun _ _ => trivial⟩, w_im_Tx_scanNumber, w_se_Tx_scanNumber⟩
def k_Re_takeFamily : mKt := (⟨"RustFamily$Reader", "takeFamily", "(LRustFamily$Text;LRustFamily$Family;)Z"⟩, prog_8_method_2_code, 4, (Option.some Jvm.ClassFile.FieldType.boolean), fun _ _ => True)
theorem cs_Re_takeFamily : m_CS k_Re_takeFamily 2 := ⟨⟨w_co_Re_takeFamily, w_in_Re, by decide, Nat.le_of_ble_eq_true rfl, by decide, by decide, by decide +kernel, fun _ _ => trivial⟩, w_st_Re_takeFamily⟩
def k_Re_clear : mKt := (⟨"RustFamily$Reader", "clear", "(LRustFamily$Family;)V"⟩, prog_8_method_3_code, 1, (Option.none : Option Jvm.ClassFile.FieldType), fun _ _ => True)
theorem cs_Re_clear : m_CS k_Re_clear 1 := ⟨⟨w_co_Re_clear, w_in_Re, by decide, Nat.le_of_ble_eq_true rfl, by decide, by decide, by decide +kernel, fun _ _ => trivial⟩, w_st_Re_clear⟩
def k_Pl_clear : mKt := (⟨"RustFamily$Plan", "clear", "()V"⟩, prog_7_method_2_code, 1, (Option.none : Option Jvm.ClassFile.FieldType), fun _ _ => True)
theorem cv_Pl_clear : m_CV k_Pl_clear 0 := ⟨⟨w_co_Pl_clear, w_in_Pl, by decide, Nat.le_of_ble_eq_true rfl, by decide, by decide, by decide +kernel, fun _ _ => trivial⟩, w_im_Pl_clear, w_se_Pl_clear⟩
def k_Re_setDefaults : mKt := (⟨"RustFamily$Reader", "setDefaults", "(LRustFamily$Family;)V"⟩, prog_8_method_4_code, 1, (Option.none : Option Jvm.ClassFile.FieldType), fun _ _ => True)
theorem cs_Re_setDefaults : m_CS k_Re_setDefaults 1 := ⟨⟨w_co_Re_setDefaults, w_in_Re, by decide, Nat.le_of_ble_eq_true rfl, by decide, by decide, by decide +kernel, fun _ _ => trivial⟩, w_st_Re_setDefaults⟩
def k_Tx_is : mKt := (⟨"RustFamily$Text", "is", "(Ljava/lang/String;)Z"⟩, prog_10_method_11_code, 3, (Option.some Jvm.ClassFile.FieldType.boolean), fun _ _ => True)
theorem cv_Tx_is : m_CV k_Tx_is 1 := ⟨⟨w_co_Tx_is, w_in_Tx, by decide, Nat.le_of_ble_eq_true rfl, by decide, by decide, by decide +kernel, fun _ _ => trivial⟩, w_im_Tx_is, w_se_Tx_is⟩
def k_Re_takePerson : mKt := (⟨"RustFamily$Reader", "takePerson", "(LRustFamily$Text;LRustFamily$Family;)Z"⟩, prog_8_method_8_code, 5, (Option.some Jvm.ClassFile.FieldType.boolean), fun _ _ => True)
theorem cs_Re_takePerson : m_CS k_Re_takePerson 2 := ⟨⟨w_co_Re_takePerson, w_in_Re, by decide, Nat.le_of_ble_eq_true rfl, by decide, by decide, by decide +kernel, fun _ _ => trivial⟩, w_st_Re_takePerson⟩
def k_Tx_refuse : mKt := (⟨"RustFamily$Text", "refuse", "(I)Z"⟩, prog_10_method_10_code, 2, (Option.some Jvm.ClassFile.FieldType.boolean), fun _ _ => True)
theorem cv_Tx_refuse : m_CV k_Tx_refuse 1 := ⟨⟨w_co_Tx_refuse, w_in_Tx, by decide, Nat.le_of_ble_eq_true rfl, by decide, by decide, by decide +kernel, fun _ _ => trivial⟩, w_im_Tx_refuse, w_se_Tx_refuse⟩
def k_Re_isNew : mKt := (⟨"RustFamily$Reader", "isNew", "(LRustFamily$Family;J)Z"⟩, prog_8_method_7_code, 3, (Option.some Jvm.ClassFile.FieldType.boolean), fun _ _ => True)
theorem cs_Re_isNew : m_CS k_Re_isNew 2 := ⟨⟨w_co_Re_isNew, w_in_Re, by decide, Nat.le_of_ble_eq_true rfl, by decide, by decide, by decide +kernel, fun _ _ => trivial⟩, w_st_Re_isNew⟩
def k_Fa_personNamed : mKt := (⟨"RustFamily$Family", "personNamed", "(J)I"⟩, prog_3_method_5_code, 4, (Option.some Jvm.ClassFile.FieldType.int), fun _ _ => True)
theorem cv_Fa_personNamed : m_CV k_Fa_personNamed 1 := ⟨⟨w_co_Fa_personNamed, w_in_Fa, by decide, Nat.le_of_ble_eq_true rfl, by decide, by decide, by decide +kernel, fun _ _ => trivial⟩, w_im_Fa_personNamed, w_se_Fa_personNamed⟩
def k_Fa_thingNamed : mKt := (⟨"RustFamily$Family", "thingNamed", "(J)I"⟩, prog_3_method_6_code, 4, (Option.some Jvm.ClassFile.FieldType.int), fun _ _ => True)
theorem cv_Fa_thingNamed : m_CV k_Fa_thingNamed 1 := ⟨⟨w_co_Fa_thingNamed, w_in_Fa, by decide, Nat.le_of_ble_eq_true rfl, by decide, by decide, by decide +kernel, fun _ _ => trivial⟩, w_im_Fa_thingNamed, w_se_Fa_thingNamed⟩
def k_Tx_takeName : mKt := (⟨"RustFamily$Text", "takeName", "(Z)Z"⟩, prog_10_method_16_code, 2, (Option.some Jvm.ClassFile.FieldType.boolean), fun _ _ => True)
theorem cv_Tx_takeName : m_CV k_Tx_takeName 1 := ⟨⟨w_co_Tx_takeName, w_in_Tx, by decide, Nat.le_of_ble_eq_true rfl, by decide, by decide, by decide +kernel, fun _ _ => trivial⟩, w_im_Tx_takeName, w_se_Tx_takeName⟩
def k_Tx_isReserved : mKt := (⟨"RustFamily$Text", "isReserved", "()Z"⟩, prog_10_method_12_code, 1, (Option.some Jvm.ClassFile.FieldType.boolean), fun _ _ => True)
theorem cv_Tx_isReserved : m_CV k_Tx_isReserved 0 := ⟨⟨w_co_Tx_isReserved, w_in_Tx, by decide, Nat.le_of_ble_eq_true rfl, by decide, by decide, by decide +kernel, fun _ _ => trivial⟩, w_im_Tx_isReserved, w_se_Tx_isReserved⟩
def k_Tx_takeWord : mKt := (⟨"RustFamily$Text", "takeWord", "(Ljava/lang/String;)Z"⟩, prog_10_method_13_code, 2, (Option.some Jvm.ClassFile.FieldType.boolean), fun _ _ => True)
theorem cv_Tx_takeWord : m_CV k_Tx_takeWord 1 := ⟨⟨w_co_Tx_takeWord, w_in_Tx, by decide, Nat.le_of_ble_eq_true rfl, by decide, by decide, by decide +kernel, fun _ _ => trivial⟩, w_im_Tx_takeWord, w_se_Tx_takeWord⟩
def k_Tx_takeNumber : mKt := (⟨"RustFamily$Text", "takeNumber", "(II)Z"⟩, prog_10_method_15_code, 3, (Option.some Jvm.ClassFile.FieldType.boolean), fun _ _ => True)
theorem cv_Tx_takeNumber : m_CV k_Tx_takeNumber 2 := ⟨⟨w_co_Tx_takeNumber, w_in_Tx, by decide, Nat.le_of_ble_eq_true rfl, by decide, by decide, by decide +kernel, fun _ _ => trivial⟩, w_im_Tx_takeNumber, w_se_Tx_takeNumber⟩
def k_C_isWithin : mKt := (⟨"RustFamily", "isWithin", "(III)Z"⟩, prog_1_method_25_code, 3, (Option.some Jvm.ClassFile.FieldType.boolean), fun _ _ => True)
theorem cs_C_isWithin : m_CS k_C_isWithin 3 := ⟨⟨w_co_C_isWithin, w_in_C, by decide, Nat.le_of_ble_eq_true rfl, by decide, by decide, by decide +kernel, fun _ _ => trivial⟩, w_st_C_isWithin⟩
def k_Tx_takeEndSign : mKt := (⟨"RustFamily$Text", "takeEndSign", "()Z"⟩, prog_10_method_14_code, 1, (Option.some Jvm.ClassFile.FieldType.boolean), fun _ _ => True)
theorem cv_Tx_takeEndSign : m_CV k_Tx_takeEndSign 0 := ⟨⟨w_co_Tx_takeEndSign, w_in_Tx, by decide, Nat.le_of_ble_eq_true rfl, by decide, by decide, by decide +kernel, fun _ _ => trivial⟩, w_im_Tx_takeEndSign, w_se_Tx_takeEndSign⟩
def k_Fa_addPerson : mKt := (⟨"RustFamily$Family", "addPerson", "(JIZ)V"⟩, prog_3_method_3_code, 6, (Option.none : Option Jvm.ClassFile.FieldType), fun _ _ => True)
theorem cv_Fa_addPerson : m_CV k_Fa_addPerson 3 := ⟨⟨w_co_Fa_addPerson, w_in_Fa, by decide, Nat.le_of_ble_eq_true rfl, by decide, by decide, by decide +kernel, fun _ _ => trivial⟩, w_im_Fa_addPerson, w_se_Fa_addPerson⟩
def k_JA_fill_aII : mKt := (⟨"java/util/Arrays", "fill", "([II)V"⟩, prog_21_method_103_code, 4, (Option.none : Option Jvm.ClassFile.FieldType), fun _ _ => True)
theorem cs_JA_fill_aII : m_CS k_JA_fill_aII 2 := ⟨⟨w_co_JA_fill_aII, w_in_JA, by decide, Nat.le_of_ble_eq_true rfl, by decide, by decide, by decide +kernel, fun _ _ => trivial⟩, w_st_JA_fill_aII⟩
def k_Re_takeThing : mKt := (⟨"RustFamily$Reader", "takeThing", "(LRustFamily$Text;LRustFamily$Family;)Z"⟩, prog_8_method_9_code, 6, (Option.some Jvm.ClassFile.FieldType.boolean), fun _ _ => True)
theorem cs_Re_takeThing : m_CS k_Re_takeThing 2 := ⟨⟨w_co_Re_takeThing, w_in_Re, by decide, Nat.le_of_ble_eq_true rfl, by decide, by decide, by decide +kernel, fun _ _ => trivial⟩, w_st_Re_takeThing⟩
def k_Fa_addThing : mKt := (⟨"RustFamily$Family", "addThing", "(JII)V"⟩, prog_3_method_4_code, 6, (Option.none : Option Jvm.ClassFile.FieldType), fun _ _ => True)
theorem cv_Fa_addThing : m_CV k_Fa_addThing 3 := ⟨⟨w_co_Fa_addThing, w_in_Fa, by decide, Nat.le_of_ble_eq_true rfl, by decide, by decide, by decide +kernel, fun _ _ => trivial⟩, w_im_Fa_addThing, w_se_Fa_addThing⟩
def k_Re_takeLove : mKt := (⟨"RustFamily$Reader", "takeLove", "(LRustFamily$Text;LRustFamily$Family;)Z"⟩, prog_8_method_10_code, 4, (Option.some Jvm.ClassFile.FieldType.boolean), fun _ _ => True)
theorem cs_Re_takeLove : m_CS k_Re_takeLove 2 := ⟨⟨w_co_Re_takeLove, w_in_Re, by decide, Nat.le_of_ble_eq_true rfl, by decide, by decide, by decide +kernel, fun _ _ => trivial⟩, w_st_Re_takeLove⟩
def k_Re_takeRule : mKt := (⟨"RustFamily$Reader", "takeRule", "(LRustFamily$Text;LRustFamily$Family;)Z"⟩, prog_8_method_5_code, 3, (Option.some Jvm.ClassFile.FieldType.boolean), fun _ _ => True)
theorem cs_Re_takeRule : m_CS k_Re_takeRule 2 := ⟨⟨w_co_Re_takeRule, w_in_Re, by decide, Nat.le_of_ble_eq_true rfl, by decide, by decide, by decide +kernel, fun _ _ => trivial⟩, w_st_Re_takeRule⟩
def k_Re_takeOnce : mKt := (⟨"RustFamily$Reader", "takeOnce", "(LRustFamily$Text;III)Z"⟩, prog_8_method_6_code, 4, (Option.some Jvm.ClassFile.FieldType.boolean), fun _ _ => True)
theorem cs_Re_takeOnce : m_CS k_Re_takeOnce 4 := ⟨⟨w_co_Re_takeOnce, w_in_Re, by decide, Nat.le_of_ble_eq_true rfl, by decide, by decide, by decide +kernel, fun _ _ => trivial⟩, w_st_Re_takeOnce⟩
def k_C_years : mKt := (⟨"RustFamily", "years", "(I)I"⟩, prog_1_method_15_code, 3, (Option.some Jvm.ClassFile.FieldType.int), fun _ _ => True)
theorem cv_C_years : m_CV k_C_years 1 := ⟨⟨w_co_C_years, w_in_C, by decide, Nat.le_of_ble_eq_true rfl, by decide, by decide, by decide +kernel, fun _ _ => trivial⟩, w_im_C_years, w_se_C_years⟩
def k_Re_takePlan : mKt := (⟨"RustFamily$Reader", "takePlan", "(LRustFamily$Text;LRustFamily$Family;LRustFamily$Plan;)Z"⟩, prog_8_method_11_code, 5, (Option.some Jvm.ClassFile.FieldType.boolean), fun _ _ => True)
theorem cs_Re_takePlan : m_CS k_Re_takePlan 3 := ⟨⟨w_co_Re_takePlan, w_in_Re, by decide, Nat.le_of_ble_eq_true rfl, by decide, by decide, by decide +kernel, fun _ _ => trivial⟩, w_st_Re_takePlan⟩
def k_Pl_latestOpen : mKt := (⟨"RustFamily$Plan", "latestOpen", "()I"⟩, prog_7_method_5_code, 2, (Option.some Jvm.ClassFile.FieldType.int), fun _ _ => True)
theorem cv_Pl_latestOpen : m_CV k_Pl_latestOpen 0 := ⟨⟨w_co_Pl_latestOpen, w_in_Pl, by decide, Nat.le_of_ble_eq_true rfl, by decide, by decide, by decide +kernel, fun _ _ => trivial⟩, w_im_Pl_latestOpen, w_se_Pl_latestOpen⟩
def k_Re_closeBlock : mKt := (⟨"RustFamily$Reader", "closeBlock", "(LRustFamily$Text;LRustFamily$Plan;)Z"⟩, prog_8_method_12_code, 3, (Option.some Jvm.ClassFile.FieldType.boolean), fun _ _ => True)
theorem cs_Re_closeBlock : m_CS k_Re_closeBlock 2 := ⟨⟨w_co_Re_closeBlock, w_in_Re, by decide, Nat.le_of_ble_eq_true rfl, by decide, by decide, by decide +kernel, fun _ _ => trivial⟩, w_st_Re_closeBlock⟩
def k_Re_openStep : mKt := (⟨"RustFamily$Reader", "openStep", "(LRustFamily$Text;LRustFamily$Plan;I)Z"⟩, prog_8_method_14_code, 4, (Option.some Jvm.ClassFile.FieldType.boolean), fun _ _ => True)
theorem cs_Re_openStep : m_CS k_Re_openStep 3 := ⟨⟨w_co_Re_openStep, w_in_Re, by decide, Nat.le_of_ble_eq_true rfl, by decide, by decide, by decide +kernel, fun _ _ => trivial⟩, w_st_Re_openStep⟩
def k_Pl_openBlocks : mKt := (⟨"RustFamily$Plan", "openBlocks", "()I"⟩, prog_7_method_4_code, 3, (Option.some Jvm.ClassFile.FieldType.int), fun _ _ => True)
theorem cv_Pl_openBlocks : m_CV k_Pl_openBlocks 0 := ⟨⟨w_co_Pl_openBlocks, w_in_Pl, by decide, Nat.le_of_ble_eq_true rfl, by decide, by decide, by decide +kernel, fun _ _ => trivial⟩, w_im_Pl_openBlocks, w_se_Pl_openBlocks⟩
def k_Re_takeTest : mKt := (⟨"RustFamily$Reader", "takeTest", "(LRustFamily$Text;LRustFamily$Family;LRustFamily$Plan;)Z"⟩, prog_8_method_16_code, 3, (Option.some Jvm.ClassFile.FieldType.boolean), fun _ _ => True)
theorem cs_Re_takeTest : m_CS k_Re_takeTest 3 := ⟨⟨w_co_Re_takeTest, w_in_Re, by decide, Nat.le_of_ble_eq_true rfl, by decide, by decide, by decide +kernel, fun _ _ => trivial⟩, w_st_Re_takeTest⟩
def k_Re_takeThingName : mKt := (⟨"RustFamily$Reader", "takeThingName", "(LRustFamily$Text;LRustFamily$Family;LRustFamily$Plan;)Z"⟩, prog_8_method_20_code, 4, (Option.some Jvm.ClassFile.FieldType.boolean), fun _ _ => True)
theorem cs_Re_takeThingName : m_CS k_Re_takeThingName 3 := ⟨⟨w_co_Re_takeThingName, w_in_Re, by decide, Nat.le_of_ble_eq_true rfl, by decide, by decide, by decide +kernel, fun _ _ => trivial⟩, w_st_Re_takeThingName⟩
def k_Re_takePersonName : mKt := (⟨"RustFamily$Reader", "takePersonName", "(LRustFamily$Text;LRustFamily$Family;LRustFamily$Plan;)Z"⟩, prog_8_method_19_code, 4, (Option.some Jvm.ClassFile.FieldType.boolean), fun _ _ => True)
theorem cs_Re_takePersonName : m_CS k_Re_takePersonName 3 := ⟨⟨w_co_Re_takePersonName, w_in_Re, by decide, Nat.le_of_ble_eq_true rfl, by decide, by decide, by decide +kernel, fun _ _ => trivial⟩, w_st_Re_takePersonName⟩
def k_Re_takeCompares : mKt := (⟨"RustFamily$Reader", "takeCompares", "(LRustFamily$Text;LRustFamily$Plan;)Z"⟩, prog_8_method_17_code, 2, (Option.some Jvm.ClassFile.FieldType.boolean), fun _ _ => True)
theorem cs_Re_takeCompares : m_CS k_Re_takeCompares 2 := ⟨⟨w_co_Re_takeCompares, w_in_Re, by decide, Nat.le_of_ble_eq_true rfl, by decide, by decide, by decide +kernel, fun _ _ => trivial⟩, w_st_Re_takeCompares⟩
def k_Re_takeMuch : mKt := (⟨"RustFamily$Reader", "takeMuch", "(LRustFamily$Text;LRustFamily$Plan;II)Z"⟩, prog_8_method_18_code, 5, (Option.some Jvm.ClassFile.FieldType.boolean), fun _ _ => True)
theorem cs_Re_takeMuch : m_CS k_Re_takeMuch 4 := ⟨⟨w_co_Re_takeMuch, w_in_Re, by decide, Nat.le_of_ble_eq_true rfl, by decide, by decide, by decide +kernel, fun _ _ => trivial⟩, w_st_Re_takeMuch⟩
def k_Re_stepKind : mKt := (⟨"RustFamily$Reader", "stepKind", "(LRustFamily$Text;)I"⟩, prog_8_method_13_code, 1, (Option.some Jvm.ClassFile.FieldType.int), fun _ _ => True)
theorem cs_Re_stepKind : m_CS k_Re_stepKind 1 := ⟨⟨w_co_Re_stepKind, w_in_Re, by decide, Nat.le_of_ble_eq_true rfl, by decide, by decide, by decide +kernel, fun _ _ => trivial⟩, w_st_Re_stepKind⟩
def k_Re_takeRest : mKt := (⟨"RustFamily$Reader", "takeRest", "(LRustFamily$Text;LRustFamily$Family;LRustFamily$Plan;)Z"⟩, prog_8_method_15_code, 3, (Option.some Jvm.ClassFile.FieldType.boolean), fun _ _ => True)
theorem cs_Re_takeRest : m_CS k_Re_takeRest 3 := ⟨⟨w_co_Re_takeRest, w_in_Re, by decide, Nat.le_of_ble_eq_true rfl, by decide, by decide, by decide +kernel, fun _ _ => trivial⟩, w_st_Re_takeRest⟩
def k_C_fault : mKt := (⟨"RustFamily", "fault", "(I)I"⟩, prog_1_method_16_code, 2, (Option.some Jvm.ClassFile.FieldType.int), fun _ _ => True)
theorem cv_C_fault : m_CV k_C_fault 1 := ⟨⟨w_co_C_fault, w_in_C, by decide, Nat.le_of_ble_eq_true rfl, by decide, by decide, by decide +kernel, fun _ _ => trivial⟩, w_im_C_fault, w_se_C_fault⟩
def k_C_many : mKt := (⟨"RustFamily", "many", "(I)I"⟩, prog_1_method_17_code, 2, (Option.some Jvm.ClassFile.FieldType.int), fun _ _ => True)
theorem cv_C_many : m_CV k_C_many 1 := ⟨⟨w_co_C_many, w_in_C, by decide, Nat.le_of_ble_eq_true rfl, by decide, by decide, by decide +kernel, fun _ _ => trivial⟩, w_im_C_many, w_se_C_many⟩
def k_Fa_livingSet : mKt := (⟨"RustFamily$Family", "livingSet", "()I"⟩, prog_3_method_11_code, 3, (Option.some Jvm.ClassFile.FieldType.int), fun _ _ => True)
theorem cv_Fa_livingSet : m_CV k_Fa_livingSet 0 := ⟨⟨w_co_Fa_livingSet, w_in_Fa, by decide, Nat.le_of_ble_eq_true rfl, by decide, by decide, by decide +kernel, fun _ _ => trivial⟩, w_im_Fa_livingSet, w_se_Fa_livingSet⟩
def k_Fa_showingSet : mKt := (⟨"RustFamily$Family", "showingSet", "(I)I"⟩, prog_3_method_8_code, 4, (Option.some Jvm.ClassFile.FieldType.int), fun _ _ => True)
theorem cv_Fa_showingSet : m_CV k_Fa_showingSet 1 := ⟨⟨w_co_Fa_showingSet, w_in_Fa, by decide, Nat.le_of_ble_eq_true rfl, by decide, by decide, by decide +kernel, fun _ _ => trivial⟩, w_im_Fa_showingSet, w_se_Fa_showingSet⟩
def k_Fa_showsAhead : mKt := (⟨"RustFamily$Family", "showsAhead", "(II)Z"⟩, prog_3_method_7_code, 5, (Option.some Jvm.ClassFile.FieldType.boolean), fun _ _ => True)
theorem cv_Fa_showsAhead : m_CV k_Fa_showsAhead 2 := ⟨⟨w_co_Fa_showsAhead, w_in_Fa, by decide, Nat.le_of_ble_eq_true rfl, by decide, by decide, by decide +kernel, fun _ _ => trivial⟩, w_im_Fa_showsAhead, w_se_Fa_showsAhead⟩
def k_Fa_throughSet : mKt := (⟨"RustFamily$Family", "throughSet", "()I"⟩, prog_3_method_12_code, 3, (Option.some Jvm.ClassFile.FieldType.int), fun _ _ => True)
theorem cv_Fa_throughSet : m_CV k_Fa_throughSet 0 := ⟨⟨w_co_Fa_throughSet, w_in_Fa, by decide, Nat.le_of_ble_eq_true rfl, by decide, by decide, by decide +kernel, fun _ _ => trivial⟩, w_im_Fa_throughSet, w_se_Fa_throughSet⟩
def k_Th_isThrough : mKt := (⟨"RustFamily$Thing", "isThrough", "()Z"⟩, prog_11_method_3_code, 1, (Option.some Jvm.ClassFile.FieldType.boolean), fun _ _ => True)
theorem cv_Th_isThrough : m_CV k_Th_isThrough 0 := ⟨⟨w_co_Th_isThrough, w_in_Th, by decide, Nat.le_of_ble_eq_true rfl, by decide, by decide, by decide +kernel, fun _ _ => trivial⟩, w_im_Th_isThrough, w_se_Th_isThrough⟩
def k_Fa_oiledSet : mKt := (⟨"RustFamily$Family", "oiledSet", "()I"⟩, prog_3_method_13_code, 3, (Option.some Jvm.ClassFile.FieldType.int), fun _ _ => True)
theorem cv_Fa_oiledSet : m_CV k_Fa_oiledSet 0 := ⟨⟨w_co_Fa_oiledSet, w_in_Fa, by decide, Nat.le_of_ble_eq_true rfl, by decide, by decide, by decide +kernel, fun _ _ => trivial⟩, w_im_Fa_oiledSet, w_se_Fa_oiledSet⟩
def k_Fa_allRust : mKt := (⟨"RustFamily$Family", "allRust", "()I"⟩, prog_3_method_14_code, 3, (Option.some Jvm.ClassFile.FieldType.int), fun _ _ => True)
theorem cv_Fa_allRust : m_CV k_Fa_allRust 0 := ⟨⟨w_co_Fa_allRust, w_in_Fa, by decide, Nat.le_of_ble_eq_true rfl, by decide, by decide, by decide +kernel, fun _ _ => trivial⟩, w_im_Fa_allRust, w_se_Fa_allRust⟩
def k_C_person : mKt := (⟨"RustFamily", "person", "(II)I"⟩, prog_1_method_18_code, 4, (Option.some Jvm.ClassFile.FieldType.int), fun _ _ => True)
theorem cv_C_person : m_CV k_C_person 2 := ⟨⟨w_co_C_person, w_in_C, by decide, Nat.le_of_ble_eq_true rfl, by decide, by decide, by decide +kernel, fun _ _ => trivial⟩, w_im_C_person, w_se_C_person⟩
def k_C_isPerson : mKt := (⟨"RustFamily", "isPerson", "(I)Z"⟩, prog_1_method_22_code, 2, (Option.some Jvm.ClassFile.FieldType.boolean), fun _ _ => True)
theorem cv_C_isPerson : m_CV k_C_isPerson 1 := ⟨⟨w_co_C_isPerson, w_in_C, by decide, Nat.le_of_ble_eq_true rfl, by decide, by decide, by decide +kernel, fun _ _ => trivial⟩, w_im_C_isPerson, w_se_C_isPerson⟩
def k_Pe_lovedSet : mKt := (⟨"RustFamily$Person", "lovedSet", "(I)I"⟩, prog_6_method_3_code, 4, (Option.some Jvm.ClassFile.FieldType.int), fun _ _ => True)
theorem cv_Pe_lovedSet : m_CV k_Pe_lovedSet 1 := ⟨⟨w_co_Pe_lovedSet, w_in_Pe, by decide, Nat.le_of_ble_eq_true rfl, by decide, by decide, by decide +kernel, fun _ _ => trivial⟩, w_im_Pe_lovedSet, w_se_Pe_lovedSet⟩
def k_C_thing : mKt := (⟨"RustFamily", "thing", "(II)I"⟩, prog_1_method_19_code, 4, (Option.some Jvm.ClassFile.FieldType.int), fun _ _ => True)
theorem cv_C_thing : m_CV k_C_thing 2 := ⟨⟨w_co_C_thing, w_in_C, by decide, Nat.le_of_ble_eq_true rfl, by decide, by decide, by decide +kernel, fun _ _ => trivial⟩, w_im_C_thing, w_se_C_thing⟩
def k_C_isThing : mKt := (⟨"RustFamily", "isThing", "(I)Z"⟩, prog_1_method_23_code, 2, (Option.some Jvm.ClassFile.FieldType.boolean), fun _ _ => True)
theorem cv_C_isThing : m_CV k_C_isThing 1 := ⟨⟨w_co_C_isThing, w_in_C, by decide, Nat.le_of_ble_eq_true rfl, by decide, by decide, by decide +kernel, fun _ _ => trivial⟩, w_im_C_isThing, w_se_C_isThing⟩
def k_Fa_lovedAhead : mKt := (⟨"RustFamily$Family", "lovedAhead", "(II)I"⟩, prog_3_method_10_code, 3, (Option.some Jvm.ClassFile.FieldType.int), fun _ _ => True)
theorem cv_Fa_lovedAhead : m_CV k_Fa_lovedAhead 2 := ⟨⟨w_co_Fa_lovedAhead, w_in_Fa, by decide, Nat.le_of_ble_eq_true rfl, by decide, by decide, by decide +kernel, fun _ _ => trivial⟩, w_im_Fa_lovedAhead, w_se_Fa_lovedAhead⟩
def k_Fa_lovedBy : mKt := (⟨"RustFamily$Family", "lovedBy", "(II)I"⟩, prog_3_method_9_code, 5, (Option.some Jvm.ClassFile.FieldType.int), fun _ _ => True)
theorem cv_Fa_lovedBy : m_CV k_Fa_lovedBy 2 := ⟨⟨w_co_Fa_lovedBy, w_in_Fa, by decide, Nat.le_of_ble_eq_true rfl, by decide, by decide, by decide +kernel, fun _ _ => trivial⟩, w_im_Fa_lovedBy, w_se_Fa_lovedBy⟩
def k_Th_bite : mKt := (⟨"RustFamily$Thing", "bite", "(II)I"⟩, prog_11_method_5_code, 3, (Option.some Jvm.ClassFile.FieldType.int), fun _ _ => True)
theorem cv_Th_bite : m_CV k_Th_bite 2 := ⟨⟨w_co_Th_bite, w_in_Th, by decide, Nat.le_of_ble_eq_true rfl, by decide, by decide, by decide +kernel, fun _ _ => trivial⟩, w_im_Th_bite, w_se_Th_bite⟩
def k_Th_biteBy : mKt := (⟨"RustFamily$Thing", "biteBy", "(IIZ)I"⟩, prog_11_method_4_code, 4, (Option.some Jvm.ClassFile.FieldType.int), fun _ _ => True)
theorem cs_Th_biteBy : m_CS k_Th_biteBy 3 := ⟨⟨w_co_Th_biteBy, w_in_Th, by decide, Nat.le_of_ble_eq_true rfl, by decide, by decide, by decide +kernel, fun _ _ => trivial⟩, w_st_Th_biteBy⟩
def k_C_love : mKt := (⟨"RustFamily", "love", "(II)I"⟩, prog_1_method_20_code, 3, (Option.some Jvm.ClassFile.FieldType.int), fun _ _ => True)
theorem cv_C_love : m_CV k_C_love 2 := ⟨⟨w_co_C_love, w_in_C, by decide, Nat.le_of_ble_eq_true rfl, by decide, by decide, by decide +kernel, fun _ _ => trivial⟩, w_im_C_love, w_se_C_love⟩
def k_C_pairStatus : mKt := (⟨"RustFamily", "pairStatus", "(II)I"⟩, prog_1_method_24_code, 3, (Option.some Jvm.ClassFile.FieldType.int), fun _ _ => True)
theorem cv_C_pairStatus : m_CV k_C_pairStatus 2 := ⟨⟨w_co_C_pairStatus, w_in_C, by decide, Nat.le_of_ble_eq_true rfl, by decide, by decide, by decide +kernel, fun _ _ => trivial⟩, w_im_C_pairStatus, w_se_C_pairStatus⟩
def k_C_copyRust : mKt := (⟨"RustFamily", "copyRust", "(I)I"⟩, prog_1_method_21_code, 4, (Option.some Jvm.ClassFile.FieldType.int), fun _ _ => True)
theorem cv_C_copyRust : m_CV k_C_copyRust 1 := ⟨⟨w_co_C_copyRust, w_in_C, by decide, Nat.le_of_ble_eq_true rfl, by decide, by decide, by decide +kernel, fun _ _ => trivial⟩, w_im_C_copyRust, w_se_C_copyRust⟩
def k_C_year : mKt := (⟨"RustFamily", "year", "(I)I"⟩, prog_1_method_26_code, 3, (Option.some Jvm.ClassFile.FieldType.int), fun _ _ => True)
theorem cv_C_year : m_CV k_C_year 1 := ⟨⟨w_co_C_year, w_in_C, by decide, Nat.le_of_ble_eq_true rfl, by decide, by decide, by decide +kernel, fun _ _ => trivial⟩, w_im_C_year, w_se_C_year⟩
def k_Fa_passYears : mKt := (⟨"RustFamily$Family", "passYears", "(I)Z"⟩, prog_3_method_15_code, 4, (Option.some Jvm.ClassFile.FieldType.boolean), fun _ _ => True)
theorem cv_Fa_passYears : m_CV k_Fa_passYears 1 := ⟨⟨w_co_Fa_passYears, w_in_Fa, by decide, Nat.le_of_ble_eq_true rfl, by decide, by decide, by decide +kernel, fun _ _ => trivial⟩, w_im_Fa_passYears, w_se_Fa_passYears⟩
def k_Fa_passYear : mKt := (⟨"RustFamily$Family", "passYear", "()V"⟩, prog_3_method_16_code, 3, (Option.none : Option Jvm.ClassFile.FieldType), fun _ _ => True)
theorem cv_Fa_passYear : m_CV k_Fa_passYear 0 := ⟨⟨w_co_Fa_passYear, w_in_Fa, by decide, Nat.le_of_ble_eq_true rfl, by decide, by decide, by decide +kernel, fun _ _ => trivial⟩, w_im_Fa_passYear, w_se_Fa_passYear⟩
def k_Th_passYear : mKt := (⟨"RustFamily$Thing", "passYear", "(II)V"⟩, prog_11_method_6_code, 5, (Option.none : Option Jvm.ClassFile.FieldType), fun _ _ => True)
theorem cv_Th_passYear : m_CV k_Th_passYear 2 := ⟨⟨w_co_Th_passYear, w_in_Th, by decide, Nat.le_of_ble_eq_true rfl, by decide, by decide, by decide +kernel, fun _ _ => trivial⟩, w_im_Th_passYear, w_se_Th_passYear⟩
def k_C_dote : mKt := (⟨"RustFamily", "dote", "(III)I"⟩, prog_1_method_27_code, 6, (Option.some Jvm.ClassFile.FieldType.int), fun _ _ => True)
theorem cv_C_dote : m_CV k_C_dote 3 := ⟨⟨w_co_C_dote, w_in_C, by decide, Nat.le_of_ble_eq_true rfl, by decide, by decide, by decide +kernel, fun _ _ => trivial⟩, w_im_C_dote, w_se_C_dote⟩
def k_C_oil : mKt := (⟨"RustFamily", "oil", "(I)I"⟩, prog_1_method_28_code, 2, (Option.some Jvm.ClassFile.FieldType.int), fun _ _ => True)
theorem cv_C_oil : m_CV k_C_oil 1 := ⟨⟨w_co_C_oil, w_in_C, by decide, Nat.le_of_ble_eq_true rfl, by decide, by decide, by decide +kernel, fun _ _ => trivial⟩, w_im_C_oil, w_se_C_oil⟩
def k_C_wholeStatus : mKt := (⟨"RustFamily", "wholeStatus", "(I)I"⟩, prog_1_method_36_code, 2, (Option.some Jvm.ClassFile.FieldType.int), fun _ _ => True)
theorem cv_C_wholeStatus : m_CV k_C_wholeStatus 1 := ⟨⟨w_co_C_wholeStatus, w_in_C, by decide, Nat.le_of_ble_eq_true rfl, by decide, by decide, by decide +kernel, fun _ _ => trivial⟩, w_im_C_wholeStatus, w_se_C_wholeStatus⟩
def k_Th_putOil : mKt := (⟨"RustFamily$Thing", "putOil", "()V"⟩, prog_11_method_8_code, 1, (Option.none : Option Jvm.ClassFile.FieldType), fun _ _ => True)
theorem cv_Th_putOil : m_CV k_Th_putOil 0 := ⟨⟨w_co_Th_putOil, w_in_Th, by decide, Nat.le_of_ble_eq_true rfl, by decide, by decide, by decide +kernel, fun _ _ => trivial⟩, w_im_Th_putOil, w_se_Th_putOil⟩
def k_C_coat : mKt := (⟨"RustFamily", "coat", "(II)I"⟩, prog_1_method_29_code, 3, (Option.some Jvm.ClassFile.FieldType.int), fun _ _ => True)
theorem cv_C_coat : m_CV k_C_coat 2 := ⟨⟨w_co_C_coat, w_in_C, by decide, Nat.le_of_ble_eq_true rfl, by decide, by decide, by decide +kernel, fun _ _ => trivial⟩, w_im_C_coat, w_se_C_coat⟩
def k_Th_putCoat : mKt := (⟨"RustFamily$Thing", "putCoat", "(I)V"⟩, prog_11_method_9_code, 2, (Option.none : Option Jvm.ClassFile.FieldType), fun _ _ => True)
theorem cv_Th_putCoat : m_CV k_Th_putCoat 1 := ⟨⟨w_co_Th_putCoat, w_in_Th, by decide, Nat.le_of_ble_eq_true rfl, by decide, by decide, by decide +kernel, fun _ _ => trivial⟩, w_im_Th_putCoat, w_se_Th_putCoat⟩
def k_C_mend : mKt := (⟨"RustFamily", "mend", "(I)I"⟩, prog_1_method_30_code, 2, (Option.some Jvm.ClassFile.FieldType.int), fun _ _ => True)
theorem cv_C_mend : m_CV k_C_mend 1 := ⟨⟨w_co_C_mend, w_in_C, by decide, Nat.le_of_ble_eq_true rfl, by decide, by decide, by decide +kernel, fun _ _ => trivial⟩, w_im_C_mend, w_se_C_mend⟩
def k_Th_halveRust : mKt := (⟨"RustFamily$Thing", "halveRust", "()V"⟩, prog_11_method_10_code, 1, (Option.none : Option Jvm.ClassFile.FieldType), fun _ _ => True)
theorem cv_Th_halveRust : m_CV k_Th_halveRust 0 := ⟨⟨w_co_Th_halveRust, w_in_Th, by decide, Nat.le_of_ble_eq_true rfl, by decide, by decide, by decide +kernel, fun _ _ => trivial⟩, w_im_Th_halveRust, w_se_Th_halveRust⟩
def k_C_breathe : mKt := (⟨"RustFamily", "breathe", "(I)I"⟩, prog_1_method_31_code, 2, (Option.some Jvm.ClassFile.FieldType.int), fun _ _ => True)
theorem cv_C_breathe : m_CV k_C_breathe 1 := ⟨⟨w_co_C_breathe, w_in_C, by decide, Nat.le_of_ble_eq_true rfl, by decide, by decide, by decide +kernel, fun _ _ => trivial⟩, w_im_C_breathe, w_se_C_breathe⟩
def k_Th_takeBreath : mKt := (⟨"RustFamily$Thing", "takeBreath", "(I)V"⟩, prog_11_method_7_code, 2, (Option.none : Option Jvm.ClassFile.FieldType), fun _ _ => True)
theorem cv_Th_takeBreath : m_CV k_Th_takeBreath 1 := ⟨⟨w_co_Th_takeBreath, w_in_Th, by decide, Nat.le_of_ble_eq_true rfl, by decide, by decide, by decide +kernel, fun _ _ => trivial⟩, w_im_Th_takeBreath, w_se_Th_takeBreath⟩
def k_C_forge : mKt := (⟨"RustFamily", "forge", "(I)I"⟩, prog_1_method_32_code, 2, (Option.some Jvm.ClassFile.FieldType.int), fun _ _ => True)
theorem cv_C_forge : m_CV k_C_forge 1 := ⟨⟨w_co_C_forge, w_in_C, by decide, Nat.le_of_ble_eq_true rfl, by decide, by decide, by decide +kernel, fun _ _ => trivial⟩, w_im_C_forge, w_se_C_forge⟩
def k_C_born : mKt := (⟨"RustFamily", "born", "(IZ)I"⟩, prog_1_method_33_code, 3, (Option.some Jvm.ClassFile.FieldType.int), fun _ _ => True)
theorem cv_C_born : m_CV k_C_born 2 := ⟨⟨w_co_C_born, w_in_C, by decide, Nat.le_of_ble_eq_true rfl, by decide, by decide, by decide +kernel, fun _ _ => trivial⟩, w_im_C_born, w_se_C_born⟩
def k_C_rule : mKt := (⟨"RustFamily", "rule", "(II)Z"⟩, prog_1_method_34_code, 3, (Option.some Jvm.ClassFile.FieldType.boolean), fun _ _ => True)
theorem cv_C_rule : m_CV k_C_rule 2 := ⟨⟨w_co_C_rule, w_in_C, by decide, Nat.le_of_ble_eq_true rfl, by decide, by decide, by decide +kernel, fun _ _ => trivial⟩, w_im_C_rule, w_se_C_rule⟩
def k_C_canRule : mKt := (⟨"RustFamily", "canRule", "(II)Z"⟩, prog_1_method_35_code, 2, (Option.some Jvm.ClassFile.FieldType.boolean), fun _ _ => True)
theorem cs_C_canRule : m_CS k_C_canRule 2 := ⟨⟨w_co_C_canRule, w_in_C, by decide, Nat.le_of_ble_eq_true rfl, by decide, by decide, by decide +kernel, fun _ _ => trivial⟩, w_st_C_canRule⟩
def k_C_rustIn : mKt := (⟨"RustFamily", "rustIn", "(II)I"⟩, prog_1_method_37_code, 3, (Option.some Jvm.ClassFile.FieldType.int), fun _ _ => True)
theorem cv_C_rustIn : m_CV k_C_rustIn 2 := ⟨⟨w_co_C_rustIn, w_in_C, by decide, Nat.le_of_ble_eq_true rfl, by decide, by decide, by decide +kernel, fun _ _ => trivial⟩, w_im_C_rustIn, w_se_C_rustIn⟩
def k_Ah_rustAfter : mKt := (⟨"RustFamily$Ahead", "rustAfter", "(LRustFamily$Family;II)I"⟩, prog_2_method_3_code, 4, (Option.some Jvm.ClassFile.FieldType.int), fun _ _ => True)
theorem cv_Ah_rustAfter : m_CV k_Ah_rustAfter 3 := ⟨⟨w_co_Ah_rustAfter, w_in_Ah, by decide, Nat.le_of_ble_eq_true rfl, by decide, by decide, by decide +kernel, fun _ _ => trivial⟩, w_im_Ah_rustAfter, w_se_Ah_rustAfter⟩
def k_Ah_walk : mKt := (⟨"RustFamily$Ahead", "walk", "(LRustFamily$Family;IIII)I"⟩, prog_2_method_2_code, 9, (Option.some Jvm.ClassFile.FieldType.int), fun _ _ => True)
theorem cv_Ah_walk : m_CV k_Ah_walk 5 := ⟨⟨w_co_Ah_walk, w_in_Ah, by decide, Nat.le_of_ble_eq_true rfl, by decide, by decide, by decide +kernel, fun _ _ => trivial⟩, w_im_Ah_walk, w_se_Ah_walk⟩
def k_Th_copyFrom : mKt := (⟨"RustFamily$Thing", "copyFrom", "(LRustFamily$Thing;)V"⟩, prog_11_method_2_code, 2, (Option.none : Option Jvm.ClassFile.FieldType), fun _ _ => True)
theorem cv_Th_copyFrom : m_CV k_Th_copyFrom 1 := ⟨⟨w_co_Th_copyFrom, w_in_Th, by decide, Nat.le_of_ble_eq_true rfl, by decide, by decide, by decide +kernel, fun _ _ => trivial⟩, w_im_Th_copyFrom, w_se_Th_copyFrom⟩
def k_C_throughIn : mKt := (⟨"RustFamily", "throughIn", "(I)I"⟩, prog_1_method_38_code, 2, (Option.some Jvm.ClassFile.FieldType.int), fun _ _ => True)
theorem cv_C_throughIn : m_CV k_C_throughIn 1 := ⟨⟨w_co_C_throughIn, w_in_C, by decide, Nat.le_of_ble_eq_true rfl, by decide, by decide, by decide +kernel, fun _ _ => trivial⟩, w_im_C_throughIn, w_se_C_throughIn⟩
def k_C_orNone : mKt := (⟨"RustFamily", "orNone", "(I)I"⟩, prog_1_method_44_code, 2, (Option.some Jvm.ClassFile.FieldType.int), fun _ _ => True)
theorem cv_C_orNone : m_CV k_C_orNone 1 := ⟨⟨w_co_C_orNone, w_in_C, by decide, Nat.le_of_ble_eq_true rfl, by decide, by decide, by decide +kernel, fun _ _ => trivial⟩, w_im_C_orNone, w_se_C_orNone⟩
def k_C_firstThrough : mKt := (⟨"RustFamily", "firstThrough", "()I"⟩, prog_1_method_39_code, 5, (Option.some Jvm.ClassFile.FieldType.int), fun _ _ => True)
theorem cv_C_firstThrough : m_CV k_C_firstThrough 0 := ⟨⟨w_co_C_firstThrough, w_in_C, by decide, Nat.le_of_ble_eq_true rfl, by decide, by decide, by decide +kernel, fun _ _ => trivial⟩, w_im_C_firstThrough, w_se_C_firstThrough⟩
def k_C_throughBy : mKt := (⟨"RustFamily", "throughBy", "(I)I"⟩, prog_1_method_40_code, 4, (Option.some Jvm.ClassFile.FieldType.int), fun _ _ => True)
theorem cv_C_throughBy : m_CV k_C_throughBy 1 := ⟨⟨w_co_C_throughBy, w_in_C, by decide, Nat.le_of_ble_eq_true rfl, by decide, by decide, by decide +kernel, fun _ _ => trivial⟩, w_im_C_throughBy, w_se_C_throughBy⟩
def k_C_showsIn : mKt := (⟨"RustFamily", "showsIn", "(I)I"⟩, prog_1_method_41_code, 3, (Option.some Jvm.ClassFile.FieldType.int), fun _ _ => True)
theorem cv_C_showsIn : m_CV k_C_showsIn 1 := ⟨⟨w_co_C_showsIn, w_in_C, by decide, Nat.le_of_ble_eq_true rfl, by decide, by decide, by decide +kernel, fun _ _ => trivial⟩, w_im_C_showsIn, w_se_C_showsIn⟩
def k_C_diesIn : mKt := (⟨"RustFamily", "diesIn", "(I)I"⟩, prog_1_method_42_code, 2, (Option.some Jvm.ClassFile.FieldType.int), fun _ _ => True)
theorem cv_C_diesIn : m_CV k_C_diesIn 1 := ⟨⟨w_co_C_diesIn, w_in_C, by decide, Nat.le_of_ble_eq_true rfl, by decide, by decide, by decide +kernel, fun _ _ => trivial⟩, w_im_C_diesIn, w_se_C_diesIn⟩
def k_C_worst : mKt := (⟨"RustFamily", "worst", "(I)I"⟩, prog_1_method_43_code, 6, (Option.some Jvm.ClassFile.FieldType.int), fun _ _ => True)
theorem cv_C_worst : m_CV k_C_worst 1 := ⟨⟨w_co_C_worst, w_in_C, by decide, Nat.le_of_ble_eq_true rfl, by decide, by decide, by decide +kernel, fun _ _ => trivial⟩, w_im_C_worst, w_se_C_worst⟩
def k_Ah_allRustWithout : mKt := (⟨"RustFamily$Ahead", "allRustWithout", "(LRustFamily$Family;II)I"⟩, prog_2_method_4_code, 6, (Option.some Jvm.ClassFile.FieldType.int), fun _ _ => True)
theorem cv_Ah_allRustWithout : m_CV k_Ah_allRustWithout 3 := ⟨⟨w_co_Ah_allRustWithout, w_in_Ah, by decide, Nat.le_of_ble_eq_true rfl, by decide, by decide, by decide +kernel, fun _ _ => trivial⟩, w_im_Ah_allRustWithout, w_se_Ah_allRustWithout⟩
def k_C_jars : mKt := (⟨"RustFamily", "jars", "(II)I"⟩, prog_1_method_45_code, 3, (Option.some Jvm.ClassFile.FieldType.int), fun _ _ => True)
theorem cv_C_jars : m_CV k_C_jars 2 := ⟨⟨w_co_C_jars, w_in_C, by decide, Nat.le_of_ble_eq_true rfl, by decide, by decide, by decide +kernel, fun _ _ => trivial⟩, w_im_C_jars, w_se_C_jars⟩
def k_Ah_fewestJars : mKt := (⟨"RustFamily$Ahead", "fewestJars", "(LRustFamily$Family;II)I"⟩, prog_2_method_5_code, 10, (Option.some Jvm.ClassFile.FieldType.int), fun _ _ => True)
theorem cv_Ah_fewestJars : m_CV k_Ah_fewestJars 3 := ⟨⟨w_co_Ah_fewestJars, w_in_Ah, by decide, Nat.le_of_ble_eq_true rfl, by decide, by decide, by decide +kernel, fun _ _ => trivial⟩, w_im_Ah_fewestJars, w_se_Ah_fewestJars⟩
def k_Ah_takeMostSaving : mKt := (⟨"RustFamily$Ahead", "takeMostSaving", "(I)I"⟩, prog_2_method_6_code, 4, (Option.some Jvm.ClassFile.FieldType.int), fun _ _ => True)
theorem cv_Ah_takeMostSaving : m_CV k_Ah_takeMostSaving 1 := ⟨⟨w_co_Ah_takeMostSaving, w_in_Ah, by decide, Nat.le_of_ble_eq_true rfl, by decide, by decide, by decide +kernel, fun _ _ => trivial⟩, w_im_Ah_takeMostSaving, w_se_Ah_takeMostSaving⟩
def k_C_jarsFor : mKt := (⟨"RustFamily", "jarsFor", "(II)I"⟩, prog_1_method_46_code, 6, (Option.some Jvm.ClassFile.FieldType.int), fun _ _ => True)
theorem cv_C_jarsFor : m_CV k_C_jarsFor 2 := ⟨⟨w_co_C_jarsFor, w_in_C, by decide, Nat.le_of_ble_eq_true rfl, by decide, by decide, by decide +kernel, fun _ _ => trivial⟩, w_im_C_jarsFor, w_se_C_jarsFor⟩
def k_C_isSet : mKt := (⟨"RustFamily", "isSet", "(II)Z"⟩, prog_1_method_48_code, 2, (Option.some Jvm.ClassFile.FieldType.boolean), fun _ _ => True)
theorem cs_C_isSet : m_CS k_C_isSet 2 := ⟨⟨w_co_C_isSet, w_in_C, by decide, Nat.le_of_ble_eq_true rfl, by decide, by decide, by decide +kernel, fun _ _ => trivial⟩, w_st_C_isSet⟩
def k_C_less : mKt := (⟨"RustFamily", "less", "(III)I"⟩, prog_1_method_47_code, 7, (Option.some Jvm.ClassFile.FieldType.int), fun _ _ => True)
theorem cv_C_less : m_CV k_C_less 3 := ⟨⟨w_co_C_less, w_in_C, by decide, Nat.le_of_ble_eq_true rfl, by decide, by decide, by decide +kernel, fun _ _ => trivial⟩, w_im_C_less, w_se_C_less⟩
def k_C_seen : mKt := (⟨"RustFamily", "seen", "(II)I"⟩, prog_1_method_49_code, 3, (Option.some Jvm.ClassFile.FieldType.int), fun _ _ => True)
theorem cv_C_seen : m_CV k_C_seen 2 := ⟨⟨w_co_C_seen, w_in_C, by decide, Nat.le_of_ble_eq_true rfl, by decide, by decide, by decide +kernel, fun _ _ => trivial⟩, w_im_C_seen, w_se_C_seen⟩
def k_C_seenStatus : mKt := (⟨"RustFamily", "seenStatus", "(II)I"⟩, prog_1_method_52_code, 4, (Option.some Jvm.ClassFile.FieldType.int), fun _ _ => True)
theorem cv_C_seenStatus : m_CV k_C_seenStatus 2 := ⟨⟨w_co_C_seenStatus, w_in_C, by decide, Nat.le_of_ble_eq_true rfl, by decide, by decide, by decide +kernel, fun _ _ => trivial⟩, w_im_C_seenStatus, w_se_C_seenStatus⟩
def k_C_areTwos : mKt := (⟨"RustFamily", "areTwos", "([JI)Z"⟩, prog_1_method_53_code, 3, (Option.some Jvm.ClassFile.FieldType.boolean), fun _ _ => True)
theorem cs_C_areTwos : m_CS k_C_areTwos 2 := ⟨⟨w_co_C_areTwos, w_in_C, by decide, Nat.le_of_ble_eq_true rfl, by decide, by decide, by decide +kernel, fun _ _ => trivial⟩, w_st_C_areTwos⟩
def k_Si_look : mKt := (⟨"RustFamily$Sight", "look", "(I[JI)V"⟩, prog_9_method_2_code, 5, (Option.none : Option Jvm.ClassFile.FieldType), fun _ _ => True)
theorem cv_Si_look : m_CV k_Si_look 3 := ⟨⟨w_co_Si_look, w_in_Si, by decide, Nat.le_of_ble_eq_true rfl, by decide, by decide, by decide +kernel, fun _ _ => trivial⟩, w_im_Si_look, w_se_Si_look⟩
def k_JI_bitCount : mKt := (⟨"java/lang/Integer", "bitCount", "(I)I"⟩, prog_15_method_49_code, 1, (Option.some Jvm.ClassFile.FieldType.int), fun _ _ => True)
theorem cs_JI_bitCount : m_CS k_JI_bitCount 1 := ⟨⟨w_co_JI_bitCount, w_in_JI, by decide, Nat.le_of_ble_eq_true rfl, by decide, by decide, by decide +kernel, fun _ _ => trivial⟩, w_st_JI_bitCount⟩
def k_Si_fitsAll : mKt := (⟨"RustFamily$Sight", "fitsAll", "(I[JI)Z"⟩, prog_9_method_3_code, 4, (Option.some Jvm.ClassFile.FieldType.boolean), fun _ _ => True)
theorem cs_Si_fitsAll : m_CS k_Si_fitsAll 3 := ⟨⟨w_co_Si_fitsAll, w_in_Si, by decide, Nat.le_of_ble_eq_true rfl, by decide, by decide, by decide +kernel, fun _ _ => trivial⟩, w_st_Si_fitsAll⟩
def k_Si_ways : mKt := (⟨"RustFamily$Sight", "ways", "()I"⟩, prog_9_method_4_code, 3, (Option.some Jvm.ClassFile.FieldType.int), fun _ _ => True)
theorem cv_Si_ways : m_CV k_Si_ways 0 := ⟨⟨w_co_Si_ways, w_in_Si, by decide, Nat.le_of_ble_eq_true rfl, by decide, by decide, by decide +kernel, fun _ _ => trivial⟩, w_im_Si_ways, w_se_Si_ways⟩
def k_Si_countSums : mKt := (⟨"RustFamily$Sight", "countSums", "()V"⟩, prog_9_method_5_code, 4, (Option.none : Option Jvm.ClassFile.FieldType), fun _ _ => True)
theorem cv_Si_countSums : m_CV k_Si_countSums 0 := ⟨⟨w_co_Si_countSums, w_in_Si, by decide, Nat.le_of_ble_eq_true rfl, by decide, by decide, by decide +kernel, fun _ _ => trivial⟩, w_im_Si_countSums, w_se_Si_countSums⟩
def k_C_sure : mKt := (⟨"RustFamily", "sure", "(III)I"⟩, prog_1_method_50_code, 4, (Option.some Jvm.ClassFile.FieldType.int), fun _ _ => True)
theorem cv_C_sure : m_CV k_C_sure 3 := ⟨⟨w_co_C_sure, w_in_C, by decide, Nat.le_of_ble_eq_true rfl, by decide, by decide, by decide +kernel, fun _ _ => trivial⟩, w_im_C_sure, w_se_C_sure⟩
def k_Si_onlyLove : mKt := (⟨"RustFamily$Sight", "onlyLove", "()I"⟩, prog_9_method_6_code, 3, (Option.some Jvm.ClassFile.FieldType.int), fun _ _ => True)
theorem cv_Si_onlyLove : m_CV k_Si_onlyLove 0 := ⟨⟨w_co_Si_onlyLove, w_in_Si, by decide, Nat.le_of_ble_eq_true rfl, by decide, by decide, by decide +kernel, fun _ _ => trivial⟩, w_im_Si_onlyLove, w_se_Si_onlyLove⟩
def k_Si_canLove : mKt := (⟨"RustFamily$Sight", "canLove", "(I)Z"⟩, prog_9_method_7_code, 3, (Option.some Jvm.ClassFile.FieldType.boolean), fun _ _ => True)
theorem cv_Si_canLove : m_CV k_Si_canLove 1 := ⟨⟨w_co_Si_canLove, w_in_Si, by decide, Nat.le_of_ble_eq_true rfl, by decide, by decide, by decide +kernel, fun _ _ => trivial⟩, w_im_Si_canLove, w_se_Si_canLove⟩
def k_C_ask : mKt := (⟨"RustFamily", "ask", "(II)I"⟩, prog_1_method_51_code, 3, (Option.some Jvm.ClassFile.FieldType.int), fun _ _ => True)
theorem cv_C_ask : m_CV k_C_ask 2 := ⟨⟨w_co_C_ask, w_in_C, by decide, Nat.le_of_ble_eq_true rfl, by decide, by decide, by decide +kernel, fun _ _ => trivial⟩, w_im_C_ask, w_se_C_ask⟩
def k_Si_bestDamp : mKt := (⟨"RustFamily$Sight", "bestDamp", "()I"⟩, prog_9_method_8_code, 5, (Option.some Jvm.ClassFile.FieldType.int), fun _ _ => True)
theorem cv_Si_bestDamp : m_CV k_Si_bestDamp 0 := ⟨⟨w_co_Si_bestDamp, w_in_Si, by decide, Nat.le_of_ble_eq_true rfl, by decide, by decide, by decide +kernel, fun _ _ => trivial⟩, w_im_Si_bestDamp, w_se_Si_bestDamp⟩
def k_Si_unlikeBites : mKt := (⟨"RustFamily$Sight", "unlikeBites", "(I)I"⟩, prog_9_method_9_code, 5, (Option.some Jvm.ClassFile.FieldType.int), fun _ _ => True)
theorem cv_Si_unlikeBites : m_CV k_Si_unlikeBites 1 := ⟨⟨w_co_Si_unlikeBites, w_in_Si, by decide, Nat.le_of_ble_eq_true rfl, by decide, by decide, by decide +kernel, fun _ _ => trivial⟩, w_im_Si_unlikeBites, w_se_Si_unlikeBites⟩
def k_C_keeping : mKt := (⟨"RustFamily", "keeping", "(I)I"⟩, prog_1_method_54_code, 2, (Option.some Jvm.ClassFile.FieldType.int), fun _ _ => True)
theorem cv_C_keeping : m_CV k_C_keeping 1 := ⟨⟨w_co_C_keeping, w_in_C, by decide, Nat.le_of_ble_eq_true rfl, by decide, by decide, by decide +kernel, fun _ _ => trivial⟩, w_im_C_keeping, w_se_C_keeping⟩
def k_C_keepingStatus : mKt := (⟨"RustFamily", "keepingStatus", "(I)I"⟩, prog_1_method_59_code, 3, (Option.some Jvm.ClassFile.FieldType.int), fun _ _ => True)
theorem cv_C_keepingStatus : m_CV k_C_keepingStatus 1 := ⟨⟨w_co_C_keepingStatus, w_in_C, by decide, Nat.le_of_ble_eq_true rfl, by decide, by decide, by decide +kernel, fun _ _ => trivial⟩, w_im_C_keepingStatus, w_se_C_keepingStatus⟩
def k_Ke_leastLove : mKt := (⟨"RustFamily$Keepers", "leastLove", "(LRustFamily$Family;I)I"⟩, prog_5_method_3_code, 5, (Option.some Jvm.ClassFile.FieldType.int), fun _ _ => True)
theorem cv_Ke_leastLove : m_CV k_Ke_leastLove 2 := ⟨⟨w_co_Ke_leastLove, w_in_Ke, by decide, Nat.le_of_ble_eq_true rfl, by decide, by decide, by decide +kernel, fun _ _ => trivial⟩, w_im_Ke_leastLove, w_se_Ke_leastLove⟩
def k_Ke_gather : mKt := (⟨"RustFamily$Keepers", "gather", "(LRustFamily$Family;I)V"⟩, prog_5_method_2_code, 4, (Option.none : Option Jvm.ClassFile.FieldType), fun _ _ => True)
theorem cv_Ke_gather : m_CV k_Ke_gather 2 := ⟨⟨w_co_Ke_gather, w_in_Ke, by decide, Nat.le_of_ble_eq_true rfl, by decide, by decide, by decide +kernel, fun _ _ => trivial⟩, w_im_Ke_gather, w_se_Ke_gather⟩
def k_Ke_leastFrom : mKt := (⟨"RustFamily$Keepers", "leastFrom", "(LRustFamily$Family;II)I"⟩, prog_5_method_4_code, 6, (Option.some Jvm.ClassFile.FieldType.int), fun _ _ => True)
theorem cv_Ke_leastFrom : m_CV k_Ke_leastFrom 3 := ⟨⟨w_co_Ke_leastFrom, w_in_Ke, by decide, Nat.le_of_ble_eq_true rfl, by decide, by decide, by decide +kernel, fun _ _ => trivial⟩, w_im_Ke_leastFrom, w_se_Ke_leastFrom⟩
def k_Ke_isFree : mKt := (⟨"RustFamily$Keepers", "isFree", "(LRustFamily$Family;II)Z"⟩, prog_5_method_5_code, 3, (Option.some Jvm.ClassFile.FieldType.boolean), fun _ _ => True)
theorem cs_Ke_isFree : m_CS k_Ke_isFree 3 := ⟨⟨w_co_Ke_isFree, w_in_Ke, by decide, Nat.le_of_ble_eq_true rfl, by decide, by decide, by decide +kernel, fun _ _ => trivial⟩, w_st_Ke_isFree⟩
def k_Ke_loveAndBehind : mKt := (⟨"RustFamily$Keepers", "loveAndBehind", "(LRustFamily$Family;III)I"⟩, prog_5_method_6_code, 5, (Option.some Jvm.ClassFile.FieldType.int), fun _ _ => True)
theorem cv_Ke_loveAndBehind : m_CV k_Ke_loveAndBehind 4 := ⟨⟨w_co_Ke_loveAndBehind, w_in_Ke, by decide, Nat.le_of_ble_eq_true rfl, by decide, by decide, by decide +kernel, fun _ _ => trivial⟩, w_im_Ke_loveAndBehind, w_se_Ke_loveAndBehind⟩
def k_C_keeps : mKt := (⟨"RustFamily", "keeps", "(II)I"⟩, prog_1_method_55_code, 4, (Option.some Jvm.ClassFile.FieldType.int), fun _ _ => True)
theorem cv_C_keeps : m_CV k_C_keeps 2 := ⟨⟨w_co_C_keeps, w_in_C, by decide, Nat.le_of_ble_eq_true rfl, by decide, by decide, by decide +kernel, fun _ _ => trivial⟩, w_im_C_keeps, w_se_C_keeps⟩
def k_C_memberStatus : mKt := (⟨"RustFamily", "memberStatus", "(II)I"⟩, prog_1_method_58_code, 3, (Option.some Jvm.ClassFile.FieldType.int), fun _ _ => True)
theorem cv_C_memberStatus : m_CV k_C_memberStatus 2 := ⟨⟨w_co_C_memberStatus, w_in_C, by decide, Nat.le_of_ble_eq_true rfl, by decide, by decide, by decide +kernel, fun _ _ => trivial⟩, w_im_C_memberStatus, w_se_C_memberStatus⟩
def k_Ke_cheapestOf : mKt := (⟨"RustFamily$Keepers", "cheapestOf", "(LRustFamily$Family;I)I"⟩, prog_5_method_7_code, 6, (Option.some Jvm.ClassFile.FieldType.int), fun _ _ => True)
theorem cv_Ke_cheapestOf : m_CV k_Ke_cheapestOf 2 := ⟨⟨w_co_Ke_cheapestOf, w_in_Ke, by decide, Nat.le_of_ble_eq_true rfl, by decide, by decide, by decide +kernel, fun _ _ => trivial⟩, w_im_Ke_cheapestOf, w_se_Ke_cheapestOf⟩
def k_Ke_firstLeast : mKt := (⟨"RustFamily$Keepers", "firstLeast", "(LRustFamily$Family;II)I"⟩, prog_5_method_8_code, 5, (Option.some Jvm.ClassFile.FieldType.int), fun _ _ => True)
theorem cv_Ke_firstLeast : m_CV k_Ke_firstLeast 3 := ⟨⟨w_co_Ke_firstLeast, w_in_Ke, by decide, Nat.le_of_ble_eq_true rfl, by decide, by decide, by decide +kernel, fun _ _ => trivial⟩, w_im_Ke_firstLeast, w_se_Ke_firstLeast⟩
def k_C_stable : mKt := (⟨"RustFamily", "stable", "(II)I"⟩, prog_1_method_56_code, 3, (Option.some Jvm.ClassFile.FieldType.int), fun _ _ => True)
theorem cv_C_stable : m_CV k_C_stable 2 := ⟨⟨w_co_C_stable, w_in_C, by decide, Nat.le_of_ble_eq_true rfl, by decide, by decide, by decide +kernel, fun _ _ => trivial⟩, w_im_C_stable, w_se_C_stable⟩
def k_Ke_askAround : mKt := (⟨"RustFamily$Keepers", "askAround", "(LRustFamily$Family;I)V"⟩, prog_5_method_9_code, 4, (Option.none : Option Jvm.ClassFile.FieldType), fun _ _ => True)
theorem cv_Ke_askAround : m_CV k_Ke_askAround 2 := ⟨⟨w_co_Ke_askAround, w_in_Ke, by decide, Nat.le_of_ble_eq_true rfl, by decide, by decide, by decide +kernel, fun _ _ => trivial⟩, w_im_Ke_askAround, w_se_Ke_askAround⟩
def k_Ke_askOnce : mKt := (⟨"RustFamily$Keepers", "askOnce", "(LRustFamily$Family;)Z"⟩, prog_5_method_10_code, 5, (Option.some Jvm.ClassFile.FieldType.boolean), fun _ _ => True)
theorem cv_Ke_askOnce : m_CV k_Ke_askOnce 1 := ⟨⟨w_co_Ke_askOnce, w_in_Ke, by decide, Nat.le_of_ble_eq_true rfl, by decide, by decide, by decide +kernel, fun _ _ => trivial⟩, w_im_Ke_askOnce, w_se_Ke_askOnce⟩
def k_Ke_mostLoved : mKt := (⟨"RustFamily$Keepers", "mostLoved", "(LRustFamily$Family;I)I"⟩, prog_5_method_11_code, 7, (Option.some Jvm.ClassFile.FieldType.int), fun _ _ => True)
theorem cv_Ke_mostLoved : m_CV k_Ke_mostLoved 2 := ⟨⟨w_co_Ke_mostLoved, w_in_Ke, by decide, Nat.le_of_ble_eq_true rfl, by decide, by decide, by decide +kernel, fun _ _ => trivial⟩, w_im_Ke_mostLoved, w_se_Ke_mostLoved⟩
def k_Ke_askFor : mKt := (⟨"RustFamily$Keepers", "askFor", "(LRustFamily$Family;II)V"⟩, prog_5_method_12_code, 4, (Option.none : Option Jvm.ClassFile.FieldType), fun _ _ => True)
theorem cv_Ke_askFor : m_CV k_Ke_askFor 3 := ⟨⟨w_co_Ke_askFor, w_in_Ke, by decide, Nat.le_of_ble_eq_true rfl, by decide, by decide, by decide +kernel, fun _ _ => trivial⟩, w_im_Ke_askFor, w_se_Ke_askFor⟩
def k_Ke_wouldTake : mKt := (⟨"RustFamily$Keepers", "wouldTake", "(LRustFamily$Family;II)Z"⟩, prog_5_method_13_code, 4, (Option.some Jvm.ClassFile.FieldType.boolean), fun _ _ => True)
theorem cv_Ke_wouldTake : m_CV k_Ke_wouldTake 3 := ⟨⟨w_co_Ke_wouldTake, w_in_Ke, by decide, Nat.le_of_ble_eq_true rfl, by decide, by decide, by decide +kernel, fun _ _ => trivial⟩, w_im_Ke_wouldTake, w_se_Ke_wouldTake⟩
def k_C_stables : mKt := (⟨"RustFamily", "stables", "(I)I"⟩, prog_1_method_57_code, 2, (Option.some Jvm.ClassFile.FieldType.int), fun _ _ => True)
theorem cv_C_stables : m_CV k_C_stables 1 := ⟨⟨w_co_C_stables, w_in_C, by decide, Nat.le_of_ble_eq_true rfl, by decide, by decide, by decide +kernel, fun _ _ => trivial⟩, w_im_C_stables, w_se_C_stables⟩
def k_Ke_countStable : mKt := (⟨"RustFamily$Keepers", "countStable", "(LRustFamily$Family;I)I"⟩, prog_5_method_14_code, 3, (Option.some Jvm.ClassFile.FieldType.int), fun _ _ => True)
theorem cv_Ke_countStable : m_CV k_Ke_countStable 2 := ⟨⟨w_co_Ke_countStable, w_in_Ke, by decide, Nat.le_of_ble_eq_true rfl, by decide, by decide, by decide +kernel, fun _ _ => trivial⟩, w_im_Ke_countStable, w_se_Ke_countStable⟩
def k_Ke_countFrom : mKt := (⟨"RustFamily$Keepers", "countFrom", "(LRustFamily$Family;I)I"⟩, prog_5_method_15_code, 6, (Option.some Jvm.ClassFile.FieldType.int), fun _ _ => True)
theorem cv_Ke_countFrom : m_CV k_Ke_countFrom 2 := ⟨⟨w_co_Ke_countFrom, w_in_Ke, by decide, Nat.le_of_ble_eq_true rfl, by decide, by decide, by decide +kernel, fun _ _ => trivial⟩, w_im_Ke_countFrom, w_se_Ke_countFrom⟩
def k_Ke_isStable : mKt := (⟨"RustFamily$Keepers", "isStable", "(LRustFamily$Family;)Z"⟩, prog_5_method_16_code, 3, (Option.some Jvm.ClassFile.FieldType.boolean), fun _ _ => True)
theorem cv_Ke_isStable : m_CV k_Ke_isStable 1 := ⟨⟨w_co_Ke_isStable, w_in_Ke, by decide, Nat.le_of_ble_eq_true rfl, by decide, by decide, by decide +kernel, fun _ _ => trivial⟩, w_im_Ke_isStable, w_se_Ke_isStable⟩
def k_Ke_wouldChange : mKt := (⟨"RustFamily$Keepers", "wouldChange", "(LRustFamily$Family;I)Z"⟩, prog_5_method_17_code, 6, (Option.some Jvm.ClassFile.FieldType.boolean), fun _ _ => True)
theorem cv_Ke_wouldChange : m_CV k_Ke_wouldChange 2 := ⟨⟨w_co_Ke_wouldChange, w_in_Ke, by decide, Nat.le_of_ble_eq_true rfl, by decide, by decide, by decide +kernel, fun _ _ => trivial⟩, w_im_Ke_wouldChange, w_se_Ke_wouldChange⟩
def k_C_game : mKt := (⟨"RustFamily", "game", "(III)I"⟩, prog_1_method_60_code, 4, (Option.some Jvm.ClassFile.FieldType.int), fun _ _ => True)
theorem cv_C_game : m_CV k_C_game 3 := ⟨⟨w_co_C_game, w_in_C, by decide, Nat.le_of_ble_eq_true rfl, by decide, by decide, by decide +kernel, fun _ _ => trivial⟩, w_im_C_game, w_se_C_game⟩
def k_C_gameStatus : mKt := (⟨"RustFamily", "gameStatus", "(IIII)I"⟩, prog_1_method_65_code, 5, (Option.some Jvm.ClassFile.FieldType.int), fun _ _ => True)
theorem cv_C_gameStatus : m_CV k_C_gameStatus 4 := ⟨⟨w_co_C_gameStatus, w_in_C, by decide, Nat.le_of_ble_eq_true rfl, by decide, by decide, by decide +kernel, fun _ _ => trivial⟩, w_im_C_gameStatus, w_se_C_gameStatus⟩
def k_Ga_play : mKt := (⟨"RustFamily$Game", "play", "(LRustFamily$Family;III)I"⟩, prog_4_method_2_code, 6, (Option.some Jvm.ClassFile.FieldType.int), fun _ _ => True)
theorem cv_Ga_play : m_CV k_Ga_play 4 := ⟨⟨w_co_Ga_play, w_in_Ga, by decide, Nat.le_of_ble_eq_true rfl, by decide, by decide, by decide +kernel, fun _ _ => trivial⟩, w_im_Ga_play, w_se_Ga_play⟩
def k_Ga_bestFrom : mKt := (⟨"RustFamily$Game", "bestFrom", "(LRustFamily$Family;II)I"⟩, prog_4_method_3_code, 8, (Option.some Jvm.ClassFile.FieldType.int), fun _ _ => True)
theorem cv_Ga_bestFrom : m_CV k_Ga_bestFrom 3 := ⟨⟨w_co_Ga_bestFrom, w_in_Ga, by decide, Nat.le_of_ble_eq_true rfl, by decide, by decide, by decide +kernel, fun _ _ => trivial⟩, w_im_Ga_bestFrom, w_se_Ga_bestFrom⟩
def k_Ga_canMove : mKt := (⟨"RustFamily$Game", "canMove", "(II)Z"⟩, prog_4_method_6_code, 3, (Option.some Jvm.ClassFile.FieldType.boolean), fun _ _ => True)
theorem cv_Ga_canMove : m_CV k_Ga_canMove 2 := ⟨⟨w_co_Ga_canMove, w_in_Ga, by decide, Nat.le_of_ble_eq_true rfl, by decide, by decide, by decide +kernel, fun _ _ => trivial⟩, w_im_Ga_canMove, w_se_Ga_canMove⟩
def k_Ga_otherOf : mKt := (⟨"RustFamily$Game", "otherOf", "(II)LRustFamily$Thing;"⟩, prog_4_method_5_code, 3, (Option.some (Jvm.ClassFile.FieldType.object "RustFamily$Thing")), fun _ _ => True)
theorem cv_Ga_otherOf : m_CV k_Ga_otherOf 2 := ⟨⟨w_co_Ga_otherOf, w_in_Ga, by decide, Nat.le_of_ble_eq_true rfl, by decide, by decide, by decide +kernel, fun _ _ => trivial⟩, w_im_Ga_otherOf, w_se_Ga_otherOf⟩
def k_Ga_ownOf : mKt := (⟨"RustFamily$Game", "ownOf", "(II)LRustFamily$Thing;"⟩, prog_4_method_4_code, 3, (Option.some (Jvm.ClassFile.FieldType.object "RustFamily$Thing")), fun _ _ => True)
theorem cv_Ga_ownOf : m_CV k_Ga_ownOf 2 := ⟨⟨w_co_Ga_ownOf, w_in_Ga, by decide, Nat.le_of_ble_eq_true rfl, by decide, by decide, by decide +kernel, fun _ _ => trivial⟩, w_im_Ga_ownOf, w_se_Ga_ownOf⟩
def k_Ga_makeMove : mKt := (⟨"RustFamily$Game", "makeMove", "(LRustFamily$Family;II)V"⟩, prog_4_method_7_code, 6, (Option.none : Option Jvm.ClassFile.FieldType), fun _ _ => True)
theorem cv_Ga_makeMove : m_CV k_Ga_makeMove 3 := ⟨⟨w_co_Ga_makeMove, w_in_Ga, by decide, Nat.le_of_ble_eq_true rfl, by decide, by decide, by decide +kernel, fun _ _ => trivial⟩, w_im_Ga_makeMove, w_se_Ga_makeMove⟩
def k_C_moveOf : mKt := (⟨"RustFamily", "moveOf", "(III)I"⟩, prog_1_method_61_code, 4, (Option.some Jvm.ClassFile.FieldType.int), fun _ _ => True)
theorem cv_C_moveOf : m_CV k_C_moveOf 3 := ⟨⟨w_co_C_moveOf, w_in_C, by decide, Nat.le_of_ble_eq_true rfl, by decide, by decide, by decide +kernel, fun _ _ => trivial⟩, w_im_C_moveOf, w_se_C_moveOf⟩
def k_C_lasts : mKt := (⟨"RustFamily", "lasts", "(II)Z"⟩, prog_1_method_62_code, 3, (Option.some Jvm.ClassFile.FieldType.boolean), fun _ _ => True)
theorem cv_C_lasts : m_CV k_C_lasts 2 := ⟨⟨w_co_C_lasts, w_in_C, by decide, Nat.le_of_ble_eq_true rfl, by decide, by decide, by decide +kernel, fun _ _ => trivial⟩, w_im_C_lasts, w_se_C_lasts⟩
def k_C_oddsStatus : mKt := (⟨"RustFamily", "oddsStatus", "(II)I"⟩, prog_1_method_66_code, 3, (Option.some Jvm.ClassFile.FieldType.int), fun _ _ => True)
theorem cv_C_oddsStatus : m_CV k_C_oddsStatus 2 := ⟨⟨w_co_C_oddsStatus, w_in_C, by decide, Nat.le_of_ble_eq_true rfl, by decide, by decide, by decide +kernel, fun _ _ => trivial⟩, w_im_C_oddsStatus, w_se_C_oddsStatus⟩
def k_Ah_spread : mKt := (⟨"RustFamily$Ahead", "spread", "(LRustFamily$Family;II)V"⟩, prog_2_method_7_code, 5, (Option.none : Option Jvm.ClassFile.FieldType), fun _ _ => True)
theorem cv_Ah_spread : m_CV k_Ah_spread 3 := ⟨⟨w_co_Ah_spread, w_in_Ah, by decide, Nat.le_of_ble_eq_true rfl, by decide, by decide, by decide +kernel, fun _ _ => trivial⟩, w_im_Ah_spread, w_se_Ah_spread⟩
def k_Ah_spreadYear : mKt := (⟨"RustFamily$Ahead", "spreadYear", "(IZ)V"⟩, prog_2_method_8_code, 8, (Option.none : Option Jvm.ClassFile.FieldType), fun _ _ => True)
theorem cv_Ah_spreadYear : m_CV k_Ah_spreadYear 2 := ⟨⟨w_co_Ah_spreadYear, w_in_Ah, by decide, Nat.le_of_ble_eq_true rfl, by decide, by decide, by decide +kernel, fun _ _ => trivial⟩, w_im_Ah_spreadYear, w_se_Ah_spreadYear⟩
def k_Ah_waysToLast : mKt := (⟨"RustFamily$Ahead", "waysToLast", "(LRustFamily$Thing;I)I"⟩, prog_2_method_9_code, 4, (Option.some Jvm.ClassFile.FieldType.int), fun _ _ => True)
theorem cv_Ah_waysToLast : m_CV k_Ah_waysToLast 2 := ⟨⟨w_co_Ah_waysToLast, w_in_Ah, by decide, Nat.le_of_ble_eq_true rfl, by decide, by decide, by decide +kernel, fun _ _ => trivial⟩, w_im_Ah_waysToLast, w_se_Ah_waysToLast⟩
def k_C_tell : mKt := (⟨"RustFamily", "tell", "(JJ)V"⟩, prog_1_method_67_code, 7, (Option.none : Option Jvm.ClassFile.FieldType), fun _ _ => True)
theorem cv_C_tell : m_CV k_C_tell 2 := ⟨⟨w_co_C_tell, w_in_C, by decide, Nat.le_of_ble_eq_true rfl, by decide, by decide, by decide +kernel, fun _ _ => trivial⟩, w_im_C_tell, w_se_C_tell⟩
def k_C_commonDivisor : mKt := (⟨"RustFamily", "commonDivisor", "(JJ)J"⟩, prog_1_method_68_code, 11, (Option.some Jvm.ClassFile.FieldType.long), fun _ _ => True)
theorem cs_C_commonDivisor : m_CS k_C_commonDivisor 2 := ⟨⟨w_co_C_commonDivisor, w_in_C, by decide, Nat.le_of_ble_eq_true rfl, by decide, by decide, by decide +kernel, fun _ _ => trivial⟩, w_st_C_commonDivisor⟩
def k_C_thickFor : mKt := (⟨"RustFamily", "thickFor", "(III)I"⟩, prog_1_method_63_code, 6, (Option.some Jvm.ClassFile.FieldType.int), fun _ _ => True)
theorem cv_C_thickFor : m_CV k_C_thickFor 3 := ⟨⟨w_co_C_thickFor, w_in_C, by decide, Nat.le_of_ble_eq_true rfl, by decide, by decide, by decide +kernel, fun _ _ => trivial⟩, w_im_C_thickFor, w_se_C_thickFor⟩
def k_C_blame : mKt := (⟨"RustFamily", "blame", "(I)Z"⟩, prog_1_method_64_code, 5, (Option.some Jvm.ClassFile.FieldType.boolean), fun _ _ => True)
theorem cv_C_blame : m_CV k_C_blame 1 := ⟨⟨w_co_C_blame, w_in_C, by decide, Nat.le_of_ble_eq_true rfl, by decide, by decide, by decide +kernel, fun _ _ => trivial⟩, w_im_C_blame, w_se_C_blame⟩
def k_C_live : mKt := (⟨"RustFamily", "live", "(I)I"⟩, prog_1_method_69_code, 5, (Option.some Jvm.ClassFile.FieldType.int), fun _ _ => True)
theorem cv_C_live : m_CV k_C_live 1 := ⟨⟨w_co_C_live, w_in_C, by decide, Nat.le_of_ble_eq_true rfl, by decide, by decide, by decide +kernel, fun _ _ => trivial⟩, w_im_C_live, w_se_C_live⟩
def k_Pl_run : mKt := (⟨"RustFamily$Plan", "run", "(LRustFamily$Family;I)V"⟩, prog_7_method_6_code, 4, (Option.none : Option Jvm.ClassFile.FieldType), fun _ _ => True)
theorem cv_Pl_run : m_CV k_Pl_run 2 := ⟨⟨w_co_Pl_run, w_in_Pl, by decide, Nat.le_of_ble_eq_true rfl, by decide, by decide, by decide +kernel, fun _ _ => trivial⟩, w_im_Pl_run, w_se_Pl_run⟩
def k_Pl_enterLoop : mKt := (⟨"RustFamily$Plan", "enterLoop", "()V"⟩, prog_7_method_8_code, 1, (Option.none : Option Jvm.ClassFile.FieldType), fun _ _ => True)
theorem cv_Pl_enterLoop : m_CV k_Pl_enterLoop 0 := ⟨⟨w_co_Pl_enterLoop, w_in_Pl, by decide, Nat.le_of_ble_eq_true rfl, by decide, by decide, by decide +kernel, fun _ _ => trivial⟩, w_im_Pl_enterLoop, w_se_Pl_enterLoop⟩
def k_Pl_holds : mKt := (⟨"RustFamily$Plan", "holds", "(LRustFamily$Family;)Z"⟩, prog_7_method_10_code, 3, (Option.some Jvm.ClassFile.FieldType.boolean), fun _ _ => True)
theorem cv_Pl_holds : m_CV k_Pl_holds 1 := ⟨⟨w_co_Pl_holds, w_in_Pl, by decide, Nat.le_of_ble_eq_true rfl, by decide, by decide, by decide +kernel, fun _ _ => trivial⟩, w_im_Pl_holds, w_se_Pl_holds⟩
def k_Pl_act : mKt := (⟨"RustFamily$Plan", "act", "(LRustFamily$Family;)Z"⟩, prog_7_method_11_code, 2, (Option.some Jvm.ClassFile.FieldType.boolean), fun _ _ => True)
theorem cv_Pl_act : m_CV k_Pl_act 1 := ⟨⟨w_co_Pl_act, w_in_Pl, by decide, Nat.le_of_ble_eq_true rfl, by decide, by decide, by decide +kernel, fun _ _ => trivial⟩, w_im_Pl_act, w_se_Pl_act⟩
def k_Pl_actDamp : mKt := (⟨"RustFamily$Plan", "actDamp", "(LRustFamily$Family;I)Z"⟩, prog_7_method_12_code, 3, (Option.some Jvm.ClassFile.FieldType.boolean), fun _ _ => True)
theorem cs_Pl_actDamp : m_CS k_Pl_actDamp 2 := ⟨⟨w_co_Pl_actDamp, w_in_Pl, by decide, Nat.le_of_ble_eq_true rfl, by decide, by decide, by decide +kernel, fun _ _ => trivial⟩, w_st_Pl_actDamp⟩
def k_Pl_actLove : mKt := (⟨"RustFamily$Plan", "actLove", "(LRustFamily$Person;II)Z"⟩, prog_7_method_13_code, 4, (Option.some Jvm.ClassFile.FieldType.boolean), fun _ _ => True)
theorem cs_Pl_actLove : m_CS k_Pl_actLove 3 := ⟨⟨w_co_Pl_actLove, w_in_Pl, by decide, Nat.le_of_ble_eq_true rfl, by decide, by decide, by decide +kernel, fun _ _ => trivial⟩, w_st_Pl_actLove⟩
def k_Pl_actAny : mKt := (⟨"RustFamily$Plan", "actAny", "(LRustFamily$Family;)Z"⟩, prog_7_method_14_code, 3, (Option.some Jvm.ClassFile.FieldType.boolean), fun _ _ => True)
theorem cv_Pl_actAny : m_CV k_Pl_actAny 1 := ⟨⟨w_co_Pl_actAny, w_in_Pl, by decide, Nat.le_of_ble_eq_true rfl, by decide, by decide, by decide +kernel, fun _ _ => trivial⟩, w_im_Pl_actAny, w_se_Pl_actAny⟩
def k_Pl_draw : mKt := (⟨"RustFamily$Plan", "draw", "(I)I"⟩, prog_7_method_16_code, 2, (Option.some Jvm.ClassFile.FieldType.int), fun _ _ => True)
theorem cv_Pl_draw : m_CV k_Pl_draw 1 := ⟨⟨w_co_Pl_draw, w_in_Pl, by decide, Nat.le_of_ble_eq_true rfl, by decide, by decide, by decide +kernel, fun _ _ => trivial⟩, w_im_Pl_draw, w_se_Pl_draw⟩
def k_Pl_actOn : mKt := (⟨"RustFamily$Plan", "actOn", "(LRustFamily$Thing;II)Z"⟩, prog_7_method_15_code, 3, (Option.some Jvm.ClassFile.FieldType.boolean), fun _ _ => True)
theorem cs_Pl_actOn : m_CS k_Pl_actOn 3 := ⟨⟨w_co_Pl_actOn, w_in_Pl, by decide, Nat.le_of_ble_eq_true rfl, by decide, by decide, by decide +kernel, fun _ _ => trivial⟩, w_st_Pl_actOn⟩
def k_Pl_goRound : mKt := (⟨"RustFamily$Plan", "goRound", "()V"⟩, prog_7_method_9_code, 2, (Option.none : Option Jvm.ClassFile.FieldType), fun _ _ => True)
theorem cv_Pl_goRound : m_CV k_Pl_goRound 0 := ⟨⟨w_co_Pl_goRound, w_in_Pl, by decide, Nat.le_of_ble_eq_true rfl, by decide, by decide, by decide +kernel, fun _ _ => trivial⟩, w_im_Pl_goRound, w_se_Pl_goRound⟩
def k_Pl_isLeft : mKt := (⟨"RustFamily$Plan", "isLeft", "()Z"⟩, prog_7_method_7_code, 1, (Option.some Jvm.ClassFile.FieldType.boolean), fun _ _ => True)
theorem cv_Pl_isLeft : m_CV k_Pl_isLeft 0 := ⟨⟨w_co_Pl_isLeft, w_in_Pl, by decide, Nat.le_of_ble_eq_true rfl, by decide, by decide, by decide +kernel, fun _ _ => trivial⟩, w_im_Pl_isLeft, w_se_Pl_isLeft⟩
def k_C_lived : mKt := (⟨"RustFamily", "lived", "(I)I"⟩, prog_1_method_70_code, 2, (Option.some Jvm.ClassFile.FieldType.int), fun _ _ => True)
theorem cv_C_lived : m_CV k_C_lived 1 := ⟨⟨w_co_C_lived, w_in_C, by decide, Nat.le_of_ble_eq_true rfl, by decide, by decide, by decide +kernel, fun _ _ => trivial⟩, w_im_C_lived, w_se_C_lived⟩
def k_C_mean : mKt := (⟨"RustFamily", "mean", "(II)Z"⟩, prog_1_method_71_code, 5, (Option.some Jvm.ClassFile.FieldType.boolean), fun _ _ => True)
theorem cv_C_mean : m_CV k_C_mean 2 := ⟨⟨w_co_C_mean, w_in_C, by decide, Nat.le_of_ble_eq_true rfl, by decide, by decide, by decide +kernel, fun _ _ => trivial⟩, w_im_C_mean, w_se_C_mean⟩
def k_Fa_copyPeopleAndThings : mKt := (⟨"RustFamily$Family", "copyPeopleAndThings", "(LRustFamily$Family;)V"⟩, prog_3_method_2_code, 3, (Option.none : Option Jvm.ClassFile.FieldType), fun _ _ => True)
theorem cv_Fa_copyPeopleAndThings : m_CV k_Fa_copyPeopleAndThings 1 := ⟨⟨w_co_Fa_copyPeopleAndThings, w_in_Fa, by decide, Nat.le_of_ble_eq_true rfl, by decide, by decide, by decide +kernel, fun _ _ => trivial⟩, w_im_Fa_copyPeopleAndThings, w_se_Fa_copyPeopleAndThings⟩
def k_Pe_copyFrom : mKt := (⟨"RustFamily$Person", "copyFrom", "(LRustFamily$Person;)V"⟩, prog_6_method_2_code, 2, (Option.none : Option Jvm.ClassFile.FieldType), fun _ _ => True)
theorem cv_Pe_copyFrom : m_CV k_Pe_copyFrom 1 := ⟨⟨w_co_Pe_copyFrom, w_in_Pe, by decide, Nat.le_of_ble_eq_true rfl, by decide, by decide, by decide +kernel, fun _ _ => trivial⟩, w_im_Pe_copyFrom, w_se_Pe_copyFrom⟩
def k_C_mark : mKt := (⟨"RustFamily", "mark", "()I"⟩, prog_1_method_72_code, 1, (Option.some Jvm.ClassFile.FieldType.int), fun _ _ => True)
theorem cv_C_mark : m_CV k_C_mark 0 := ⟨⟨w_co_C_mark, w_in_C, by decide, Nat.le_of_ble_eq_true rfl, by decide, by decide, by decide +kernel, fun _ _ => trivial⟩, w_im_C_mark, w_se_C_mark⟩
def k_Pl_copyFrom : mKt := (⟨"RustFamily$Plan", "copyFrom", "(LRustFamily$Plan;)V"⟩, prog_7_method_3_code, 2, (Option.none : Option Jvm.ClassFile.FieldType), fun _ _ => True)
theorem cv_Pl_copyFrom : m_CV k_Pl_copyFrom 1 := ⟨⟨w_co_Pl_copyFrom, w_in_Pl, by decide, Nat.le_of_ble_eq_true rfl, by decide, by decide, by decide +kernel, fun _ _ => trivial⟩, w_im_Pl_copyFrom, w_se_Pl_copyFrom⟩
def k_C_back : mKt := (⟨"RustFamily", "back", "()I"⟩, prog_1_method_73_code, 2, (Option.some Jvm.ClassFile.FieldType.int), fun _ _ => True)
theorem cv_C_back : m_CV k_C_back 0 := ⟨⟨w_co_C_back, w_in_C, by decide, Nat.le_of_ble_eq_true rfl, by decide, by decide, by decide +kernel, fun _ _ => trivial⟩, w_im_C_back, w_se_C_back⟩
def k_M_init : mKt := (⟨"RustFamilyModel", "<init>", "()V"⟩, prog_14_method_1_code, 2, (Option.none : Option Jvm.ClassFile.FieldType), fun _ _ => True)
theorem ci_M_init : m_CI k_M_init 0 := ⟨⟨w_co_M_init, w_in_M, by decide, Nat.le_of_ble_eq_true rfl, by decide, by decide, by decide +kernel, fun _ _ => trivial⟩, w_im_M_init, rfl, rfl⟩
def k_M_empties : mKt := (⟨"RustFamilyModel", "empties", "(I)V"⟩, prog_14_method_56_code, 4, (Option.none : Option Jvm.ClassFile.FieldType), fun _ _ => True)
theorem cv_M_empties : m_CV k_M_empties 1 := ⟨⟨w_co_M_empties, w_in_M, by decide, Nat.le_of_ble_eq_true rfl, by decide, by decide, by decide +kernel, fun _ _ => trivial⟩, w_im_M_empties, w_se_M_empties⟩
def k_M_status : mKt := (⟨"RustFamilyModel", "status", "()I"⟩, prog_14_method_3_code, 1, (Option.some Jvm.ClassFile.FieldType.int), fun _ _ => True)
theorem cv_M_status : m_CV k_M_status 0 := ⟨⟨w_co_M_status, w_in_M, by decide, Nat.le_of_ble_eq_true rfl, by decide, by decide, by decide +kernel, fun _ _ => trivial⟩, w_im_M_status, w_se_M_status⟩
def k_M_top : mKt := (⟨"RustFamilyModel", "top", "()J"⟩, prog_14_method_4_code, 1, (Option.some Jvm.ClassFile.FieldType.long), fun _ _ => True)
theorem cv_M_top : m_CV k_M_top 0 := ⟨⟨w_co_M_top, w_in_M, by decide, Nat.le_of_ble_eq_true rfl, by decide, by decide, by decide +kernel, fun _ _ => trivial⟩, w_im_M_top, w_se_M_top⟩
def k_M_bottom : mKt := (⟨"RustFamilyModel", "bottom", "()J"⟩, prog_14_method_5_code, 1, (Option.some Jvm.ClassFile.FieldType.long), fun _ _ => True)
theorem cv_M_bottom : m_CV k_M_bottom 0 := ⟨⟨w_co_M_bottom, w_in_M, by decide, Nat.le_of_ble_eq_true rfl, by decide, by decide, by decide +kernel, fun _ _ => trivial⟩, w_im_M_bottom, w_se_M_bottom⟩
def k_M_tray : mKt := (⟨"RustFamilyModel", "tray", "(III)Z"⟩, prog_14_method_11_code, 5, (Option.some Jvm.ClassFile.FieldType.boolean), fun _ _ => True)
theorem cv_M_tray : m_CV k_M_tray 3 := ⟨⟨w_co_M_tray, w_in_M, by decide, Nat.le_of_ble_eq_true rfl, by decide, by decide, by decide +kernel, fun _ _ => trivial⟩, w_im_M_tray, w_se_M_tray⟩
def k_M_no : mKt := (⟨"RustFamilyModel", "no", "(I)Z"⟩, prog_14_method_7_code, 2, (Option.some Jvm.ClassFile.FieldType.boolean), fun _ _ => True)
theorem cv_M_no : m_CV k_M_no 1 := ⟨⟨w_co_M_no, w_in_M, by decide, Nat.le_of_ble_eq_true rfl, by decide, by decide, by decide +kernel, fun _ _ => trivial⟩, w_im_M_no, w_se_M_no⟩
def k_M_write : mKt := (⟨"RustFamilyModel", "write", "(IIJ)Z"⟩, prog_14_method_14_code, 5, (Option.some Jvm.ClassFile.FieldType.boolean), fun _ _ => True)
theorem cv_M_write : m_CV k_M_write 3 := ⟨⟨w_co_M_write, w_in_M, by decide, Nat.le_of_ble_eq_true rfl, by decide, by decide, by decide +kernel, fun _ _ => trivial⟩, w_im_M_write, w_se_M_write⟩
def k_M_placed : mKt := (⟨"RustFamilyModel", "placed", "(II)I"⟩, prog_14_method_13_code, 4, (Option.some Jvm.ClassFile.FieldType.int), fun _ _ => True)
theorem cv_M_placed : m_CV k_M_placed 2 := ⟨⟨w_co_M_placed, w_in_M, by decide, Nat.le_of_ble_eq_true rfl, by decide, by decide, by decide +kernel, fun _ _ => trivial⟩, w_im_M_placed, w_se_M_placed⟩
def k_M_trayed : mKt := (⟨"RustFamilyModel", "trayed", "(I)I"⟩, prog_14_method_12_code, 2, (Option.some Jvm.ClassFile.FieldType.int), fun _ _ => True)
theorem cv_M_trayed : m_CV k_M_trayed 1 := ⟨⟨w_co_M_trayed, w_in_M, by decide, Nat.le_of_ble_eq_true rfl, by decide, by decide, by decide +kernel, fun _ _ => trivial⟩, w_im_M_trayed, w_se_M_trayed⟩
def k_M_cut : mKt := (⟨"RustFamilyModel", "cut", "(IJ)J"⟩, prog_14_method_10_code, 3, (Option.some Jvm.ClassFile.FieldType.long), fun _ _ => True)
theorem cs_M_cut : m_CS k_M_cut 2 := ⟨⟨w_co_M_cut, w_in_M, by decide, Nat.le_of_ble_eq_true rfl, by decide, by decide, by decide +kernel, fun _ _ => trivial⟩, w_st_M_cut⟩
def k_M_read : mKt := (⟨"RustFamilyModel", "read", "(II)J"⟩, prog_14_method_15_code, 3, (Option.some Jvm.ClassFile.FieldType.long), fun _ _ => True)
theorem cv_M_read : m_CV k_M_read 2 := ⟨⟨w_co_M_read, w_in_M, by decide, Nat.le_of_ble_eq_true rfl, by decide, by decide, by decide +kernel, fun _ _ => trivial⟩, w_im_M_read, w_se_M_read⟩
def k_M_pour : mKt := (⟨"RustFamilyModel", "pour", "(IIIII)Z"⟩, prog_14_method_16_code, 9, (Option.some Jvm.ClassFile.FieldType.boolean), fun _ _ => True)
theorem cv_M_pour : m_CV k_M_pour 5 := ⟨⟨w_co_M_pour, w_in_M, by decide, Nat.le_of_ble_eq_true rfl, by decide, by decide, by decide +kernel, fun _ _ => trivial⟩, w_im_M_pour, w_se_M_pour⟩
def k_M_feed : mKt := (⟨"RustFamilyModel", "feed", "(IIIII)I"⟩, prog_14_method_51_code, 6, (Option.some Jvm.ClassFile.FieldType.int), fun _ _ => True)
theorem cv_M_feed : m_CV k_M_feed 5 := ⟨⟨w_co_M_feed, w_in_M, by decide, Nat.le_of_ble_eq_true rfl, by decide, by decide, by decide +kernel, fun _ _ => trivial⟩, w_im_M_feed, w_se_M_feed⟩
def k_M_lay : mKt := (⟨"RustFamilyModel", "lay", "(I)V"⟩, prog_14_method_52_code, 3, (Option.none : Option Jvm.ClassFile.FieldType), fun _ _ => True)
theorem cv_M_lay : m_CV k_M_lay 1 := ⟨⟨w_co_M_lay, w_in_M, by decide, Nat.le_of_ble_eq_true rfl, by decide, by decide, by decide +kernel, fun _ _ => trivial⟩, w_im_M_lay, w_se_M_lay⟩
def k_M_fault : mKt := (⟨"RustFamilyModel", "fault", "(I)I"⟩, prog_14_method_55_code, 2, (Option.some Jvm.ClassFile.FieldType.int), fun _ _ => True)
theorem cv_M_fault : m_CV k_M_fault 1 := ⟨⟨w_co_M_fault, w_in_M, by decide, Nat.le_of_ble_eq_true rfl, by decide, by decide, by decide +kernel, fun _ _ => trivial⟩, w_im_M_fault, w_se_M_fault⟩
def k_M_family : mKt := (⟨"RustFamilyModel", "family", "(I)I"⟩, prog_14_method_65_code, 2, (Option.some Jvm.ClassFile.FieldType.int), fun _ _ => True)
theorem cv_M_family : m_CV k_M_family 1 := ⟨⟨w_co_M_family, w_in_M, by decide, Nat.le_of_ble_eq_true rfl, by decide, by decide, by decide +kernel, fun _ _ => trivial⟩, w_im_M_family, w_se_M_family⟩
def k_M_starts : mKt := (⟨"RustFamilyModel", "starts", "(II)Z"⟩, prog_14_method_53_code, 3, (Option.some Jvm.ClassFile.FieldType.boolean), fun _ _ => True)
theorem cv_M_starts : m_CV k_M_starts 2 := ⟨⟨w_co_M_starts, w_in_M, by decide, Nat.le_of_ble_eq_true rfl, by decide, by decide, by decide +kernel, fun _ _ => trivial⟩, w_im_M_starts, w_se_M_starts⟩
def k_M_advance : mKt := (⟨"RustFamilyModel", "advance", "()V"⟩, prog_14_method_25_code, 2, (Option.none : Option Jvm.ClassFile.FieldType), fun _ _ => True)
theorem cv_M_advance : m_CV k_M_advance 0 := ⟨⟨w_co_M_advance, w_in_M, by decide, Nat.le_of_ble_eq_true rfl, by decide, by decide, by decide +kernel, fun _ _ => trivial⟩, w_im_M_advance, w_se_M_advance⟩
def k_M_look2 : mKt := (⟨"RustFamilyModel", "look2", "(I)I"⟩, prog_14_method_21_code, 2, (Option.some Jvm.ClassFile.FieldType.int), fun _ _ => True)
theorem cv_M_look2 : m_CV k_M_look2 1 := ⟨⟨w_co_M_look2, w_in_M, by decide, Nat.le_of_ble_eq_true rfl, by decide, by decide, by decide +kernel, fun _ _ => trivial⟩, w_im_M_look2, w_se_M_look2⟩
def k_M_isLetter : mKt := (⟨"RustFamilyModel", "isLetter", "(I)Z"⟩, prog_14_method_22_code, 1, (Option.some Jvm.ClassFile.FieldType.boolean), fun _ _ => True)
theorem cs_M_isLetter : m_CS k_M_isLetter 1 := ⟨⟨w_co_M_isLetter, w_in_M, by decide, Nat.le_of_ble_eq_true rfl, by decide, by decide, by decide +kernel, fun _ _ => trivial⟩, w_st_M_isLetter⟩
def k_M_isDigit : mKt := (⟨"RustFamilyModel", "isDigit", "(I)Z"⟩, prog_14_method_23_code, 1, (Option.some Jvm.ClassFile.FieldType.boolean), fun _ _ => True)
theorem cs_M_isDigit : m_CS k_M_isDigit 1 := ⟨⟨w_co_M_isDigit, w_in_M, by decide, Nat.le_of_ble_eq_true rfl, by decide, by decide, by decide +kernel, fun _ _ => trivial⟩, w_st_M_isDigit⟩
def k_M_isSignByte : mKt := (⟨"RustFamilyModel", "isSignByte", "(I)Z"⟩, prog_14_method_24_code, 2, (Option.some Jvm.ClassFile.FieldType.boolean), fun _ _ => True)
theorem cv_M_isSignByte : m_CV k_M_isSignByte 1 := ⟨⟨w_co_M_isSignByte, w_in_M, by decide, Nat.le_of_ble_eq_true rfl, by decide, by decide, by decide +kernel, fun _ _ => trivial⟩, w_im_M_isSignByte, w_se_M_isSignByte⟩
def k_M_readPart : mKt := (⟨"RustFamilyModel", "readPart", "()V"⟩, prog_14_method_64_code, 1, (Option.none : Option Jvm.ClassFile.FieldType), fun _ _ => True)
theorem cv_M_readPart : m_CV k_M_readPart 0 := ⟨⟨w_co_M_readPart, w_in_M, by decide, Nat.le_of_ble_eq_true rfl, by decide, by decide, by decide +kernel, fun _ _ => trivial⟩, w_im_M_readPart, w_se_M_readPart⟩
def k_M_isShows : mKt := (⟨"RustFamilyModel", "isShows", "()Z"⟩, prog_14_method_29_code, 1, (Option.some Jvm.ClassFile.FieldType.boolean), fun _ _ => True)
theorem cv_M_isShows : m_CV k_M_isShows 0 := ⟨⟨w_co_M_isShows, w_in_M, by decide, Nat.le_of_ble_eq_true rfl, by decide, by decide, by decide +kernel, fun _ _ => trivial⟩, w_im_M_isShows, w_se_M_isShows⟩
def k_M_spelled : mKt := (⟨"RustFamilyModel", "spelled", "(IIIIII)J"⟩, prog_14_method_27_code, 8, (Option.some Jvm.ClassFile.FieldType.long), fun _ _ => True)
theorem cs_M_spelled : m_CS k_M_spelled 6 := ⟨⟨w_co_M_spelled, w_in_M, by decide, Nat.le_of_ble_eq_true rfl, by decide, by decide, by decide +kernel, fun _ _ => trivial⟩, w_st_M_spelled⟩
def k_M_isWord : mKt := (⟨"RustFamilyModel", "isWord", "(J)Z"⟩, prog_14_method_28_code, 3, (Option.some Jvm.ClassFile.FieldType.boolean), fun _ _ => True)
theorem cv_M_isWord : m_CV k_M_isWord 1 := ⟨⟨w_co_M_isWord, w_in_M, by decide, Nat.le_of_ble_eq_true rfl, by decide, by decide, by decide +kernel, fun _ _ => trivial⟩, w_im_M_isWord, w_se_M_isWord⟩
def k_M_readOnce : mKt := (⟨"RustFamilyModel", "readOnce", "(III)V"⟩, prog_14_method_60_code, 4, (Option.none : Option Jvm.ClassFile.FieldType), fun _ _ => True)
theorem cv_M_readOnce : m_CV k_M_readOnce 3 := ⟨⟨w_co_M_readOnce, w_in_M, by decide, Nat.le_of_ble_eq_true rfl, by decide, by decide, by decide +kernel, fun _ _ => trivial⟩, w_im_M_readOnce, w_se_M_readOnce⟩
def k_M_has : mKt := (⟨"RustFamilyModel", "has", "(II)Z"⟩, prog_14_method_19_code, 2, (Option.some Jvm.ClassFile.FieldType.boolean), fun _ _ => True)
theorem cs_M_has : m_CS k_M_has 2 := ⟨⟨w_co_M_has, w_in_M, by decide, Nat.le_of_ble_eq_true rfl, by decide, by decide, by decide +kernel, fun _ _ => trivial⟩, w_st_M_has⟩
def k_M_fail : mKt := (⟨"RustFamilyModel", "fail", "(II)V"⟩, prog_14_method_45_code, 3, (Option.none : Option Jvm.ClassFile.FieldType), fun _ _ => True)
theorem cv_M_fail : m_CV k_M_fail 2 := ⟨⟨w_co_M_fail, w_in_M, by decide, Nat.le_of_ble_eq_true rfl, by decide, by decide, by decide +kernel, fun _ _ => trivial⟩, w_im_M_fail, w_se_M_fail⟩
def k_M_count : mKt := (⟨"RustFamilyModel", "count", "(II)I"⟩, prog_14_method_48_code, 4, (Option.some Jvm.ClassFile.FieldType.int), fun _ _ => True)
theorem cv_M_count : m_CV k_M_count 2 := ⟨⟨w_co_M_count, w_in_M, by decide, Nat.le_of_ble_eq_true rfl, by decide, by decide, by decide +kernel, fun _ _ => trivial⟩, w_im_M_count, w_se_M_count⟩
def k_M_amiss : mKt := (⟨"RustFamilyModel", "amiss", "()V"⟩, prog_14_method_46_code, 1, (Option.none : Option Jvm.ClassFile.FieldType), fun _ _ => True)
theorem cv_M_amiss : m_CV k_M_amiss 0 := ⟨⟨w_co_M_amiss, w_in_M, by decide, Nat.le_of_ble_eq_true rfl, by decide, by decide, by decide +kernel, fun _ _ => trivial⟩, w_im_M_amiss, w_se_M_amiss⟩
def k_M_isIn : mKt := (⟨"RustFamilyModel", "isIn", "(JJJ)Z"⟩, prog_14_method_8_code, 6, (Option.some Jvm.ClassFile.FieldType.boolean), fun _ _ => True)
theorem cs_M_isIn : m_CS k_M_isIn 3 := ⟨⟨w_co_M_isIn, w_in_M, by decide, Nat.le_of_ble_eq_true rfl, by decide, by decide, by decide +kernel, fun _ _ => trivial⟩, w_st_M_isIn⟩
def k_M_isLife : mKt := (⟨"RustFamilyModel", "isLife", "()Z"⟩, prog_14_method_30_code, 1, (Option.some Jvm.ClassFile.FieldType.boolean), fun _ _ => True)
theorem cv_M_isLife : m_CV k_M_isLife 0 := ⟨⟨w_co_M_isLife, w_in_M, by decide, Nat.le_of_ble_eq_true rfl, by decide, by decide, by decide +kernel, fun _ _ => trivial⟩, w_im_M_isLife, w_se_M_isLife⟩
def k_M_isDamp : mKt := (⟨"RustFamilyModel", "isDamp", "()Z"⟩, prog_14_method_31_code, 1, (Option.some Jvm.ClassFile.FieldType.boolean), fun _ _ => True)
theorem cv_M_isDamp : m_CV k_M_isDamp 0 := ⟨⟨w_co_M_isDamp, w_in_M, by decide, Nat.le_of_ble_eq_true rfl, by decide, by decide, by decide +kernel, fun _ _ => trivial⟩, w_im_M_isDamp, w_se_M_isDamp⟩
def k_M_isBreath : mKt := (⟨"RustFamilyModel", "isBreath", "()Z"⟩, prog_14_method_32_code, 1, (Option.some Jvm.ClassFile.FieldType.boolean), fun _ _ => True)
theorem cv_M_isBreath : m_CV k_M_isBreath 0 := ⟨⟨w_co_M_isBreath, w_in_M, by decide, Nat.le_of_ble_eq_true rfl, by decide, by decide, by decide +kernel, fun _ _ => trivial⟩, w_im_M_isBreath, w_se_M_isBreath⟩
def k_M_isPerson : mKt := (⟨"RustFamilyModel", "isPerson", "()Z"⟩, prog_14_method_33_code, 1, (Option.some Jvm.ClassFile.FieldType.boolean), fun _ _ => True)
theorem cv_M_isPerson : m_CV k_M_isPerson 0 := ⟨⟨w_co_M_isPerson, w_in_M, by decide, Nat.le_of_ble_eq_true rfl, by decide, by decide, by decide +kernel, fun _ _ => trivial⟩, w_im_M_isPerson, w_se_M_isPerson⟩
def k_M_readPerson : mKt := (⟨"RustFamilyModel", "readPerson", "()V"⟩, prog_14_method_61_code, 4, (Option.none : Option Jvm.ClassFile.FieldType), fun _ _ => True)
theorem cv_M_readPerson : m_CV k_M_readPerson 0 := ⟨⟨w_co_M_readPerson, w_in_M, by decide, Nat.le_of_ble_eq_true rfl, by decide, by decide, by decide +kernel, fun _ _ => trivial⟩, w_im_M_readPerson, w_se_M_readPerson⟩
def k_M_readNew : mKt := (⟨"RustFamilyModel", "readNew", "(II)I"⟩, prog_14_method_58_code, 4, (Option.some Jvm.ClassFile.FieldType.int), fun _ _ => True)
theorem cv_M_readNew : m_CV k_M_readNew 2 := ⟨⟨w_co_M_readNew, w_in_M, by decide, Nat.le_of_ble_eq_true rfl, by decide, by decide, by decide +kernel, fun _ _ => trivial⟩, w_im_M_readNew, w_se_M_readNew⟩
def k_M_isName : mKt := (⟨"RustFamilyModel", "isName", "()Z"⟩, prog_14_method_44_code, 1, (Option.some Jvm.ClassFile.FieldType.boolean), fun _ _ => True)
theorem cv_M_isName : m_CV k_M_isName 0 := ⟨⟨w_co_M_isName, w_in_M, by decide, Nat.le_of_ble_eq_true rfl, by decide, by decide, by decide +kernel, fun _ _ => trivial⟩, w_im_M_isName, w_se_M_isName⟩
def k_M_isKept : mKt := (⟨"RustFamilyModel", "isKept", "()Z"⟩, prog_14_method_43_code, 1, (Option.some Jvm.ClassFile.FieldType.boolean), fun _ _ => True)
theorem cv_M_isKept : m_CV k_M_isKept 0 := ⟨⟨w_co_M_isKept, w_in_M, by decide, Nat.le_of_ble_eq_true rfl, by decide, by decide, by decide +kernel, fun _ _ => trivial⟩, w_im_M_isKept, w_se_M_isKept⟩
def k_M_isAge : mKt := (⟨"RustFamilyModel", "isAge", "()Z"⟩, prog_14_method_34_code, 1, (Option.some Jvm.ClassFile.FieldType.boolean), fun _ _ => True)
theorem cv_M_isAge : m_CV k_M_isAge 0 := ⟨⟨w_co_M_isAge, w_in_M, by decide, Nat.le_of_ble_eq_true rfl, by decide, by decide, by decide +kernel, fun _ _ => trivial⟩, w_im_M_isAge, w_se_M_isAge⟩
def k_M_isOf : mKt := (⟨"RustFamilyModel", "isOf", "()Z"⟩, prog_14_method_35_code, 1, (Option.some Jvm.ClassFile.FieldType.boolean), fun _ _ => True)
theorem cv_M_isOf : m_CV k_M_isOf 0 := ⟨⟨w_co_M_isOf, w_in_M, by decide, Nat.le_of_ble_eq_true rfl, by decide, by decide, by decide +kernel, fun _ _ => trivial⟩, w_im_M_isOf, w_se_M_isOf⟩
def k_M_isThing : mKt := (⟨"RustFamilyModel", "isThing", "()Z"⟩, prog_14_method_36_code, 1, (Option.some Jvm.ClassFile.FieldType.boolean), fun _ _ => True)
theorem cv_M_isThing : m_CV k_M_isThing 0 := ⟨⟨w_co_M_isThing, w_in_M, by decide, Nat.le_of_ble_eq_true rfl, by decide, by decide, by decide +kernel, fun _ _ => trivial⟩, w_im_M_isThing, w_se_M_isThing⟩
def k_M_isThick : mKt := (⟨"RustFamilyModel", "isThick", "()Z"⟩, prog_14_method_37_code, 1, (Option.some Jvm.ClassFile.FieldType.boolean), fun _ _ => True)
theorem cv_M_isThick : m_CV k_M_isThick 0 := ⟨⟨w_co_M_isThick, w_in_M, by decide, Nat.le_of_ble_eq_true rfl, by decide, by decide, by decide +kernel, fun _ _ => trivial⟩, w_im_M_isThick, w_se_M_isThick⟩
def k_M_stepWord : mKt := (⟨"RustFamilyModel", "stepWord", "()I"⟩, prog_14_method_40_code, 1, (Option.some Jvm.ClassFile.FieldType.int), fun _ _ => True)
theorem cv_M_stepWord : m_CV k_M_stepWord 0 := ⟨⟨w_co_M_stepWord, w_in_M, by decide, Nat.le_of_ble_eq_true rfl, by decide, by decide, by decide +kernel, fun _ _ => trivial⟩, w_im_M_stepWord, w_se_M_stepWord⟩
def k_M_isLoves : mKt := (⟨"RustFamilyModel", "isLoves", "()Z"⟩, prog_14_method_39_code, 1, (Option.some Jvm.ClassFile.FieldType.boolean), fun _ _ => True)
theorem cv_M_isLoves : m_CV k_M_isLoves 0 := ⟨⟨w_co_M_isLoves, w_in_M, by decide, Nat.le_of_ble_eq_true rfl, by decide, by decide, by decide +kernel, fun _ _ => trivial⟩, w_im_M_isLoves, w_se_M_isLoves⟩
def k_M_isCoat : mKt := (⟨"RustFamilyModel", "isCoat", "()Z"⟩, prog_14_method_38_code, 1, (Option.some Jvm.ClassFile.FieldType.boolean), fun _ _ => True)
theorem cv_M_isCoat : m_CV k_M_isCoat 0 := ⟨⟨w_co_M_isCoat, w_in_M, by decide, Nat.le_of_ble_eq_true rfl, by decide, by decide, by decide +kernel, fun _ _ => trivial⟩, w_im_M_isCoat, w_se_M_isCoat⟩
def k_M_testWord : mKt := (⟨"RustFamilyModel", "testWord", "()I"⟩, prog_14_method_41_code, 1, (Option.some Jvm.ClassFile.FieldType.int), fun _ _ => True)
theorem cv_M_testWord : m_CV k_M_testWord 0 := ⟨⟨w_co_M_testWord, w_in_M, by decide, Nat.le_of_ble_eq_true rfl, by decide, by decide, by decide +kernel, fun _ _ => trivial⟩, w_im_M_testWord, w_se_M_testWord⟩
def k_M_isEnd : mKt := (⟨"RustFamilyModel", "isEnd", "()Z"⟩, prog_14_method_42_code, 1, (Option.some Jvm.ClassFile.FieldType.boolean), fun _ _ => True)
theorem cv_M_isEnd : m_CV k_M_isEnd 0 := ⟨⟨w_co_M_isEnd, w_in_M, by decide, Nat.le_of_ble_eq_true rfl, by decide, by decide, by decide +kernel, fun _ _ => trivial⟩, w_im_M_isEnd, w_se_M_isEnd⟩
def k_M_named : mKt := (⟨"RustFamilyModel", "named", "(II)I"⟩, prog_14_method_57_code, 4, (Option.some Jvm.ClassFile.FieldType.int), fun _ _ => True)
theorem cv_M_named : m_CV k_M_named 2 := ⟨⟨w_co_M_named, w_in_M, by decide, Nat.le_of_ble_eq_true rfl, by decide, by decide, by decide +kernel, fun _ _ => trivial⟩, w_im_M_named, w_se_M_named⟩
def k_M_behindWord : mKt := (⟨"RustFamilyModel", "behindWord", "(ZII)I"⟩, prog_14_method_49_code, 4, (Option.some Jvm.ClassFile.FieldType.int), fun _ _ => True)
theorem cv_M_behindWord : m_CV k_M_behindWord 3 := ⟨⟨w_co_M_behindWord, w_in_M, by decide, Nat.le_of_ble_eq_true rfl, by decide, by decide, by decide +kernel, fun _ _ => trivial⟩, w_im_M_behindWord, w_se_M_behindWord⟩
def k_M_must : mKt := (⟨"RustFamilyModel", "must", "(Z)V"⟩, prog_14_method_47_code, 2, (Option.none : Option Jvm.ClassFile.FieldType), fun _ _ => True)
theorem cv_M_must : m_CV k_M_must 1 := ⟨⟨w_co_M_must, w_in_M, by decide, Nat.le_of_ble_eq_true rfl, by decide, by decide, by decide +kernel, fun _ _ => trivial⟩, w_im_M_must, w_se_M_must⟩
def k_M_perhaps : mKt := (⟨"RustFamilyModel", "perhaps", "(Z)Z"⟩, prog_14_method_50_code, 2, (Option.some Jvm.ClassFile.FieldType.boolean), fun _ _ => True)
theorem cv_M_perhaps : m_CV k_M_perhaps 1 := ⟨⟨w_co_M_perhaps, w_in_M, by decide, Nat.le_of_ble_eq_true rfl, by decide, by decide, by decide +kernel, fun _ _ => trivial⟩, w_im_M_perhaps, w_se_M_perhaps⟩
def k_M_readThing : mKt := (⟨"RustFamilyModel", "readThing", "()V"⟩, prog_14_method_62_code, 4, (Option.none : Option Jvm.ClassFile.FieldType), fun _ _ => True)
theorem cv_M_readThing : m_CV k_M_readThing 0 := ⟨⟨w_co_M_readThing, w_in_M, by decide, Nat.le_of_ble_eq_true rfl, by decide, by decide, by decide +kernel, fun _ _ => trivial⟩, w_im_M_readThing, w_se_M_readThing⟩
def k_M_readLoves : mKt := (⟨"RustFamilyModel", "readLoves", "()V"⟩, prog_14_method_63_code, 4, (Option.none : Option Jvm.ClassFile.FieldType), fun _ _ => True)
theorem cv_M_readLoves : m_CV k_M_readLoves 0 := ⟨⟨w_co_M_readLoves, w_in_M, by decide, Nat.le_of_ble_eq_true rfl, by decide, by decide, by decide +kernel, fun _ _ => trivial⟩, w_im_M_readLoves, w_se_M_readLoves⟩
def k_M_readTold : mKt := (⟨"RustFamilyModel", "readTold", "(II)I"⟩, prog_14_method_59_code, 4, (Option.some Jvm.ClassFile.FieldType.int), fun _ _ => True)
theorem cv_M_readTold : m_CV k_M_readTold 2 := ⟨⟨w_co_M_readTold, w_in_M, by decide, Nat.le_of_ble_eq_true rfl, by decide, by decide, by decide +kernel, fun _ _ => trivial⟩, w_im_M_readTold, w_se_M_readTold⟩
def k_M_isSign : mKt := (⟨"RustFamilyModel", "isSign", "(I)Z"⟩, prog_14_method_26_code, 2, (Option.some Jvm.ClassFile.FieldType.boolean), fun _ _ => True)
theorem cv_M_isSign : m_CV k_M_isSign 1 := ⟨⟨w_co_M_isSign, w_in_M, by decide, Nat.le_of_ble_eq_true rfl, by decide, by decide, by decide +kernel, fun _ _ => trivial⟩, w_im_M_isSign, w_se_M_isSign⟩
def k_M_isWell : mKt := (⟨"RustFamilyModel", "isWell", "()Z"⟩, prog_14_method_54_code, 1, (Option.some Jvm.ClassFile.FieldType.boolean), fun _ _ => True)
theorem cv_M_isWell : m_CV k_M_isWell 0 := ⟨⟨w_co_M_isWell, w_in_M, by decide, Nat.le_of_ble_eq_true rfl, by decide, by decide, by decide +kernel, fun _ _ => trivial⟩, w_im_M_isWell, w_se_M_isWell⟩
def k_M_copy : mKt := (⟨"RustFamilyModel", "copy", "(II)V"⟩, prog_14_method_166_code, 4, (Option.none : Option Jvm.ClassFile.FieldType), fun _ _ => True)
theorem cv_M_copy : m_CV k_M_copy 2 := ⟨⟨w_co_M_copy, w_in_M, by decide, Nat.le_of_ble_eq_true rfl, by decide, by decide, by decide +kernel, fun _ _ => trivial⟩, w_im_M_copy, w_se_M_copy⟩
def k_M_years : mKt := (⟨"RustFamilyModel", "years", "(I)I"⟩, prog_14_method_69_code, 3, (Option.some Jvm.ClassFile.FieldType.int), fun _ _ => True)
theorem cv_M_years : m_CV k_M_years 1 := ⟨⟨w_co_M_years, w_in_M, by decide, Nat.le_of_ble_eq_true rfl, by decide, by decide, by decide +kernel, fun _ _ => trivial⟩, w_im_M_years, w_se_M_years⟩
def k_M_readStep : mKt := (⟨"RustFamilyModel", "readStep", "(I)V"⟩, prog_14_method_68_code, 5, (Option.none : Option Jvm.ClassFile.FieldType), fun _ _ => True)
theorem cv_M_readStep : m_CV k_M_readStep 1 := ⟨⟨w_co_M_readStep, w_in_M, by decide, Nat.le_of_ble_eq_true rfl, by decide, by decide, by decide +kernel, fun _ _ => trivial⟩, w_im_M_readStep, w_se_M_readStep⟩
def k_M_readRest : mKt := (⟨"RustFamilyModel", "readRest", "(I)V"⟩, prog_14_method_67_code, 3, (Option.none : Option Jvm.ClassFile.FieldType), fun _ _ => True)
theorem cv_M_readRest : m_CV k_M_readRest 1 := ⟨⟨w_co_M_readRest, w_in_M, by decide, Nat.le_of_ble_eq_true rfl, by decide, by decide, by decide +kernel, fun _ _ => trivial⟩, w_im_M_readRest, w_se_M_readRest⟩
def k_M_readTest : mKt := (⟨"RustFamilyModel", "readTest", "(I)V"⟩, prog_14_method_66_code, 3, (Option.none : Option Jvm.ClassFile.FieldType), fun _ _ => True)
theorem cv_M_readTest : m_CV k_M_readTest 1 := ⟨⟨w_co_M_readTest, w_in_M, by decide, Nat.le_of_ble_eq_true rfl, by decide, by decide, by decide +kernel, fun _ _ => trivial⟩, w_im_M_readTest, w_se_M_readTest⟩
def k_M_many : mKt := (⟨"RustFamilyModel", "many", "(I)I"⟩, prog_14_method_83_code, 2, (Option.some Jvm.ClassFile.FieldType.int), fun _ _ => True)
theorem cv_M_many : m_CV k_M_many 1 := ⟨⟨w_co_M_many, w_in_M, by decide, Nat.le_of_ble_eq_true rfl, by decide, by decide, by decide +kernel, fun _ _ => trivial⟩, w_im_M_many, w_se_M_many⟩
def k_M_refuse : mKt := (⟨"RustFamilyModel", "refuse", "(I)I"⟩, prog_14_method_6_code, 2, (Option.some Jvm.ClassFile.FieldType.int), fun _ _ => True)
theorem cv_M_refuse : m_CV k_M_refuse 1 := ⟨⟨w_co_M_refuse, w_in_M, by decide, Nat.le_of_ble_eq_true rfl, by decide, by decide, by decide +kernel, fun _ _ => trivial⟩, w_im_M_refuse, w_se_M_refuse⟩
def k_M_living : mKt := (⟨"RustFamilyModel", "living", "()I"⟩, prog_14_method_78_code, 3, (Option.some Jvm.ClassFile.FieldType.int), fun _ _ => True)
theorem cv_M_living : m_CV k_M_living 0 := ⟨⟨w_co_M_living, w_in_M, by decide, Nat.le_of_ble_eq_true rfl, by decide, by decide, by decide +kernel, fun _ _ => trivial⟩, w_im_M_living, w_se_M_living⟩
def k_M_showing : mKt := (⟨"RustFamilyModel", "showing", "()I"⟩, prog_14_method_79_code, 3, (Option.some Jvm.ClassFile.FieldType.int), fun _ _ => True)
theorem cv_M_showing : m_CV k_M_showing 0 := ⟨⟨w_co_M_showing, w_in_M, by decide, Nat.le_of_ble_eq_true rfl, by decide, by decide, by decide +kernel, fun _ _ => trivial⟩, w_im_M_showing, w_se_M_showing⟩
def k_M_showsNow : mKt := (⟨"RustFamilyModel", "showsNow", "(I)Z"⟩, prog_14_method_73_code, 2, (Option.some Jvm.ClassFile.FieldType.boolean), fun _ _ => True)
theorem cv_M_showsNow : m_CV k_M_showsNow 1 := ⟨⟨w_co_M_showsNow, w_in_M, by decide, Nat.le_of_ble_eq_true rfl, by decide, by decide, by decide +kernel, fun _ _ => trivial⟩, w_im_M_showsNow, w_se_M_showsNow⟩
def k_M_throughs : mKt := (⟨"RustFamilyModel", "throughs", "()I"⟩, prog_14_method_80_code, 3, (Option.some Jvm.ClassFile.FieldType.int), fun _ _ => True)
theorem cv_M_throughs : m_CV k_M_throughs 0 := ⟨⟨w_co_M_throughs, w_in_M, by decide, Nat.le_of_ble_eq_true rfl, by decide, by decide, by decide +kernel, fun _ _ => trivial⟩, w_im_M_throughs, w_se_M_throughs⟩
def k_M_isThrough : mKt := (⟨"RustFamilyModel", "isThrough", "(I)Z"⟩, prog_14_method_72_code, 2, (Option.some Jvm.ClassFile.FieldType.boolean), fun _ _ => True)
theorem cv_M_isThrough : m_CV k_M_isThrough 1 := ⟨⟨w_co_M_isThrough, w_in_M, by decide, Nat.le_of_ble_eq_true rfl, by decide, by decide, by decide +kernel, fun _ _ => trivial⟩, w_im_M_isThrough, w_se_M_isThrough⟩
def k_M_oiled : mKt := (⟨"RustFamilyModel", "oiled", "()I"⟩, prog_14_method_81_code, 3, (Option.some Jvm.ClassFile.FieldType.int), fun _ _ => True)
theorem cv_M_oiled : m_CV k_M_oiled 0 := ⟨⟨w_co_M_oiled, w_in_M, by decide, Nat.le_of_ble_eq_true rfl, by decide, by decide, by decide +kernel, fun _ _ => trivial⟩, w_im_M_oiled, w_se_M_oiled⟩
def k_M_allRust : mKt := (⟨"RustFamilyModel", "allRust", "()I"⟩, prog_14_method_82_code, 3, (Option.some Jvm.ClassFile.FieldType.int), fun _ _ => True)
theorem cv_M_allRust : m_CV k_M_allRust 0 := ⟨⟨w_co_M_allRust, w_in_M, by decide, Nat.le_of_ble_eq_true rfl, by decide, by decide, by decide +kernel, fun _ _ => trivial⟩, w_im_M_allRust, w_se_M_allRust⟩
def k_M_person : mKt := (⟨"RustFamilyModel", "person", "(II)I"⟩, prog_14_method_85_code, 3, (Option.some Jvm.ClassFile.FieldType.int), fun _ _ => True)
theorem cv_M_person : m_CV k_M_person 2 := ⟨⟨w_co_M_person, w_in_M, by decide, Nat.le_of_ble_eq_true rfl, by decide, by decide, by decide +kernel, fun _ _ => trivial⟩, w_im_M_person, w_se_M_person⟩
def k_M_isPersonAt : mKt := (⟨"RustFamilyModel", "isPersonAt", "(I)Z"⟩, prog_14_method_70_code, 2, (Option.some Jvm.ClassFile.FieldType.boolean), fun _ _ => True)
theorem cv_M_isPersonAt : m_CV k_M_isPersonAt 1 := ⟨⟨w_co_M_isPersonAt, w_in_M, by decide, Nat.le_of_ble_eq_true rfl, by decide, by decide, by decide +kernel, fun _ _ => trivial⟩, w_im_M_isPersonAt, w_se_M_isPersonAt⟩
def k_M_lovedThings : mKt := (⟨"RustFamilyModel", "lovedThings", "(I)I"⟩, prog_14_method_84_code, 4, (Option.some Jvm.ClassFile.FieldType.int), fun _ _ => True)
theorem cv_M_lovedThings : m_CV k_M_lovedThings 1 := ⟨⟨w_co_M_lovedThings, w_in_M, by decide, Nat.le_of_ble_eq_true rfl, by decide, by decide, by decide +kernel, fun _ _ => trivial⟩, w_im_M_lovedThings, w_se_M_lovedThings⟩
def k_M_loveOf : mKt := (⟨"RustFamilyModel", "loveOf", "(II)I"⟩, prog_14_method_74_code, 3, (Option.some Jvm.ClassFile.FieldType.int), fun _ _ => True)
theorem cv_M_loveOf : m_CV k_M_loveOf 2 := ⟨⟨w_co_M_loveOf, w_in_M, by decide, Nat.le_of_ble_eq_true rfl, by decide, by decide, by decide +kernel, fun _ _ => trivial⟩, w_im_M_loveOf, w_se_M_loveOf⟩
def k_M_thing : mKt := (⟨"RustFamilyModel", "thing", "(II)I"⟩, prog_14_method_86_code, 3, (Option.some Jvm.ClassFile.FieldType.int), fun _ _ => True)
theorem cv_M_thing : m_CV k_M_thing 2 := ⟨⟨w_co_M_thing, w_in_M, by decide, Nat.le_of_ble_eq_true rfl, by decide, by decide, by decide +kernel, fun _ _ => trivial⟩, w_im_M_thing, w_se_M_thing⟩
def k_M_isThingAt : mKt := (⟨"RustFamilyModel", "isThingAt", "(I)Z"⟩, prog_14_method_71_code, 2, (Option.some Jvm.ClassFile.FieldType.boolean), fun _ _ => True)
theorem cv_M_isThingAt : m_CV k_M_isThingAt 1 := ⟨⟨w_co_M_isThingAt, w_in_M, by decide, Nat.le_of_ble_eq_true rfl, by decide, by decide, by decide +kernel, fun _ _ => trivial⟩, w_im_M_isThingAt, w_se_M_isThingAt⟩
def k_M_lovedOf : mKt := (⟨"RustFamilyModel", "lovedOf", "(I)I"⟩, prog_14_method_75_code, 4, (Option.some Jvm.ClassFile.FieldType.int), fun _ _ => True)
theorem cv_M_lovedOf : m_CV k_M_lovedOf 1 := ⟨⟨w_co_M_lovedOf, w_in_M, by decide, Nat.le_of_ble_eq_true rfl, by decide, by decide, by decide +kernel, fun _ _ => trivial⟩, w_im_M_lovedOf, w_se_M_lovedOf⟩
def k_M_biteOf : mKt := (⟨"RustFamilyModel", "biteOf", "(I)I"⟩, prog_14_method_77_code, 2, (Option.some Jvm.ClassFile.FieldType.int), fun _ _ => True)
theorem cv_M_biteOf : m_CV k_M_biteOf 1 := ⟨⟨w_co_M_biteOf, w_in_M, by decide, Nat.le_of_ble_eq_true rfl, by decide, by decide, by decide +kernel, fun _ _ => trivial⟩, w_im_M_biteOf, w_se_M_biteOf⟩
def k_M_bitten : mKt := (⟨"RustFamilyModel", "bitten", "(IIZ)I"⟩, prog_14_method_76_code, 3, (Option.some Jvm.ClassFile.FieldType.int), fun _ _ => True)
theorem cs_M_bitten : m_CS k_M_bitten 3 := ⟨⟨w_co_M_bitten, w_in_M, by decide, Nat.le_of_ble_eq_true rfl, by decide, by decide, by decide +kernel, fun _ _ => trivial⟩, w_st_M_bitten⟩
def k_M_love : mKt := (⟨"RustFamilyModel", "love", "(II)I"⟩, prog_14_method_87_code, 3, (Option.some Jvm.ClassFile.FieldType.int), fun _ _ => True)
theorem cv_M_love : m_CV k_M_love 2 := ⟨⟨w_co_M_love, w_in_M, by decide, Nat.le_of_ble_eq_true rfl, by decide, by decide, by decide +kernel, fun _ _ => trivial⟩, w_im_M_love, w_se_M_love⟩
def k_M_copyRust : mKt := (⟨"RustFamilyModel", "copyRust", "(I)I"⟩, prog_14_method_88_code, 3, (Option.some Jvm.ClassFile.FieldType.int), fun _ _ => True)
theorem cv_M_copyRust : m_CV k_M_copyRust 1 := ⟨⟨w_co_M_copyRust, w_in_M, by decide, Nat.le_of_ble_eq_true rfl, by decide, by decide, by decide +kernel, fun _ _ => trivial⟩, w_im_M_copyRust, w_se_M_copyRust⟩
def k_M_isTray : mKt := (⟨"RustFamilyModel", "isTray", "(I)Z"⟩, prog_14_method_18_code, 2, (Option.some Jvm.ClassFile.FieldType.boolean), fun _ _ => True)
theorem cv_M_isTray : m_CV k_M_isTray 1 := ⟨⟨w_co_M_isTray, w_in_M, by decide, Nat.le_of_ble_eq_true rfl, by decide, by decide, by decide +kernel, fun _ _ => trivial⟩, w_im_M_isTray, w_se_M_isTray⟩
def k_M_year : mKt := (⟨"RustFamilyModel", "year", "(I)I"⟩, prog_14_method_92_code, 4, (Option.some Jvm.ClassFile.FieldType.int), fun _ _ => True)
theorem cv_M_year : m_CV k_M_year 1 := ⟨⟨w_co_M_year, w_in_M, by decide, Nat.le_of_ble_eq_true rfl, by decide, by decide, by decide +kernel, fun _ _ => trivial⟩, w_im_M_year, w_se_M_year⟩
def k_M_goesYear : mKt := (⟨"RustFamilyModel", "goesYear", "()V"⟩, prog_14_method_91_code, 2, (Option.none : Option Jvm.ClassFile.FieldType), fun _ _ => True)
theorem cv_M_goesYear : m_CV k_M_goesYear 0 := ⟨⟨w_co_M_goesYear, w_in_M, by decide, Nat.le_of_ble_eq_true rfl, by decide, by decide, by decide +kernel, fun _ _ => trivial⟩, w_im_M_goesYear, w_se_M_goesYear⟩
def k_M_ages : mKt := (⟨"RustFamilyModel", "ages", "()V"⟩, prog_14_method_89_code, 2, (Option.none : Option Jvm.ClassFile.FieldType), fun _ _ => True)
theorem cv_M_ages : m_CV k_M_ages 0 := ⟨⟨w_co_M_ages, w_in_M, by decide, Nat.le_of_ble_eq_true rfl, by decide, by decide, by decide +kernel, fun _ _ => trivial⟩, w_im_M_ages, w_se_M_ages⟩
def k_M_isBitten : mKt := (⟨"RustFamilyModel", "isBitten", "(II)V"⟩, prog_14_method_90_code, 4, (Option.none : Option Jvm.ClassFile.FieldType), fun _ _ => True)
theorem cv_M_isBitten : m_CV k_M_isBitten 2 := ⟨⟨w_co_M_isBitten, w_in_M, by decide, Nat.le_of_ble_eq_true rfl, by decide, by decide, by decide +kernel, fun _ _ => trivial⟩, w_im_M_isBitten, w_se_M_isBitten⟩
def k_M_dote : mKt := (⟨"RustFamilyModel", "dote", "(III)I"⟩, prog_14_method_93_code, 5, (Option.some Jvm.ClassFile.FieldType.int), fun _ _ => True)
theorem cv_M_dote : m_CV k_M_dote 3 := ⟨⟨w_co_M_dote, w_in_M, by decide, Nat.le_of_ble_eq_true rfl, by decide, by decide, by decide +kernel, fun _ _ => trivial⟩, w_im_M_dote, w_se_M_dote⟩
def k_M_oil : mKt := (⟨"RustFamilyModel", "oil", "(I)I"⟩, prog_14_method_94_code, 2, (Option.some Jvm.ClassFile.FieldType.int), fun _ _ => True)
theorem cv_M_oil : m_CV k_M_oil 1 := ⟨⟨w_co_M_oil, w_in_M, by decide, Nat.le_of_ble_eq_true rfl, by decide, by decide, by decide +kernel, fun _ _ => trivial⟩, w_im_M_oil, w_se_M_oil⟩
def k_M_coat : mKt := (⟨"RustFamilyModel", "coat", "(II)I"⟩, prog_14_method_96_code, 3, (Option.some Jvm.ClassFile.FieldType.int), fun _ _ => True)
theorem cv_M_coat : m_CV k_M_coat 2 := ⟨⟨w_co_M_coat, w_in_M, by decide, Nat.le_of_ble_eq_true rfl, by decide, by decide, by decide +kernel, fun _ _ => trivial⟩, w_im_M_coat, w_se_M_coat⟩
def k_M_coats : mKt := (⟨"RustFamilyModel", "coats", "(II)I"⟩, prog_14_method_95_code, 3, (Option.some Jvm.ClassFile.FieldType.int), fun _ _ => True)
theorem cv_M_coats : m_CV k_M_coats 2 := ⟨⟨w_co_M_coats, w_in_M, by decide, Nat.le_of_ble_eq_true rfl, by decide, by decide, by decide +kernel, fun _ _ => trivial⟩, w_im_M_coats, w_se_M_coats⟩
def k_M_mend : mKt := (⟨"RustFamilyModel", "mend", "(I)I"⟩, prog_14_method_98_code, 2, (Option.some Jvm.ClassFile.FieldType.int), fun _ _ => True)
theorem cv_M_mend : m_CV k_M_mend 1 := ⟨⟨w_co_M_mend, w_in_M, by decide, Nat.le_of_ble_eq_true rfl, by decide, by decide, by decide +kernel, fun _ _ => trivial⟩, w_im_M_mend, w_se_M_mend⟩
def k_M_mends : mKt := (⟨"RustFamilyModel", "mends", "(I)I"⟩, prog_14_method_97_code, 2, (Option.some Jvm.ClassFile.FieldType.int), fun _ _ => True)
theorem cv_M_mends : m_CV k_M_mends 1 := ⟨⟨w_co_M_mends, w_in_M, by decide, Nat.le_of_ble_eq_true rfl, by decide, by decide, by decide +kernel, fun _ _ => trivial⟩, w_im_M_mends, w_se_M_mends⟩
def k_M_breathe : mKt := (⟨"RustFamilyModel", "breathe", "(I)I"⟩, prog_14_method_100_code, 2, (Option.some Jvm.ClassFile.FieldType.int), fun _ _ => True)
theorem cv_M_breathe : m_CV k_M_breathe 1 := ⟨⟨w_co_M_breathe, w_in_M, by decide, Nat.le_of_ble_eq_true rfl, by decide, by decide, by decide +kernel, fun _ _ => trivial⟩, w_im_M_breathe, w_se_M_breathe⟩
def k_M_breathed : mKt := (⟨"RustFamilyModel", "breathed", "(I)Z"⟩, prog_14_method_99_code, 2, (Option.some Jvm.ClassFile.FieldType.boolean), fun _ _ => True)
theorem cv_M_breathed : m_CV k_M_breathed 1 := ⟨⟨w_co_M_breathed, w_in_M, by decide, Nat.le_of_ble_eq_true rfl, by decide, by decide, by decide +kernel, fun _ _ => trivial⟩, w_im_M_breathed, w_se_M_breathed⟩
def k_M_forge : mKt := (⟨"RustFamilyModel", "forge", "(I)I"⟩, prog_14_method_101_code, 4, (Option.some Jvm.ClassFile.FieldType.int), fun _ _ => True)
theorem cv_M_forge : m_CV k_M_forge 1 := ⟨⟨w_co_M_forge, w_in_M, by decide, Nat.le_of_ble_eq_true rfl, by decide, by decide, by decide +kernel, fun _ _ => trivial⟩, w_im_M_forge, w_se_M_forge⟩
def k_M_born : mKt := (⟨"RustFamilyModel", "born", "(IZ)I"⟩, prog_14_method_102_code, 5, (Option.some Jvm.ClassFile.FieldType.int), fun _ _ => True)
theorem cv_M_born : m_CV k_M_born 2 := ⟨⟨w_co_M_born, w_in_M, by decide, Nat.le_of_ble_eq_true rfl, by decide, by decide, by decide +kernel, fun _ _ => trivial⟩, w_im_M_born, w_se_M_born⟩
def k_M_rule : mKt := (⟨"RustFamilyModel", "rule", "(II)Z"⟩, prog_14_method_103_code, 3, (Option.some Jvm.ClassFile.FieldType.boolean), fun _ _ => True)
theorem cv_M_rule : m_CV k_M_rule 2 := ⟨⟨w_co_M_rule, w_in_M, by decide, Nat.le_of_ble_eq_true rfl, by decide, by decide, by decide +kernel, fun _ _ => trivial⟩, w_im_M_rule, w_se_M_rule⟩
def k_M_rustIn : mKt := (⟨"RustFamilyModel", "rustIn", "(II)I"⟩, prog_14_method_107_code, 4, (Option.some Jvm.ClassFile.FieldType.int), fun _ _ => True)
theorem cv_M_rustIn : m_CV k_M_rustIn 2 := ⟨⟨w_co_M_rustIn, w_in_M, by decide, Nat.le_of_ble_eq_true rfl, by decide, by decide, by decide +kernel, fun _ _ => trivial⟩, w_im_M_rustIn, w_se_M_rustIn⟩
def k_M_isAhead : mKt := (⟨"RustFamilyModel", "isAhead", "(I)Z"⟩, prog_14_method_106_code, 1, (Option.some Jvm.ClassFile.FieldType.boolean), fun _ _ => True)
theorem cs_M_isAhead : m_CS k_M_isAhead 1 := ⟨⟨w_co_M_isAhead, w_in_M, by decide, Nat.le_of_ble_eq_true rfl, by decide, by decide, by decide +kernel, fun _ _ => trivial⟩, w_st_M_isAhead⟩
def k_M_puts : mKt := (⟨"RustFamilyModel", "puts", "()V"⟩, prog_14_method_104_code, 2, (Option.none : Option Jvm.ClassFile.FieldType), fun _ _ => True)
theorem cv_M_puts : m_CV k_M_puts 0 := ⟨⟨w_co_M_puts, w_in_M, by decide, Nat.le_of_ble_eq_true rfl, by decide, by decide, by decide +kernel, fun _ _ => trivial⟩, w_im_M_puts, w_se_M_puts⟩
def k_M_gives : mKt := (⟨"RustFamilyModel", "gives", "()V"⟩, prog_14_method_105_code, 2, (Option.none : Option Jvm.ClassFile.FieldType), fun _ _ => True)
theorem cv_M_gives : m_CV k_M_gives 0 := ⟨⟨w_co_M_gives, w_in_M, by decide, Nat.le_of_ble_eq_true rfl, by decide, by decide, by decide +kernel, fun _ _ => trivial⟩, w_im_M_gives, w_se_M_gives⟩
def k_M_throughIn : mKt := (⟨"RustFamilyModel", "throughIn", "(I)I"⟩, prog_14_method_109_code, 3, (Option.some Jvm.ClassFile.FieldType.int), fun _ _ => True)
theorem cv_M_throughIn : m_CV k_M_throughIn 1 := ⟨⟨w_co_M_throughIn, w_in_M, by decide, Nat.le_of_ble_eq_true rfl, by decide, by decide, by decide +kernel, fun _ _ => trivial⟩, w_im_M_throughIn, w_se_M_throughIn⟩
def k_M_throughOf : mKt := (⟨"RustFamilyModel", "throughOf", "(I)I"⟩, prog_14_method_108_code, 4, (Option.some Jvm.ClassFile.FieldType.int), fun _ _ => True)
theorem cv_M_throughOf : m_CV k_M_throughOf 1 := ⟨⟨w_co_M_throughOf, w_in_M, by decide, Nat.le_of_ble_eq_true rfl, by decide, by decide, by decide +kernel, fun _ _ => trivial⟩, w_im_M_throughOf, w_se_M_throughOf⟩
def k_M_firstThrough : mKt := (⟨"RustFamilyModel", "firstThrough", "()I"⟩, prog_14_method_110_code, 2, (Option.some Jvm.ClassFile.FieldType.int), fun _ _ => True)
theorem cv_M_firstThrough : m_CV k_M_firstThrough 0 := ⟨⟨w_co_M_firstThrough, w_in_M, by decide, Nat.le_of_ble_eq_true rfl, by decide, by decide, by decide +kernel, fun _ _ => trivial⟩, w_im_M_firstThrough, w_se_M_firstThrough⟩
def k_M_throughBy : mKt := (⟨"RustFamilyModel", "throughBy", "(I)I"⟩, prog_14_method_111_code, 3, (Option.some Jvm.ClassFile.FieldType.int), fun _ _ => True)
theorem cv_M_throughBy : m_CV k_M_throughBy 1 := ⟨⟨w_co_M_throughBy, w_in_M, by decide, Nat.le_of_ble_eq_true rfl, by decide, by decide, by decide +kernel, fun _ _ => trivial⟩, w_im_M_throughBy, w_se_M_throughBy⟩
def k_M_showsIn : mKt := (⟨"RustFamilyModel", "showsIn", "(I)I"⟩, prog_14_method_112_code, 4, (Option.some Jvm.ClassFile.FieldType.int), fun _ _ => True)
theorem cv_M_showsIn : m_CV k_M_showsIn 1 := ⟨⟨w_co_M_showsIn, w_in_M, by decide, Nat.le_of_ble_eq_true rfl, by decide, by decide, by decide +kernel, fun _ _ => trivial⟩, w_im_M_showsIn, w_se_M_showsIn⟩
def k_M_diesIn : mKt := (⟨"RustFamilyModel", "diesIn", "(I)I"⟩, prog_14_method_113_code, 2, (Option.some Jvm.ClassFile.FieldType.int), fun _ _ => True)
theorem cv_M_diesIn : m_CV k_M_diesIn 1 := ⟨⟨w_co_M_diesIn, w_in_M, by decide, Nat.le_of_ble_eq_true rfl, by decide, by decide, by decide +kernel, fun _ _ => trivial⟩, w_im_M_diesIn, w_se_M_diesIn⟩
def k_M_worst : mKt := (⟨"RustFamilyModel", "worst", "(I)I"⟩, prog_14_method_114_code, 6, (Option.some Jvm.ClassFile.FieldType.int), fun _ _ => True)
theorem cv_M_worst : m_CV k_M_worst 1 := ⟨⟨w_co_M_worst, w_in_M, by decide, Nat.le_of_ble_eq_true rfl, by decide, by decide, by decide +kernel, fun _ _ => trivial⟩, w_im_M_worst, w_se_M_worst⟩
def k_M_jars : mKt := (⟨"RustFamilyModel", "jars", "(II)I"⟩, prog_14_method_117_code, 4, (Option.some Jvm.ClassFile.FieldType.int), fun _ _ => True)
theorem cv_M_jars : m_CV k_M_jars 2 := ⟨⟨w_co_M_jars, w_in_M, by decide, Nat.le_of_ble_eq_true rfl, by decide, by decide, by decide +kernel, fun _ _ => trivial⟩, w_im_M_jars, w_se_M_jars⟩
def k_M_jarsOf : mKt := (⟨"RustFamilyModel", "jarsOf", "(II)I"⟩, prog_14_method_116_code, 5, (Option.some Jvm.ClassFile.FieldType.int), fun _ _ => True)
theorem cv_M_jarsOf : m_CV k_M_jarsOf 2 := ⟨⟨w_co_M_jarsOf, w_in_M, by decide, Nat.le_of_ble_eq_true rfl, by decide, by decide, by decide +kernel, fun _ _ => trivial⟩, w_im_M_jarsOf, w_se_M_jarsOf⟩
def k_M_sizeOf : mKt := (⟨"RustFamilyModel", "sizeOf", "(I)I"⟩, prog_14_method_20_code, 3, (Option.some Jvm.ClassFile.FieldType.int), fun _ _ => True)
theorem cs_M_sizeOf : m_CS k_M_sizeOf 1 := ⟨⟨w_co_M_sizeOf, w_in_M, by decide, Nat.le_of_ble_eq_true rfl, by decide, by decide, by decide +kernel, fun _ _ => trivial⟩, w_st_M_sizeOf⟩
def k_M_lastsBy : mKt := (⟨"RustFamilyModel", "lastsBy", "(III)Z"⟩, prog_14_method_115_code, 6, (Option.some Jvm.ClassFile.FieldType.boolean), fun _ _ => True)
theorem cv_M_lastsBy : m_CV k_M_lastsBy 3 := ⟨⟨w_co_M_lastsBy, w_in_M, by decide, Nat.le_of_ble_eq_true rfl, by decide, by decide, by decide +kernel, fun _ _ => trivial⟩, w_im_M_lastsBy, w_se_M_lastsBy⟩
def k_M_jarsFor : mKt := (⟨"RustFamilyModel", "jarsFor", "(II)I"⟩, prog_14_method_118_code, 6, (Option.some Jvm.ClassFile.FieldType.int), fun _ _ => True)
theorem cv_M_jarsFor : m_CV k_M_jarsFor 2 := ⟨⟨w_co_M_jarsFor, w_in_M, by decide, Nat.le_of_ble_eq_true rfl, by decide, by decide, by decide +kernel, fun _ _ => trivial⟩, w_im_M_jarsFor, w_se_M_jarsFor⟩
def k_M_less : mKt := (⟨"RustFamilyModel", "less", "(III)I"⟩, prog_14_method_119_code, 7, (Option.some Jvm.ClassFile.FieldType.int), fun _ _ => True)
theorem cv_M_less : m_CV k_M_less 3 := ⟨⟨w_co_M_less, w_in_M, by decide, Nat.le_of_ble_eq_true rfl, by decide, by decide, by decide +kernel, fun _ _ => trivial⟩, w_im_M_less, w_se_M_less⟩
def k_M_seen : mKt := (⟨"RustFamilyModel", "seen", "(II)I"⟩, prog_14_method_123_code, 3, (Option.some Jvm.ClassFile.FieldType.int), fun _ _ => True)
theorem cv_M_seen : m_CV k_M_seen 2 := ⟨⟨w_co_M_seen, w_in_M, by decide, Nat.le_of_ble_eq_true rfl, by decide, by decide, by decide +kernel, fun _ _ => trivial⟩, w_im_M_seen, w_se_M_seen⟩
def k_M_whyNotSeen : mKt := (⟨"RustFamilyModel", "whyNotSeen", "(II)I"⟩, prog_14_method_120_code, 4, (Option.some Jvm.ClassFile.FieldType.int), fun _ _ => True)
theorem cv_M_whyNotSeen : m_CV k_M_whyNotSeen 2 := ⟨⟨w_co_M_whyNotSeen, w_in_M, by decide, Nat.le_of_ble_eq_true rfl, by decide, by decide, by decide +kernel, fun _ _ => trivial⟩, w_im_M_whyNotSeen, w_se_M_whyNotSeen⟩
def k_M_numberOf : mKt := (⟨"RustFamilyModel", "numberOf", "(II)J"⟩, prog_14_method_17_code, 3, (Option.some Jvm.ClassFile.FieldType.long), fun _ _ => True)
theorem cv_M_numberOf : m_CV k_M_numberOf 2 := ⟨⟨w_co_M_numberOf, w_in_M, by decide, Nat.le_of_ble_eq_true rfl, by decide, by decide, by decide +kernel, fun _ _ => trivial⟩, w_im_M_numberOf, w_se_M_numberOf⟩
def k_M_laysSeen : mKt := (⟨"RustFamilyModel", "laysSeen", "(II)V"⟩, prog_14_method_122_code, 8, (Option.none : Option Jvm.ClassFile.FieldType), fun _ _ => True)
theorem cv_M_laysSeen : m_CV k_M_laysSeen 2 := ⟨⟨w_co_M_laysSeen, w_in_M, by decide, Nat.le_of_ble_eq_true rfl, by decide, by decide, by decide +kernel, fun _ _ => trivial⟩, w_im_M_laysSeen, w_se_M_laysSeen⟩
def k_M_isSeen : mKt := (⟨"RustFamilyModel", "isSeen", "(III)Z"⟩, prog_14_method_121_code, 5, (Option.some Jvm.ClassFile.FieldType.boolean), fun _ _ => True)
theorem cv_M_isSeen : m_CV k_M_isSeen 3 := ⟨⟨w_co_M_isSeen, w_in_M, by decide, Nat.le_of_ble_eq_true rfl, by decide, by decide, by decide +kernel, fun _ _ => trivial⟩, w_im_M_isSeen, w_se_M_isSeen⟩
def k_M_sure : mKt := (⟨"RustFamilyModel", "sure", "(III)I"⟩, prog_14_method_124_code, 4, (Option.some Jvm.ClassFile.FieldType.int), fun _ _ => True)
theorem cv_M_sure : m_CV k_M_sure 3 := ⟨⟨w_co_M_sure, w_in_M, by decide, Nat.le_of_ble_eq_true rfl, by decide, by decide, by decide +kernel, fun _ _ => trivial⟩, w_im_M_sure, w_se_M_sure⟩
def k_M_ask : mKt := (⟨"RustFamilyModel", "ask", "(II)I"⟩, prog_14_method_126_code, 5, (Option.some Jvm.ClassFile.FieldType.int), fun _ _ => True)
theorem cv_M_ask : m_CV k_M_ask 2 := ⟨⟨w_co_M_ask, w_in_M, by decide, Nat.le_of_ble_eq_true rfl, by decide, by decide, by decide +kernel, fun _ _ => trivial⟩, w_im_M_ask, w_se_M_ask⟩
def k_M_unlike : mKt := (⟨"RustFamilyModel", "unlike", "(I)I"⟩, prog_14_method_125_code, 5, (Option.some Jvm.ClassFile.FieldType.int), fun _ _ => True)
theorem cv_M_unlike : m_CV k_M_unlike 1 := ⟨⟨w_co_M_unlike, w_in_M, by decide, Nat.le_of_ble_eq_true rfl, by decide, by decide, by decide +kernel, fun _ _ => trivial⟩, w_im_M_unlike, w_se_M_unlike⟩
def k_M_keeping : mKt := (⟨"RustFamilyModel", "keeping", "(I)I"⟩, prog_14_method_130_code, 2, (Option.some Jvm.ClassFile.FieldType.int), fun _ _ => True)
theorem cv_M_keeping : m_CV k_M_keeping 1 := ⟨⟨w_co_M_keeping, w_in_M, by decide, Nat.le_of_ble_eq_true rfl, by decide, by decide, by decide +kernel, fun _ _ => trivial⟩, w_im_M_keeping, w_se_M_keeping⟩
def k_M_arePeople : mKt := (⟨"RustFamilyModel", "arePeople", "(I)Z"⟩, prog_14_method_127_code, 2, (Option.some Jvm.ClassFile.FieldType.boolean), fun _ _ => True)
theorem cv_M_arePeople : m_CV k_M_arePeople 1 := ⟨⟨w_co_M_arePeople, w_in_M, by decide, Nat.le_of_ble_eq_true rfl, by decide, by decide, by decide +kernel, fun _ _ => trivial⟩, w_im_M_arePeople, w_se_M_arePeople⟩
def k_M_canKeep : mKt := (⟨"RustFamilyModel", "canKeep", "(I)Z"⟩, prog_14_method_128_code, 2, (Option.some Jvm.ClassFile.FieldType.boolean), fun _ _ => True)
theorem cv_M_canKeep : m_CV k_M_canKeep 1 := ⟨⟨w_co_M_canKeep, w_in_M, by decide, Nat.le_of_ble_eq_true rfl, by decide, by decide, by decide +kernel, fun _ _ => trivial⟩, w_im_M_canKeep, w_se_M_canKeep⟩
def k_M_keepings : mKt := (⟨"RustFamilyModel", "keepings", "(IIII)V"⟩, prog_14_method_129_code, 6, (Option.none : Option Jvm.ClassFile.FieldType), fun _ _ => True)
theorem cv_M_keepings : m_CV k_M_keepings 4 := ⟨⟨w_co_M_keepings, w_in_M, by decide, Nat.le_of_ble_eq_true rfl, by decide, by decide, by decide +kernel, fun _ _ => trivial⟩, w_im_M_keepings, w_se_M_keepings⟩
def k_M_keeps : mKt := (⟨"RustFamilyModel", "keeps", "(II)I"⟩, prog_14_method_131_code, 3, (Option.some Jvm.ClassFile.FieldType.int), fun _ _ => True)
theorem cv_M_keeps : m_CV k_M_keeps 2 := ⟨⟨w_co_M_keeps, w_in_M, by decide, Nat.le_of_ble_eq_true rfl, by decide, by decide, by decide +kernel, fun _ _ => trivial⟩, w_im_M_keeps, w_se_M_keeps⟩
def k_M_stable : mKt := (⟨"RustFamilyModel", "stable", "(II)I"⟩, prog_14_method_135_code, 3, (Option.some Jvm.ClassFile.FieldType.int), fun _ _ => True)
theorem cv_M_stable : m_CV k_M_stable 2 := ⟨⟨w_co_M_stable, w_in_M, by decide, Nat.le_of_ble_eq_true rfl, by decide, by decide, by decide +kernel, fun _ _ => trivial⟩, w_im_M_stable, w_se_M_stable⟩
def k_M_laysStable : mKt := (⟨"RustFamilyModel", "laysStable", "(I)V"⟩, prog_14_method_134_code, 5, (Option.none : Option Jvm.ClassFile.FieldType), fun _ _ => True)
theorem cv_M_laysStable : m_CV k_M_laysStable 1 := ⟨⟨w_co_M_laysStable, w_in_M, by decide, Nat.le_of_ble_eq_true rfl, by decide, by decide, by decide +kernel, fun _ _ => trivial⟩, w_im_M_laysStable, w_se_M_laysStable⟩
def k_M_asker : mKt := (⟨"RustFamilyModel", "asker", "(I)I"⟩, prog_14_method_133_code, 3, (Option.some Jvm.ClassFile.FieldType.int), fun _ _ => True)
theorem cv_M_asker : m_CV k_M_asker 1 := ⟨⟨w_co_M_asker, w_in_M, by decide, Nat.le_of_ble_eq_true rfl, by decide, by decide, by decide +kernel, fun _ _ => trivial⟩, w_im_M_asker, w_se_M_asker⟩
def k_M_nextAsked : mKt := (⟨"RustFamilyModel", "nextAsked", "(I)I"⟩, prog_14_method_132_code, 4, (Option.some Jvm.ClassFile.FieldType.int), fun _ _ => True)
theorem cv_M_nextAsked : m_CV k_M_nextAsked 1 := ⟨⟨w_co_M_nextAsked, w_in_M, by decide, Nat.le_of_ble_eq_true rfl, by decide, by decide, by decide +kernel, fun _ _ => trivial⟩, w_im_M_nextAsked, w_se_M_nextAsked⟩
def k_M_stables : mKt := (⟨"RustFamilyModel", "stables", "(I)I"⟩, prog_14_method_139_code, 2, (Option.some Jvm.ClassFile.FieldType.int), fun _ _ => True)
theorem cv_M_stables : m_CV k_M_stables 1 := ⟨⟨w_co_M_stables, w_in_M, by decide, Nat.le_of_ble_eq_true rfl, by decide, by decide, by decide +kernel, fun _ _ => trivial⟩, w_im_M_stables, w_se_M_stables⟩
def k_M_stablesOf : mKt := (⟨"RustFamilyModel", "stablesOf", "(III)I"⟩, prog_14_method_138_code, 6, (Option.some Jvm.ClassFile.FieldType.int), fun _ _ => True)
theorem cv_M_stablesOf : m_CV k_M_stablesOf 3 := ⟨⟨w_co_M_stablesOf, w_in_M, by decide, Nat.le_of_ble_eq_true rfl, by decide, by decide, by decide +kernel, fun _ _ => trivial⟩, w_im_M_stablesOf, w_se_M_stablesOf⟩
def k_M_isStable : mKt := (⟨"RustFamilyModel", "isStable", "(I)Z"⟩, prog_14_method_136_code, 5, (Option.some Jvm.ClassFile.FieldType.boolean), fun _ _ => True)
theorem cv_M_isStable : m_CV k_M_isStable 1 := ⟨⟨w_co_M_isStable, w_in_M, by decide, Nat.le_of_ble_eq_true rfl, by decide, by decide, by decide +kernel, fun _ _ => trivial⟩, w_im_M_isStable, w_se_M_isStable⟩
def k_M_wouldTake : mKt := (⟨"RustFamilyModel", "wouldTake", "(III)Z"⟩, prog_14_method_137_code, 5, (Option.some Jvm.ClassFile.FieldType.boolean), fun _ _ => True)
theorem cv_M_wouldTake : m_CV k_M_wouldTake 3 := ⟨⟨w_co_M_wouldTake, w_in_M, by decide, Nat.le_of_ble_eq_true rfl, by decide, by decide, by decide +kernel, fun _ _ => trivial⟩, w_im_M_wouldTake, w_se_M_wouldTake⟩
def k_M_game : mKt := (⟨"RustFamilyModel", "game", "(III)I"⟩, prog_14_method_145_code, 4, (Option.some Jvm.ClassFile.FieldType.int), fun _ _ => True)
theorem cv_M_game : m_CV k_M_game 3 := ⟨⟨w_co_M_game, w_in_M, by decide, Nat.le_of_ble_eq_true rfl, by decide, by decide, by decide +kernel, fun _ _ => trivial⟩, w_im_M_game, w_se_M_game⟩
def k_M_whyNoGame : mKt := (⟨"RustFamilyModel", "whyNoGame", "(IIII)I"⟩, prog_14_method_144_code, 5, (Option.some Jvm.ClassFile.FieldType.int), fun _ _ => True)
theorem cv_M_whyNoGame : m_CV k_M_whyNoGame 4 := ⟨⟨w_co_M_whyNoGame, w_in_M, by decide, Nat.le_of_ble_eq_true rfl, by decide, by decide, by decide +kernel, fun _ _ => trivial⟩, w_im_M_whyNoGame, w_se_M_whyNoGame⟩
def k_M_plays : mKt := (⟨"RustFamilyModel", "plays", "(IIII)I"⟩, prog_14_method_143_code, 10, (Option.some Jvm.ClassFile.FieldType.int), fun _ _ => True)
theorem cv_M_plays : m_CV k_M_plays 4 := ⟨⟨w_co_M_plays, w_in_M, by decide, Nat.le_of_ble_eq_true rfl, by decide, by decide, by decide +kernel, fun _ _ => trivial⟩, w_im_M_plays, w_se_M_plays⟩
def k_M_laysTurn : mKt := (⟨"RustFamilyModel", "laysTurn", "(I)V"⟩, prog_14_method_140_code, 3, (Option.none : Option Jvm.ClassFile.FieldType), fun _ _ => True)
theorem cv_M_laysTurn : m_CV k_M_laysTurn 1 := ⟨⟨w_co_M_laysTurn, w_in_M, by decide, Nat.le_of_ble_eq_true rfl, by decide, by decide, by decide +kernel, fun _ _ => trivial⟩, w_im_M_laysTurn, w_se_M_laysTurn⟩
def k_M_moves : mKt := (⟨"RustFamilyModel", "moves", "(III)Z"⟩, prog_14_method_142_code, 4, (Option.some Jvm.ClassFile.FieldType.boolean), fun _ _ => True)
theorem cv_M_moves : m_CV k_M_moves 3 := ⟨⟨w_co_M_moves, w_in_M, by decide, Nat.le_of_ble_eq_true rfl, by decide, by decide, by decide +kernel, fun _ _ => trivial⟩, w_im_M_moves, w_se_M_moves⟩
def k_M_takesTurn : mKt := (⟨"RustFamilyModel", "takesTurn", "(I)V"⟩, prog_14_method_141_code, 3, (Option.none : Option Jvm.ClassFile.FieldType), fun _ _ => True)
theorem cv_M_takesTurn : m_CV k_M_takesTurn 1 := ⟨⟨w_co_M_takesTurn, w_in_M, by decide, Nat.le_of_ble_eq_true rfl, by decide, by decide, by decide +kernel, fun _ _ => trivial⟩, w_im_M_takesTurn, w_se_M_takesTurn⟩
def k_M_moveOf : mKt := (⟨"RustFamilyModel", "moveOf", "(III)I"⟩, prog_14_method_146_code, 4, (Option.some Jvm.ClassFile.FieldType.int), fun _ _ => True)
theorem cv_M_moveOf : m_CV k_M_moveOf 3 := ⟨⟨w_co_M_moveOf, w_in_M, by decide, Nat.le_of_ble_eq_true rfl, by decide, by decide, by decide +kernel, fun _ _ => trivial⟩, w_im_M_moveOf, w_se_M_moveOf⟩
def k_M_lasts : mKt := (⟨"RustFamilyModel", "lasts", "(II)Z"⟩, prog_14_method_149_code, 3, (Option.some Jvm.ClassFile.FieldType.boolean), fun _ _ => True)
theorem cv_M_lasts : m_CV k_M_lasts 2 := ⟨⟨w_co_M_lasts, w_in_M, by decide, Nat.le_of_ble_eq_true rfl, by decide, by decide, by decide +kernel, fun _ _ => trivial⟩, w_im_M_lasts, w_se_M_lasts⟩
def k_M_laysBites : mKt := (⟨"RustFamilyModel", "laysBites", "(II)V"⟩, prog_14_method_147_code, 8, (Option.none : Option Jvm.ClassFile.FieldType), fun _ _ => True)
theorem cv_M_laysBites : m_CV k_M_laysBites 2 := ⟨⟨w_co_M_laysBites, w_in_M, by decide, Nat.le_of_ble_eq_true rfl, by decide, by decide, by decide +kernel, fun _ _ => trivial⟩, w_im_M_laysBites, w_se_M_laysBites⟩
def k_M_lastsIf : mKt := (⟨"RustFamilyModel", "lastsIf", "(II)J"⟩, prog_14_method_148_code, 6, (Option.some Jvm.ClassFile.FieldType.long), fun _ _ => True)
theorem cv_M_lastsIf : m_CV k_M_lastsIf 2 := ⟨⟨w_co_M_lastsIf, w_in_M, by decide, Nat.le_of_ble_eq_true rfl, by decide, by decide, by decide +kernel, fun _ _ => trivial⟩, w_im_M_lastsIf, w_se_M_lastsIf⟩
def k_M_fraction : mKt := (⟨"RustFamilyModel", "fraction", "(JJ)Z"⟩, prog_14_method_9_code, 11, (Option.some Jvm.ClassFile.FieldType.boolean), fun _ _ => True)
theorem cv_M_fraction : m_CV k_M_fraction 2 := ⟨⟨w_co_M_fraction, w_in_M, by decide, Nat.le_of_ble_eq_true rfl, by decide, by decide, by decide +kernel, fun _ _ => trivial⟩, w_im_M_fraction, w_se_M_fraction⟩
def k_M_thickFor : mKt := (⟨"RustFamilyModel", "thickFor", "(III)I"⟩, prog_14_method_150_code, 5, (Option.some Jvm.ClassFile.FieldType.int), fun _ _ => True)
theorem cv_M_thickFor : m_CV k_M_thickFor 3 := ⟨⟨w_co_M_thickFor, w_in_M, by decide, Nat.le_of_ble_eq_true rfl, by decide, by decide, by decide +kernel, fun _ _ => trivial⟩, w_im_M_thickFor, w_se_M_thickFor⟩
def k_M_blame : mKt := (⟨"RustFamilyModel", "blame", "(I)Z"⟩, prog_14_method_151_code, 5, (Option.some Jvm.ClassFile.FieldType.boolean), fun _ _ => True)
theorem cv_M_blame : m_CV k_M_blame 1 := ⟨⟨w_co_M_blame, w_in_M, by decide, Nat.le_of_ble_eq_true rfl, by decide, by decide, by decide +kernel, fun _ _ => trivial⟩, w_im_M_blame, w_se_M_blame⟩
def k_M_live : mKt := (⟨"RustFamilyModel", "live", "(I)I"⟩, prog_14_method_163_code, 2, (Option.some Jvm.ClassFile.FieldType.int), fun _ _ => True)
theorem cv_M_live : m_CV k_M_live 1 := ⟨⟨w_co_M_live, w_in_M, by decide, Nat.le_of_ble_eq_true rfl, by decide, by decide, by decide +kernel, fun _ _ => trivial⟩, w_im_M_live, w_se_M_live⟩
def k_M_runsYears : mKt := (⟨"RustFamilyModel", "runsYears", "(I)V"⟩, prog_14_method_162_code, 2, (Option.none : Option Jvm.ClassFile.FieldType), fun _ _ => True)
theorem cv_M_runsYears : m_CV k_M_runsYears 1 := ⟨⟨w_co_M_runsYears, w_in_M, by decide, Nat.le_of_ble_eq_true rfl, by decide, by decide, by decide +kernel, fun _ _ => trivial⟩, w_im_M_runsYears, w_se_M_runsYears⟩
def k_M_doAll : mKt := (⟨"RustFamilyModel", "doAll", "(II)V"⟩, prog_14_method_161_code, 4, (Option.none : Option Jvm.ClassFile.FieldType), fun _ _ => True)
theorem cv_M_doAll : m_CV k_M_doAll 2 := ⟨⟨w_co_M_doAll, w_in_M, by decide, Nat.le_of_ble_eq_true rfl, by decide, by decide, by decide +kernel, fun _ _ => trivial⟩, w_im_M_doAll, w_se_M_doAll⟩
def k_M_doOne : mKt := (⟨"RustFamilyModel", "doOne", "(I)V"⟩, prog_14_method_160_code, 5, (Option.none : Option Jvm.ClassFile.FieldType), fun _ _ => True)
theorem cv_M_doOne : m_CV k_M_doOne 1 := ⟨⟨w_co_M_doOne, w_in_M, by decide, Nat.le_of_ble_eq_true rfl, by decide, by decide, by decide +kernel, fun _ _ => trivial⟩, w_im_M_doOne, w_se_M_doOne⟩
def k_M_does : mKt := (⟨"RustFamilyModel", "does", "(I)Z"⟩, prog_14_method_158_code, 3, (Option.some Jvm.ClassFile.FieldType.boolean), fun _ _ => True)
theorem cv_M_does : m_CV k_M_does 1 := ⟨⟨w_co_M_does, w_in_M, by decide, Nat.le_of_ble_eq_true rfl, by decide, by decide, by decide +kernel, fun _ _ => trivial⟩, w_im_M_does, w_se_M_does⟩
def k_M_anyYears : mKt := (⟨"RustFamilyModel", "anyYears", "(I)Z"⟩, prog_14_method_153_code, 4, (Option.some Jvm.ClassFile.FieldType.boolean), fun _ _ => True)
theorem cv_M_anyYears : m_CV k_M_anyYears 1 := ⟨⟨w_co_M_anyYears, w_in_M, by decide, Nat.le_of_ble_eq_true rfl, by decide, by decide, by decide +kernel, fun _ _ => trivial⟩, w_im_M_anyYears, w_se_M_anyYears⟩
def k_M_becomes : mKt := (⟨"RustFamilyModel", "becomes", "(II)Z"⟩, prog_14_method_154_code, 3, (Option.some Jvm.ClassFile.FieldType.boolean), fun _ _ => True)
theorem cv_M_becomes : m_CV k_M_becomes 2 := ⟨⟨w_co_M_becomes, w_in_M, by decide, Nat.le_of_ble_eq_true rfl, by decide, by decide, by decide +kernel, fun _ _ => trivial⟩, w_im_M_becomes, w_se_M_becomes⟩
def k_M_isAny : mKt := (⟨"RustFamilyModel", "isAny", "()Z"⟩, prog_14_method_156_code, 1, (Option.some Jvm.ClassFile.FieldType.boolean), fun _ _ => True)
theorem cv_M_isAny : m_CV k_M_isAny 0 := ⟨⟨w_co_M_isAny, w_in_M, by decide, Nat.le_of_ble_eq_true rfl, by decide, by decide, by decide +kernel, fun _ _ => trivial⟩, w_im_M_isAny, w_se_M_isAny⟩
def k_M_draw : mKt := (⟨"RustFamilyModel", "draw", "(I)I"⟩, prog_14_method_152_code, 2, (Option.some Jvm.ClassFile.FieldType.int), fun _ _ => True)
theorem cv_M_draw : m_CV k_M_draw 1 := ⟨⟨w_co_M_draw, w_in_M, by decide, Nat.le_of_ble_eq_true rfl, by decide, by decide, by decide +kernel, fun _ _ => trivial⟩, w_im_M_draw, w_se_M_draw⟩
def k_M_isBreathed : mKt := (⟨"RustFamilyModel", "isBreathed", "(I)Z"⟩, prog_14_method_155_code, 2, (Option.some Jvm.ClassFile.FieldType.boolean), fun _ _ => True)
theorem cv_M_isBreathed : m_CV k_M_isBreathed 1 := ⟨⟨w_co_M_isBreathed, w_in_M, by decide, Nat.le_of_ble_eq_true rfl, by decide, by decide, by decide +kernel, fun _ _ => trivial⟩, w_im_M_isBreathed, w_se_M_isBreathed⟩
def k_M_onThing : mKt := (⟨"RustFamilyModel", "onThing", "(III)Z"⟩, prog_14_method_157_code, 4, (Option.some Jvm.ClassFile.FieldType.boolean), fun _ _ => True)
theorem cv_M_onThing : m_CV k_M_onThing 3 := ⟨⟨w_co_M_onThing, w_in_M, by decide, Nat.le_of_ble_eq_true rfl, by decide, by decide, by decide +kernel, fun _ _ => trivial⟩, w_im_M_onThing, w_se_M_onThing⟩
def k_M_isSo : mKt := (⟨"RustFamilyModel", "isSo", "(I)Z"⟩, prog_14_method_159_code, 5, (Option.some Jvm.ClassFile.FieldType.boolean), fun _ _ => True)
theorem cv_M_isSo : m_CV k_M_isSo 1 := ⟨⟨w_co_M_isSo, w_in_M, by decide, Nat.le_of_ble_eq_true rfl, by decide, by decide, by decide +kernel, fun _ _ => trivial⟩, w_im_M_isSo, w_se_M_isSo⟩
def k_M_lived : mKt := (⟨"RustFamilyModel", "lived", "(I)I"⟩, prog_14_method_164_code, 2, (Option.some Jvm.ClassFile.FieldType.int), fun _ _ => True)
theorem cv_M_lived : m_CV k_M_lived 1 := ⟨⟨w_co_M_lived, w_in_M, by decide, Nat.le_of_ble_eq_true rfl, by decide, by decide, by decide +kernel, fun _ _ => trivial⟩, w_im_M_lived, w_se_M_lived⟩
def k_M_mean : mKt := (⟨"RustFamilyModel", "mean", "(II)Z"⟩, prog_14_method_165_code, 7, (Option.some Jvm.ClassFile.FieldType.boolean), fun _ _ => True)
theorem cv_M_mean : m_CV k_M_mean 2 := ⟨⟨w_co_M_mean, w_in_M, by decide, Nat.le_of_ble_eq_true rfl, by decide, by decide, by decide +kernel, fun _ _ => trivial⟩, w_im_M_mean, w_se_M_mean⟩
def k_M_mark : mKt := (⟨"RustFamilyModel", "mark", "()I"⟩, prog_14_method_167_code, 1, (Option.some Jvm.ClassFile.FieldType.int), fun _ _ => True)
theorem cv_M_mark : m_CV k_M_mark 0 := ⟨⟨w_co_M_mark, w_in_M, by decide, Nat.le_of_ble_eq_true rfl, by decide, by decide, by decide +kernel, fun _ _ => trivial⟩, w_im_M_mark, w_se_M_mark⟩
def k_M_back : mKt := (⟨"RustFamilyModel", "back", "()I"⟩, prog_14_method_168_code, 1, (Option.some Jvm.ClassFile.FieldType.int), fun _ _ => True)
theorem cv_M_back : m_CV k_M_back 0 := ⟨⟨w_co_M_back, w_in_M, by decide, Nat.le_of_ble_eq_true rfl, by decide, by decide, by decide +kernel, fun _ _ => trivial⟩, w_im_M_back, w_se_M_back⟩
