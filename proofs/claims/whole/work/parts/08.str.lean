/-! Part 08: the length and the signs of the constants -/
/-- the length of a text -/
def m_sl (x : Option mA) : mP Int32 := fun μ => match x with
  | none => none
  | some a => if a.1 = 0 ∧ a.2.1 < m_nS ∧ a.2.2 = 0 then some (Int32.ofNat (m_sb.getD a.2.1 []).length, μ) else none
/-- its sign at a place -/
def m_sch (x : Option mA) (i : Int32) : mP Int32 := fun μ => match x with
  | none => none
  | some a => if a.1 = 0 ∧ a.2.1 < m_nS ∧ a.2.2 = 0 ∧ ¬ (i < 0 ∨ (m_sb.getD a.2.1 []).length ≤ i.toNatClampNeg) then some ((m_sb.getD a.2.1 []).getD i.toNatClampNeg 0, μ) else none
theorem sm_strlen {k : mKt} {d mc ms : Nat} {α : Type} {pc pc' idx : Nat} {L : List (Nat × mV)} {st : List mV} {post : α → mC} {x : Option mA} {f : Int32 → mP α} (hd : m_D k pc (.invokevirtual idx) 3) (hp : pc + 3 = pc') (hl : Cond.methodLink k.1.cls idx ⟨"java/lang/String", "length", "()I"⟩ ∈ m_tb) (hdd : 6 ≤ d) (hw : m_wd st ≤ 8) (h : ∀ b, m_Sim k d mc ms (.inl (pc', L, .inl b :: st)) (f b) post) : m_Sim k d mc ms (.inl (pc, L, .inr (.inr x) :: st)) (m_bd (m_sl x) f) post := sorry
theorem sm_strchr {k : mKt} {d mc ms : Nat} {α : Type} {pc pc' idx : Nat} {L : List (Nat × mV)} {st : List mV} {post : α → mC} {x : Option mA} {i : Int32} {f : Int32 → mP α} (hd : m_D k pc (.invokevirtual idx) 3) (hp : pc + 3 = pc') (hl : Cond.methodLink k.1.cls idx ⟨"java/lang/String", "charAt", "(I)C"⟩ ∈ m_tb) (hdd : 6 ≤ d) (hw : m_wd st ≤ 8) (h : ∀ b, m_Sim k d mc ms (.inl (pc', L, .inl b :: st)) (f b) post) : m_Sim k d mc ms (.inl (pc, L, .inl i :: .inr (.inr x) :: st)) (m_bd (m_sch x i) f) post := sorry
