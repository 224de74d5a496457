/-! 30.law, laid by wip/whole/gen.py: the law -/
/-- the law as a method: the script of L ints xs lies at b -/
def k_L (b L : Nat) (xs : Nat → Int32) : mKt := (x, code, 4, ret, fun w s => va_X b L xs s w.2.1 ∧ b < w.1)
theorem dl_at {l : List (Nat × Instr × Nat)} (h : (l.all fun q => decide (decode code q.1 = .ok (q.2.1, q.2.2))) = true) {i : Nat} {q : Nat × Instr × Nat} (hi : l[i]? = some q) : decode code q.1 = .ok (q.2.1, q.2.2) := of_decide_eq_true (List.all_eq_true.mp h q (List.mem_of_getElem? hi))
def m_xa (L : Nat) (xs : Nat → Int32) (i : Int32) : mP Int32 := fun μ => if ¬ (i < 0 ∨ L ≤ i.toNatClampNeg) then some (xs i.toNatClampNeg, μ) else none
section LAWS
variable {b L : Nat} {xs : Nat → Int32} {d mc ms : Nat} {α : Type} {pc pc' idx : Nat} {LL : List (Nat × mV)} {st S : List mV} {post : α → mC} {T : mP α}
theorem sm_xal (hd : m_D (k_L b L xs) pc .arraylength 1) (hp : pc + 1 = pc') (h : m_Sim (k_L b L xs) d mc ms (.inl (pc', LL, .inl (Int32.ofNat L) :: st)) T post) : m_Sim (k_L b L xs) d mc ms (.inl (pc, LL, .inr (.inr (some (0, b, 2))) :: st)) T post := by
  subst hp
  refine m_step (fun w p l e R s m args below meth c cells slots Q C hcl hsl μ hk H locs ls a1 a2 a3 => ?_) h
  obtain ⟨hx, hb, hml, hown, hts, hr, hlk, hnm, hK, hf, hlo, ⟨scr, g1, g2, g3, g4, g5⟩, hbl⟩ := C
  have hc : H[b]? = some scr := by rw [a2.2.1 b (by rw [hK.2.1]; exact hbl) (by show ¬ w.1 ≤ b; omega)]; exact g1
  exact W.alen (g := F0 m pc ls (.ref b :: m_T w st)) (n := Int32.ofNat L) hx hb hc g2 (by rw [g4]) rfl rfl hd (hk H locs ls a1 a2 a3)
theorem sm_xld {i : Int32} {f : Int32 → mP α} (hd : m_D (k_L b L xs) pc .iaload 1) (hp : pc + 1 = pc') (h : ∀ v, m_Sim (k_L b L xs) d mc ms (.inl (pc', LL, .inl v :: st)) (f v) post) : m_Sim (k_L b L xs) d mc ms (.inl (pc, LL, .inl i :: .inr (.inr (some (0, b, 2))) :: st)) (m_bd (m_xa L xs i) f) post := by
  subst hp
  intro w p l e R s m args below meth c cells slots Q C hc hs μ a μ' hT hk H locs ls a1 a2 a3
  obtain ⟨hx, hb, hml, hown, hts, hr, hlk, hnm, hK, hf, hlo, ⟨scr, g1, g2, g3, g4, g5⟩, hbl⟩ := id C
  obtain ⟨v, μ1, e1, e2⟩ := m_bd_some hT
  unfold m_xa at e1
  split at e1
  next hin =>
    cases e1
    have hcc : H[b]? = some scr := by rw [a2.2.1 b (by rw [hK.2.1]; exact hbl) (by show ¬ w.1 ≤ b; omega)]; exact g1
    exact W.iald (g := F0 m pc ls (.int i :: .ref b :: m_T w st)) (v := .int (xs i.toNatClampNeg)) hx hb hcc g2 g3 (by rw [g4]; exact hin) (g5 _ (Nat.not_le.mp fun q => hin (Or.inr q))) rfl rfl hd (h _ w p l e R s m args below meth c cells slots Q C hc hs μ a μ' e2 hk H locs ls a1 a2 a3)
  next => cases e1
end LAWS
theorem sm_lpA {k : mKt} {d mcb msb mc ms : Nat} {S E : Type} {hd : S → mC} {body : S → mP (S ⊕ E)} {post : E → mC} (hb : ∀ s, m_Sim k d mcb msb (hd s) (body s) (fun r => match r with | .inl s' => hd s' | .inr x => post x)) (n : Nat) (s : S) (h1 : n * mcb = mc) (h2 : n * msb = ms) : m_Sim k d mc ms (hd s) (m_lp body n s) post := by
  subst h1; subst h2
  induction n generalizing s with
  | zero => exact sm_fl
  | succ n ih =>
    refine sm_bdA (mc2 := n * mcb) (ms2 := n * msb) (hb s) (fun r => ?_) (by rw [Nat.succ_mul]; omega) (by rw [Nat.succ_mul]; omega)
    cases r with
    | inl s' => exact ih s'
    | inr x => exact sm_wid (Nat.zero_le _) (Nat.zero_le _) (sm_rt rfl)

theorem ic_6 : Int32.ofInt 6 = 6 := by decide
theorem ix_6 (x : Int32) : x + Int32.ofInt 6 = x + 6 := by rw [ic_6]
theorem w_kl_L_7 : Cond.classLink "RustFamilyLaw" 7 "RustFamily" ∈ m_tb := m_in (m_t1 (List.mem_of_getElem? (i := 22) rfl)) rfl
theorem w_kl_L_10 : Cond.classLink "RustFamilyLaw" 10 "RustFamilyModel" ∈ m_tb := m_in (m_t6 (List.mem_of_getElem? (i := 136) rfl)) rfl
theorem w_cl_L_32 : Cond.constantLong "RustFamilyLaw" 32 4294967295 ∈ m_tb := m_in (m_t10 (List.mem_of_getElem? (i := 18) rfl)) rfl
theorem w_ml_L_9 : Cond.methodLink "RustFamilyLaw" 9 ⟨"RustFamily", "<init>", "()V"⟩ ∈ m_tb := m_in (m_t1 (List.mem_of_getElem? (i := 24) rfl)) rfl
theorem w_ml_L_12 : Cond.methodLink "RustFamilyLaw" 12 ⟨"RustFamilyModel", "<init>", "()V"⟩ ∈ m_tb := m_in (m_t6 (List.mem_of_getElem? (i := 138) rfl)) rfl
theorem w_ml_L_13 : Cond.methodLink "RustFamilyLaw" 13 ⟨"RustFamily", "status", "()I"⟩ ∈ m_tb := m_in (m_t2 (List.mem_of_getElem? (i := 208) rfl)) rfl
theorem w_ml_L_17 : Cond.methodLink "RustFamilyLaw" 17 ⟨"RustFamilyModel", "status", "()I"⟩ ∈ m_tb := m_in (m_t7 (List.mem_of_getElem? (i := 60) rfl)) rfl
theorem w_ml_L_18 : Cond.methodLink "RustFamilyLaw" 18 ⟨"RustFamily", "top", "()J"⟩ ∈ m_tb := m_in (m_t2 (List.mem_of_getElem? (i := 212) rfl)) rfl
theorem w_ml_L_22 : Cond.methodLink "RustFamilyLaw" 22 ⟨"RustFamilyModel", "top", "()J"⟩ ∈ m_tb := m_in (m_t7 (List.mem_of_getElem? (i := 64) rfl)) rfl
theorem w_ml_L_23 : Cond.methodLink "RustFamilyLaw" 23 ⟨"RustFamily", "bottom", "()J"⟩ ∈ m_tb := m_in (m_t2 (List.mem_of_getElem? (i := 216) rfl)) rfl
theorem w_ml_L_26 : Cond.methodLink "RustFamilyLaw" 26 ⟨"RustFamilyModel", "bottom", "()J"⟩ ∈ m_tb := m_in (m_t7 (List.mem_of_getElem? (i := 68) rfl)) rfl
theorem w_ml_L_27 : Cond.methodLink "RustFamilyLaw" 27 ⟨"RustFamily", "tray", "(III)Z"⟩ ∈ m_tb := m_in (m_t2 (List.mem_of_getElem? (i := 220) rfl)) rfl
theorem w_ml_L_31 : Cond.methodLink "RustFamilyLaw" 31 ⟨"RustFamilyModel", "tray", "(III)Z"⟩ ∈ m_tb := m_in (m_t7 (List.mem_of_getElem? (i := 72) rfl)) rfl
theorem w_ml_L_34 : Cond.methodLink "RustFamilyLaw" 34 ⟨"RustFamily", "write", "(IIJ)Z"⟩ ∈ m_tb := m_in (m_t2 (List.mem_of_getElem? (i := 234) rfl)) rfl
theorem w_ml_L_38 : Cond.methodLink "RustFamilyLaw" 38 ⟨"RustFamilyModel", "write", "(IIJ)Z"⟩ ∈ m_tb := m_in (m_t7 (List.mem_of_getElem? (i := 80) rfl)) rfl
theorem w_ml_L_39 : Cond.methodLink "RustFamilyLaw" 39 ⟨"RustFamily", "read", "(II)J"⟩ ∈ m_tb := m_in (m_t3 (List.mem_of_getElem? (i := 18) rfl)) rfl
theorem w_ml_L_43 : Cond.methodLink "RustFamilyLaw" 43 ⟨"RustFamilyModel", "read", "(II)J"⟩ ∈ m_tb := m_in (m_t7 (List.mem_of_getElem? (i := 95) rfl)) rfl
theorem w_ml_L_44 : Cond.methodLink "RustFamilyLaw" 44 ⟨"RustFamily", "pour", "(IIIII)Z"⟩ ∈ m_tb := m_in (m_t3 (List.mem_of_getElem? (i := 23) rfl)) rfl
theorem w_ml_L_48 : Cond.methodLink "RustFamilyLaw" 48 ⟨"RustFamilyModel", "pour", "(IIIII)Z"⟩ ∈ m_tb := m_in (m_t7 (List.mem_of_getElem? (i := 100) rfl)) rfl
theorem w_ml_L_49 : Cond.methodLink "RustFamilyLaw" 49 ⟨"RustFamily", "feed", "(IIIII)I"⟩ ∈ m_tb := m_in (m_t3 (List.mem_of_getElem? (i := 34) rfl)) rfl
theorem w_ml_L_53 : Cond.methodLink "RustFamilyLaw" 53 ⟨"RustFamilyModel", "feed", "(IIIII)I"⟩ ∈ m_tb := m_in (m_t7 (List.mem_of_getElem? (i := 104) rfl)) rfl
theorem w_ml_L_54 : Cond.methodLink "RustFamilyLaw" 54 ⟨"RustFamily", "family", "(I)I"⟩ ∈ m_tb := m_in (m_t3 (List.mem_of_getElem? (i := 42) rfl)) rfl
theorem w_ml_L_58 : Cond.methodLink "RustFamilyLaw" 58 ⟨"RustFamilyModel", "family", "(I)I"⟩ ∈ m_tb := m_in (m_t7 (List.mem_of_getElem? (i := 116) rfl)) rfl
theorem w_ml_L_59 : Cond.methodLink "RustFamilyLaw" 59 ⟨"RustFamily", "years", "(I)I"⟩ ∈ m_tb := m_in (m_t3 (List.mem_of_getElem? (i := 237) rfl)) rfl
theorem w_ml_L_62 : Cond.methodLink "RustFamilyLaw" 62 ⟨"RustFamilyModel", "years", "(I)I"⟩ ∈ m_tb := m_in (m_t8 (List.mem_of_getElem? (i := 51) rfl)) rfl
theorem w_ml_L_63 : Cond.methodLink "RustFamilyLaw" 63 ⟨"RustFamily", "fault", "(I)I"⟩ ∈ m_tb := m_in (m_t4 (List.mem_of_getElem? (i := 49) rfl)) rfl
theorem w_ml_L_66 : Cond.methodLink "RustFamilyLaw" 66 ⟨"RustFamilyModel", "fault", "(I)I"⟩ ∈ m_tb := m_in (m_t7 (List.mem_of_getElem? (i := 112) rfl)) rfl
theorem w_ml_L_67 : Cond.methodLink "RustFamilyLaw" 67 ⟨"RustFamily", "many", "(I)I"⟩ ∈ m_tb := m_in (m_t4 (List.mem_of_getElem? (i := 53) rfl)) rfl
theorem w_ml_L_70 : Cond.methodLink "RustFamilyLaw" 70 ⟨"RustFamilyModel", "many", "(I)I"⟩ ∈ m_tb := m_in (m_t8 (List.mem_of_getElem? (i := 67) rfl)) rfl
theorem w_ml_L_71 : Cond.methodLink "RustFamilyLaw" 71 ⟨"RustFamily", "person", "(II)I"⟩ ∈ m_tb := m_in (m_t4 (List.mem_of_getElem? (i := 85) rfl)) rfl
theorem w_ml_L_75 : Cond.methodLink "RustFamilyLaw" 75 ⟨"RustFamilyModel", "person", "(II)I"⟩ ∈ m_tb := m_in (m_t8 (List.mem_of_getElem? (i := 104) rfl)) rfl
theorem w_ml_L_76 : Cond.methodLink "RustFamilyLaw" 76 ⟨"RustFamily", "thing", "(II)I"⟩ ∈ m_tb := m_in (m_t4 (List.mem_of_getElem? (i := 98) rfl)) rfl
theorem w_ml_L_79 : Cond.methodLink "RustFamilyLaw" 79 ⟨"RustFamilyModel", "thing", "(II)I"⟩ ∈ m_tb := m_in (m_t8 (List.mem_of_getElem? (i := 121) rfl)) rfl
theorem w_ml_L_80 : Cond.methodLink "RustFamilyLaw" 80 ⟨"RustFamily", "love", "(II)I"⟩ ∈ m_tb := m_in (m_t4 (List.mem_of_getElem? (i := 124) rfl)) rfl
theorem w_ml_L_83 : Cond.methodLink "RustFamilyLaw" 83 ⟨"RustFamilyModel", "love", "(II)I"⟩ ∈ m_tb := m_in (m_t8 (List.mem_of_getElem? (i := 141) rfl)) rfl
theorem w_ml_L_84 : Cond.methodLink "RustFamilyLaw" 84 ⟨"RustFamily", "copyRust", "(I)I"⟩ ∈ m_tb := m_in (m_t4 (List.mem_of_getElem? (i := 132) rfl)) rfl
theorem w_ml_L_87 : Cond.methodLink "RustFamilyLaw" 87 ⟨"RustFamilyModel", "copyRust", "(I)I"⟩ ∈ m_tb := m_in (m_t8 (List.mem_of_getElem? (i := 145) rfl)) rfl
theorem w_ml_L_88 : Cond.methodLink "RustFamilyLaw" 88 ⟨"RustFamily", "year", "(I)I"⟩ ∈ m_tb := m_in (m_t4 (List.mem_of_getElem? (i := 136) rfl)) rfl
theorem w_ml_L_91 : Cond.methodLink "RustFamilyLaw" 91 ⟨"RustFamilyModel", "year", "(I)I"⟩ ∈ m_tb := m_in (m_t8 (List.mem_of_getElem? (i := 155) rfl)) rfl
theorem w_ml_L_92 : Cond.methodLink "RustFamilyLaw" 92 ⟨"RustFamily", "dote", "(III)I"⟩ ∈ m_tb := m_in (m_t4 (List.mem_of_getElem? (i := 162) rfl)) rfl
theorem w_ml_L_96 : Cond.methodLink "RustFamilyLaw" 96 ⟨"RustFamilyModel", "dote", "(III)I"⟩ ∈ m_tb := m_in (m_t8 (List.mem_of_getElem? (i := 173) rfl)) rfl
theorem w_ml_L_97 : Cond.methodLink "RustFamilyLaw" 97 ⟨"RustFamily", "oil", "(I)I"⟩ ∈ m_tb := m_in (m_t4 (List.mem_of_getElem? (i := 166) rfl)) rfl
theorem w_ml_L_100 : Cond.methodLink "RustFamilyLaw" 100 ⟨"RustFamilyModel", "oil", "(I)I"⟩ ∈ m_tb := m_in (m_t8 (List.mem_of_getElem? (i := 178) rfl)) rfl
theorem w_ml_L_101 : Cond.methodLink "RustFamilyLaw" 101 ⟨"RustFamily", "coat", "(II)I"⟩ ∈ m_tb := m_in (m_t4 (List.mem_of_getElem? (i := 178) rfl)) rfl
theorem w_ml_L_104 : Cond.methodLink "RustFamilyLaw" 104 ⟨"RustFamilyModel", "coat", "(II)I"⟩ ∈ m_tb := m_in (m_t8 (List.mem_of_getElem? (i := 182) rfl)) rfl
theorem w_ml_L_105 : Cond.methodLink "RustFamilyLaw" 105 ⟨"RustFamily", "mend", "(I)I"⟩ ∈ m_tb := m_in (m_t4 (List.mem_of_getElem? (i := 186) rfl)) rfl
theorem w_ml_L_108 : Cond.methodLink "RustFamilyLaw" 108 ⟨"RustFamilyModel", "mend", "(I)I"⟩ ∈ m_tb := m_in (m_t8 (List.mem_of_getElem? (i := 191) rfl)) rfl
theorem w_ml_L_109 : Cond.methodLink "RustFamilyLaw" 109 ⟨"RustFamily", "breathe", "(I)I"⟩ ∈ m_tb := m_in (m_t4 (List.mem_of_getElem? (i := 194) rfl)) rfl
theorem w_ml_L_112 : Cond.methodLink "RustFamilyLaw" 112 ⟨"RustFamilyModel", "breathe", "(I)I"⟩ ∈ m_tb := m_in (m_t8 (List.mem_of_getElem? (i := 199) rfl)) rfl
theorem w_ml_L_113 : Cond.methodLink "RustFamilyLaw" 113 ⟨"RustFamily", "forge", "(I)I"⟩ ∈ m_tb := m_in (m_t4 (List.mem_of_getElem? (i := 202) rfl)) rfl
theorem w_ml_L_116 : Cond.methodLink "RustFamilyLaw" 116 ⟨"RustFamilyModel", "forge", "(I)I"⟩ ∈ m_tb := m_in (m_t8 (List.mem_of_getElem? (i := 207) rfl)) rfl
theorem w_ml_L_117 : Cond.methodLink "RustFamilyLaw" 117 ⟨"RustFamily", "born", "(IZ)I"⟩ ∈ m_tb := m_in (m_t4 (List.mem_of_getElem? (i := 207) rfl)) rfl
theorem w_ml_L_121 : Cond.methodLink "RustFamilyLaw" 121 ⟨"RustFamilyModel", "born", "(IZ)I"⟩ ∈ m_tb := m_in (m_t8 (List.mem_of_getElem? (i := 211) rfl)) rfl
theorem w_ml_L_122 : Cond.methodLink "RustFamilyLaw" 122 ⟨"RustFamily", "rule", "(II)Z"⟩ ∈ m_tb := m_in (m_t4 (List.mem_of_getElem? (i := 212) rfl)) rfl
theorem w_ml_L_126 : Cond.methodLink "RustFamilyLaw" 126 ⟨"RustFamilyModel", "rule", "(II)Z"⟩ ∈ m_tb := m_in (m_t8 (List.mem_of_getElem? (i := 216) rfl)) rfl
theorem w_ml_L_127 : Cond.methodLink "RustFamilyLaw" 127 ⟨"RustFamily", "rustIn", "(II)I"⟩ ∈ m_tb := m_in (m_t4 (List.mem_of_getElem? (i := 219) rfl)) rfl
theorem w_ml_L_130 : Cond.methodLink "RustFamilyLaw" 130 ⟨"RustFamilyModel", "rustIn", "(II)I"⟩ ∈ m_tb := m_in (m_t8 (List.mem_of_getElem? (i := 223) rfl)) rfl
theorem w_ml_L_131 : Cond.methodLink "RustFamilyLaw" 131 ⟨"RustFamily", "throughIn", "(I)I"⟩ ∈ m_tb := m_in (m_t4 (List.mem_of_getElem? (i := 239) rfl)) rfl
theorem w_ml_L_134 : Cond.methodLink "RustFamilyLaw" 134 ⟨"RustFamilyModel", "throughIn", "(I)I"⟩ ∈ m_tb := m_in (m_t8 (List.mem_of_getElem? (i := 239) rfl)) rfl
theorem w_ml_L_135 : Cond.methodLink "RustFamilyLaw" 135 ⟨"RustFamily", "firstThrough", "()I"⟩ ∈ m_tb := m_in (m_t5 (List.mem_of_getElem? (i := 8) rfl)) rfl
theorem w_ml_L_138 : Cond.methodLink "RustFamilyLaw" 138 ⟨"RustFamilyModel", "firstThrough", "()I"⟩ ∈ m_tb := m_in (m_t9 (List.mem_of_getElem? (i := 7) rfl)) rfl
theorem w_ml_L_139 : Cond.methodLink "RustFamilyLaw" 139 ⟨"RustFamily", "throughBy", "(I)I"⟩ ∈ m_tb := m_in (m_t5 (List.mem_of_getElem? (i := 12) rfl)) rfl
theorem w_ml_L_142 : Cond.methodLink "RustFamilyLaw" 142 ⟨"RustFamilyModel", "throughBy", "(I)I"⟩ ∈ m_tb := m_in (m_t9 (List.mem_of_getElem? (i := 11) rfl)) rfl
theorem w_ml_L_143 : Cond.methodLink "RustFamilyLaw" 143 ⟨"RustFamily", "showsIn", "(I)I"⟩ ∈ m_tb := m_in (m_t5 (List.mem_of_getElem? (i := 16) rfl)) rfl
theorem w_ml_L_146 : Cond.methodLink "RustFamilyLaw" 146 ⟨"RustFamilyModel", "showsIn", "(I)I"⟩ ∈ m_tb := m_in (m_t9 (List.mem_of_getElem? (i := 15) rfl)) rfl
theorem w_ml_L_147 : Cond.methodLink "RustFamilyLaw" 147 ⟨"RustFamily", "diesIn", "(I)I"⟩ ∈ m_tb := m_in (m_t5 (List.mem_of_getElem? (i := 21) rfl)) rfl
theorem w_ml_L_150 : Cond.methodLink "RustFamilyLaw" 150 ⟨"RustFamilyModel", "diesIn", "(I)I"⟩ ∈ m_tb := m_in (m_t9 (List.mem_of_getElem? (i := 19) rfl)) rfl
theorem w_ml_L_151 : Cond.methodLink "RustFamilyLaw" 151 ⟨"RustFamily", "worst", "(I)I"⟩ ∈ m_tb := m_in (m_t5 (List.mem_of_getElem? (i := 25) rfl)) rfl
theorem w_ml_L_154 : Cond.methodLink "RustFamilyLaw" 154 ⟨"RustFamilyModel", "worst", "(I)I"⟩ ∈ m_tb := m_in (m_t9 (List.mem_of_getElem? (i := 23) rfl)) rfl
theorem w_ml_L_155 : Cond.methodLink "RustFamilyLaw" 155 ⟨"RustFamily", "jars", "(II)I"⟩ ∈ m_tb := m_in (m_t5 (List.mem_of_getElem? (i := 33) rfl)) rfl
theorem w_ml_L_158 : Cond.methodLink "RustFamilyLaw" 158 ⟨"RustFamilyModel", "jars", "(II)I"⟩ ∈ m_tb := m_in (m_t9 (List.mem_of_getElem? (i := 28) rfl)) rfl
theorem w_ml_L_159 : Cond.methodLink "RustFamilyLaw" 159 ⟨"RustFamily", "jarsFor", "(II)I"⟩ ∈ m_tb := m_in (m_t5 (List.mem_of_getElem? (i := 47) rfl)) rfl
theorem w_ml_L_162 : Cond.methodLink "RustFamilyLaw" 162 ⟨"RustFamilyModel", "jarsFor", "(II)I"⟩ ∈ m_tb := m_in (m_t9 (List.mem_of_getElem? (i := 43) rfl)) rfl
theorem w_ml_L_163 : Cond.methodLink "RustFamilyLaw" 163 ⟨"RustFamily", "less", "(III)I"⟩ ∈ m_tb := m_in (m_t5 (List.mem_of_getElem? (i := 54) rfl)) rfl
theorem w_ml_L_166 : Cond.methodLink "RustFamilyLaw" 166 ⟨"RustFamilyModel", "less", "(III)I"⟩ ∈ m_tb := m_in (m_t9 (List.mem_of_getElem? (i := 47) rfl)) rfl
theorem w_ml_L_167 : Cond.methodLink "RustFamilyLaw" 167 ⟨"RustFamily", "seen", "(II)I"⟩ ∈ m_tb := m_in (m_t5 (List.mem_of_getElem? (i := 58) rfl)) rfl
theorem w_ml_L_170 : Cond.methodLink "RustFamilyLaw" 170 ⟨"RustFamilyModel", "seen", "(II)I"⟩ ∈ m_tb := m_in (m_t9 (List.mem_of_getElem? (i := 51) rfl)) rfl
theorem w_ml_L_171 : Cond.methodLink "RustFamilyLaw" 171 ⟨"RustFamily", "sure", "(III)I"⟩ ∈ m_tb := m_in (m_t5 (List.mem_of_getElem? (i := 93) rfl)) rfl
theorem w_ml_L_174 : Cond.methodLink "RustFamilyLaw" 174 ⟨"RustFamilyModel", "sure", "(III)I"⟩ ∈ m_tb := m_in (m_t9 (List.mem_of_getElem? (i := 72) rfl)) rfl
theorem w_ml_L_175 : Cond.methodLink "RustFamilyLaw" 175 ⟨"RustFamily", "ask", "(II)I"⟩ ∈ m_tb := m_in (m_t5 (List.mem_of_getElem? (i := 105) rfl)) rfl
theorem w_ml_L_178 : Cond.methodLink "RustFamilyLaw" 178 ⟨"RustFamilyModel", "ask", "(II)I"⟩ ∈ m_tb := m_in (m_t9 (List.mem_of_getElem? (i := 76) rfl)) rfl
theorem w_ml_L_179 : Cond.methodLink "RustFamilyLaw" 179 ⟨"RustFamily", "keeping", "(I)I"⟩ ∈ m_tb := m_in (m_t5 (List.mem_of_getElem? (i := 117) rfl)) rfl
theorem w_ml_L_182 : Cond.methodLink "RustFamilyLaw" 182 ⟨"RustFamilyModel", "keeping", "(I)I"⟩ ∈ m_tb := m_in (m_t9 (List.mem_of_getElem? (i := 84) rfl)) rfl
theorem w_ml_L_183 : Cond.methodLink "RustFamilyLaw" 183 ⟨"RustFamily", "keeps", "(II)I"⟩ ∈ m_tb := m_in (m_t5 (List.mem_of_getElem? (i := 150) rfl)) rfl
theorem w_ml_L_186 : Cond.methodLink "RustFamilyLaw" 186 ⟨"RustFamilyModel", "keeps", "(II)I"⟩ ∈ m_tb := m_in (m_t9 (List.mem_of_getElem? (i := 100) rfl)) rfl
theorem w_ml_L_187 : Cond.methodLink "RustFamilyLaw" 187 ⟨"RustFamily", "stable", "(II)I"⟩ ∈ m_tb := m_in (m_t5 (List.mem_of_getElem? (i := 166) rfl)) rfl
theorem w_ml_L_190 : Cond.methodLink "RustFamilyLaw" 190 ⟨"RustFamilyModel", "stable", "(II)I"⟩ ∈ m_tb := m_in (m_t9 (List.mem_of_getElem? (i := 104) rfl)) rfl
theorem w_ml_L_191 : Cond.methodLink "RustFamilyLaw" 191 ⟨"RustFamily", "stables", "(I)I"⟩ ∈ m_tb := m_in (m_t5 (List.mem_of_getElem? (i := 190) rfl)) rfl
theorem w_ml_L_194 : Cond.methodLink "RustFamilyLaw" 194 ⟨"RustFamilyModel", "stables", "(I)I"⟩ ∈ m_tb := m_in (m_t9 (List.mem_of_getElem? (i := 120) rfl)) rfl
theorem w_ml_L_195 : Cond.methodLink "RustFamilyLaw" 195 ⟨"RustFamily", "game", "(III)I"⟩ ∈ m_tb := m_in (m_t5 (List.mem_of_getElem? (i := 210) rfl)) rfl
theorem w_ml_L_198 : Cond.methodLink "RustFamilyLaw" 198 ⟨"RustFamilyModel", "game", "(III)I"⟩ ∈ m_tb := m_in (m_t9 (List.mem_of_getElem? (i := 136) rfl)) rfl
theorem w_ml_L_199 : Cond.methodLink "RustFamilyLaw" 199 ⟨"RustFamily", "moveOf", "(III)I"⟩ ∈ m_tb := m_in (m_t6 (List.mem_of_getElem? (i := 8) rfl)) rfl
theorem w_ml_L_202 : Cond.methodLink "RustFamilyLaw" 202 ⟨"RustFamilyModel", "moveOf", "(III)I"⟩ ∈ m_tb := m_in (m_t9 (List.mem_of_getElem? (i := 160) rfl)) rfl
theorem w_ml_L_203 : Cond.methodLink "RustFamilyLaw" 203 ⟨"RustFamily", "lasts", "(II)Z"⟩ ∈ m_tb := m_in (m_t6 (List.mem_of_getElem? (i := 12) rfl)) rfl
theorem w_ml_L_206 : Cond.methodLink "RustFamilyLaw" 206 ⟨"RustFamilyModel", "lasts", "(II)Z"⟩ ∈ m_tb := m_in (m_t9 (List.mem_of_getElem? (i := 164) rfl)) rfl
theorem w_ml_L_207 : Cond.methodLink "RustFamilyLaw" 207 ⟨"RustFamily", "thickFor", "(III)I"⟩ ∈ m_tb := m_in (m_t6 (List.mem_of_getElem? (i := 43) rfl)) rfl
theorem w_ml_L_210 : Cond.methodLink "RustFamilyLaw" 210 ⟨"RustFamilyModel", "thickFor", "(III)I"⟩ ∈ m_tb := m_in (m_t9 (List.mem_of_getElem? (i := 184) rfl)) rfl
theorem w_ml_L_211 : Cond.methodLink "RustFamilyLaw" 211 ⟨"RustFamily", "blame", "(I)Z"⟩ ∈ m_tb := m_in (m_t6 (List.mem_of_getElem? (i := 48) rfl)) rfl
theorem w_ml_L_215 : Cond.methodLink "RustFamilyLaw" 215 ⟨"RustFamilyModel", "blame", "(I)Z"⟩ ∈ m_tb := m_in (m_t9 (List.mem_of_getElem? (i := 188) rfl)) rfl
theorem w_ml_L_216 : Cond.methodLink "RustFamilyLaw" 216 ⟨"RustFamily", "live", "(I)I"⟩ ∈ m_tb := m_in (m_t6 (List.mem_of_getElem? (i := 52) rfl)) rfl
theorem w_ml_L_219 : Cond.methodLink "RustFamilyLaw" 219 ⟨"RustFamilyModel", "live", "(I)I"⟩ ∈ m_tb := m_in (m_t9 (List.mem_of_getElem? (i := 192) rfl)) rfl
theorem w_ml_L_220 : Cond.methodLink "RustFamilyLaw" 220 ⟨"RustFamily", "lived", "(I)I"⟩ ∈ m_tb := m_in (m_t6 (List.mem_of_getElem? (i := 105) rfl)) rfl
theorem w_ml_L_223 : Cond.methodLink "RustFamilyLaw" 223 ⟨"RustFamilyModel", "lived", "(I)I"⟩ ∈ m_tb := m_in (m_t10 (List.mem_of_getElem? (i := 2) rfl)) rfl
theorem w_ml_L_224 : Cond.methodLink "RustFamilyLaw" 224 ⟨"RustFamily", "mean", "(II)Z"⟩ ∈ m_tb := m_in (m_t6 (List.mem_of_getElem? (i := 109) rfl)) rfl
theorem w_ml_L_227 : Cond.methodLink "RustFamilyLaw" 227 ⟨"RustFamilyModel", "mean", "(II)Z"⟩ ∈ m_tb := m_in (m_t10 (List.mem_of_getElem? (i := 6) rfl)) rfl
theorem w_ml_L_228 : Cond.methodLink "RustFamilyLaw" 228 ⟨"RustFamily", "mark", "()I"⟩ ∈ m_tb := m_in (m_t6 (List.mem_of_getElem? (i := 123) rfl)) rfl
theorem w_ml_L_231 : Cond.methodLink "RustFamilyLaw" 231 ⟨"RustFamilyModel", "mark", "()I"⟩ ∈ m_tb := m_in (m_t10 (List.mem_of_getElem? (i := 10) rfl)) rfl
theorem w_ml_L_232 : Cond.methodLink "RustFamilyLaw" 232 ⟨"RustFamily", "back", "()I"⟩ ∈ m_tb := m_in (m_t6 (List.mem_of_getElem? (i := 132) rfl)) rfl
theorem w_ml_L_235 : Cond.methodLink "RustFamilyLaw" 235 ⟨"RustFamilyModel", "back", "()I"⟩ ∈ m_tb := m_in (m_t10 (List.mem_of_getElem? (i := 14) rfl)) rfl
theorem nw_L_7 : m_NW "RustFamilyLaw" 7 0 16 := ⟨c_R0, c_T0, c_y0, rfl, w_kl_L_7, w_is_C, w_in_C, c_j0, c_t0, fun j hj => ⟨(m_ft 0).getD j 0, by have : j < 16 := hj; rw [List.getD_eq_getElem?_getD]; revert j; decide +kernel, by revert j; decide +kernel⟩⟩
theorem nw_L_10 : m_NW "RustFamilyLaw" 10 11 51 := ⟨c_R11, c_T11, c_y11, rfl, w_kl_L_10, w_is_M, w_in_M, c_j11, c_t11, fun j hj => ⟨(m_ft 11).getD j 0, by have : j < 51 := hj; rw [List.getD_eq_getElem?_getD]; revert j; decide +kernel, by revert j; decide +kernel⟩⟩
