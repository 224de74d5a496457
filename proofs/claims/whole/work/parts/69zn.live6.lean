/-! Part 69zn: the reference does one step, and all -/
section RN
variable {P T S : Nat} {c0 : Nat → Int32} {e : Nat → Nat} {b : Nat → Nat → Int32}
set_option maxHeartbeats 200000 in
theorem r_one (hS : S ≤ 30) (hb : ∀ s j, c0 (107 + 9 * s + j) = b s j) (hst : ∀ s, s < S → ∃ k p t m q, StepI k p t m q (b s) s (e s) P T) : ∀ (m d : Nat), d < m → OneOk c0 P T S e b m d := by
  have h8e : ∀ s, s < S → c0 (107 + 9 * s + 8) = nI (e s) := fun s hs => by
    obtain ⟨k, p, t, m, q, h⟩ := hst s hs
    rw [hb, h.2.1]
  intro m
  induction m with
  | zero => exact fun d hd => absurd hd (Nat.not_lt_zero d)
  | succ m ihm =>
    intro d hd ν lo n r W hlo he hn hbl hR h
    obtain ⟨k, p, t, m', q, hs⟩ := hst lo hlo
    have hse : lo < e lo := hs.2.2.1
    have hb0 : c0 (107 + 9 * lo) = b lo 0 := hb lo 0
    have h44 := h.2.2.2.2.2.2.1
    have h46 := h.2.2.2.1
    have hr300 := h.2.2.2.2.1
    have hall : ∀ (ν1 : mM) (r1 : Nat) (W1 : wL), (b lo 0 = 7 ∨ b lo 0 = 8) → RefP ν1 → RLr ν1 c0 P T W1 r1 0 0 → m_e (fn_M_doAll (fn_M_doOne m) (some (40, 0, 0)) (nI (lo + 1)) (nI (e lo)) ν1) (fun _ ν' => PostB ν1 ν' c0 P T S e b (d - 1) (e lo) (fun stk => runL P T S e b r1 (lo + 1) stk W1)) := by
      intro ν1 r1 W1 hk hR1 h1
      obtain ⟨d0, hw⟩ := hbl (by rw [hb0]; exact hk)
      unfold fn_M_doAll
      rw [r_th hR1]
      refine e_bd (r_all hS h8e (ihm (d - 1) (by omega)) n m_F ν1 (lo + 1) (e lo) r1 W1 (by have := F_gt; omega) hn he hw hR1 h1) ?_
      rintro - ν2 hh
      exact ⟨(), _, rfl, hh⟩
    show m_e (fn_M_doOne_r (fn_M_doOne m) (some (40, 0, 0)) (nI lo) ν) _
    unfold fn_M_doOne_r
    rw [r_th hR, r_gI hR, h46, ap_ite]
    cases r with
    | zero =>
      have s1 : sm (fun x _ _ k => x = 40 ∧ (k = 44 ∨ k = 50)) ν (m_sI (m_sI ν (40, 0, 0) 44 1) (40, 0, 0) 50 1) := sm_sI (sm_sI sm_rf _ (by omega)) _ (by omega)
      rw [if_pos (show nI (300 - 0) = 300 by decide), r_pZ hR (.inr rfl), r_pI (show RefP (m_sI ν (40, 0, 0) 44 1) from hR)]
      exact ⟨(), _, rfl, sm_mono s1 (by omega), W, 0, .inr ⟨true, RLr_mk h (sm_Ir s1 (by omega)) (fun j hj => sm_I s1 (by omega)) (by omega) (by rw [sm_I s1 (by omega), h46]) (by rw [I_row, ud_ne (by decide), I_row, ud_at]) (by rw [I_row, ud_at]; rfl), fun stk _ k2 => runL_0 k2 hse hlo⟩⟩
    | succ r =>
      rw [if_neg (show ¬ nI (300 - (r + 1)) = 300 from fun q => by
        have := (nI_eq (a := 300 - (r + 1)) (b := 300) (by omega) (by decide)).mp q
        omega), r_gI hR, h46, r_pI hR, nI_1 (300 - (r + 1)), show 300 - (r + 1) + 1 = 300 - r by omega]
      have s1 : sm (fun x _ _ k => x = 40 ∧ k = 46) ν (m_sI ν (40, 0, 0) 46 (nI (300 - r))) := sm_sI sm_rf _ ⟨rfl, rfl⟩
      have h1 : RLr (m_sI ν (40, 0, 0) 46 (nI (300 - r))) c0 P T W r 0 0 := RLr_mk h (sm_Ir s1 (by omega)) (fun j hj => sm_I s1 (by omega)) (by omega) (by rw [I_row, ud_at]) (by rw [sm_I s1 (by omega), h44]) (by rw [sm_I s1 (by omega), h.2.2.2.2.2.2.2.1])
      have hR1 := sm_R s1 hR
      have s1' : sm (fun x _ _ k => (x = 40 ∧ (k = 27 ∨ (44 ≤ k ∧ k ≤ 50))) ∨ x = 45) ν (m_sI ν (40, 0, 0) 46 (nI (300 - r))) := sm_mono s1 (by omega)
      generalize m_sI ν (40, 0, 0) 46 (nI (300 - r)) = ν1 at *
      obtain ⟨c1, c45, c47, c46, -, cSt, c44, c50, cW, cMo, cj⟩ := id h1
      have hcell : ∀ j, j < 9 → m_I ν1 (45, 0, 0) (107 + 9 * lo + j) = b lo j := fun j hj => by rw [c1, cj _ (by omega), hb]
      have hcell0 : m_I ν1 (45, 0, 0) (107 + 9 * lo) = b lo 0 := hcell 0 (by omega)
      have hx : ∀ (stk : stL), topL e (e lo) stk → runL P T S e b (r + 1) lo stk W = runL P T S e b r (exs P T S e b lo stk W).1 (exs P T S e b lo stk W).2.1 (exs P T S e b lo stk W).2.2 := fun stk k2 => runL_s k2 hse hlo
      rw [r_g45 hR1, show (9 : Int32) = nI 9 from rfl, pk_mul, show (107 : Int32) = nI 107 from rfl, nI_add, r_a45 hR1 (by omega), hcell0, ap_ite]
      by_cases h9 : b lo 0 = 9
      · have s2 : sm (fun x _ _ k => x = 40 ∧ k = 44) ν1 (m_sI ν1 (40, 0, 0) 44 1) := sm_sI sm_rf _ ⟨rfl, rfl⟩
        rw [if_pos (by rw [h9]; decide), ap_ite, if_neg (by rw [h9]; decide), ap_ite, if_neg (by rw [h9]; decide), ap_ite, if_neg (by rw [h9]; decide), r_pZ hR1 (.inr rfl)]
        refine ⟨(), _, rfl, sm_tr s1' (sm_mono s2 (by omega)), W, r, .inr ⟨false, RLr_mk h1 (sm_Ir s2 (by omega)) (fun j hj => sm_I s2 (by omega)) (by omega) (by rw [sm_I s2 (by omega), c46]) (by rw [I_row, ud_at]) (by rw [sm_I s2 (by omega), c50]; rfl), fun stk _ k2 => ?_⟩⟩
        have hex : exs P T S e b lo stk W = (S, [], W) := if_pos h9
        show runL P T S e b (r + 1) lo stk W = _
        rw [hx stk k2, hex]
        exact runL_S
      · by_cases h7 : b lo 0 = 7
        · have hso := r_isSo hR1 c1 cW.2.1 (a := lo) (by omega) (b' := b lo) (fun j => by rw [cj _ (by omega), hb]) hs h7
          have hex : ∀ stk, exs P T S e b lo stk W = if soW (b lo) W.1 = true then (lo + 1, stk, W) else (e lo, stk, W) := fun stk => by
            unfold exs
            rw [if_neg h9, if_neg (by rw [h7]; decide), if_pos h7]
          rw [if_pos (by rw [h7]; decide), ap_ite, if_pos h7, bd_of hso, ap_ite]
          by_cases z : soW (b lo) W.1 = true
          · rw [if_pos z, if_neg (by decide), r_g45 hR1, show (8 : Int32) = nI 8 from rfl, nI_add, r_a45 hR1 (by omega), hcell 8 (by omega), hs.2.1, nI_1]
            refine e_bd (hall ν1 r W (.inl h7) hR1 h1) ?_
            rintro - ν2 ⟨s2, W2, r2, hh⟩
            refine ⟨(), _, rfl, sm_tr s1' s2, W2, r2, ?_⟩
            rcases hh with ⟨p1, p2⟩ | ⟨left, p1, p2⟩
            · refine .inl ⟨p1, fun stk k1 k2 => ?_⟩
              show runL P T S e b (r + 1) lo stk W = _
              rw [hx stk k2, hex, if_pos z]
              exact p2 stk (by omega) k2
            · refine .inr ⟨left, p1, fun stk k1 k2 => ?_⟩
              show runL P T S e b (r + 1) lo stk W = _
              rw [hx stk k2, hex, if_pos z]
              exact p2 stk (by omega) k2
          · rw [if_neg z, if_pos rfl, ap_ite, if_neg (by rw [h7]; decide), ap_ite, if_pos (by rw [h7]; decide)]
            refine ⟨(), _, rfl, s1', W, r, .inl ⟨h1, fun stk k1 k2 => ?_⟩⟩
            show runL P T S e b (r + 1) lo stk W = _
            rw [hx stk k2, hex, if_neg z]
        · by_cases h8 : b lo 0 = 8
          · obtain ⟨d0, -⟩ := hbl (by rw [hb0]; exact .inr h8)
            have hv : ∃ v, 1 ≤ v ∧ v ≤ 99 ∧ b lo 1 = nI v := by
              obtain ⟨-, -, -, hs⟩ := hs
              rcases hs with ⟨-, e0, -⟩ | ⟨-, e0, -⟩ | ⟨-, e0, -⟩ | ⟨-, e0, -⟩ | ⟨-, e0, -⟩ | ⟨-, e0, -⟩ | ⟨-, e0, -⟩ | ⟨-, e0, -⟩ | ⟨-, e0, v, v1, v2, em, e1⟩ | ⟨-, e0, -⟩ | ⟨-, e0, -⟩ | ⟨e0, -⟩
              · exact absurd (h8.symm.trans e0) (by decide)
              · exact absurd (h8.symm.trans e0) (by decide)
              · exact absurd (h8.symm.trans e0) (by decide)
              · exact absurd (h8.symm.trans e0) (by decide)
              · exact absurd (h8.symm.trans e0) (by decide)
              · exact absurd (h8.symm.trans e0) (by decide)
              · exact absurd (h8.symm.trans e0) (by decide)
              · exact absurd (h8.symm.trans e0) (by decide)
              · exact ⟨v, v1, v2, e1⟩
              · exact absurd (h8.symm.trans e0) (by decide)
              · exact absurd (h8.symm.trans e0) (by decide)
              · exact absurd (h8.symm.trans e0) (by decide)
            obtain ⟨v, v1, v2, e1⟩ := hv
            have hex : ∀ (stk : stL), stk.length + d ≤ 3 → exs P T S e b lo stk W = if e lo ≤ lo + 1 then (lo + 1, stk, W) else (lo + 1, (lo, v) :: stk, W) := fun stk k1 => by
              unfold exs
              rw [if_neg h9, if_pos h8, if_neg (show ¬ 3 ≤ stk.length by omega), e1, nI_clamp (by omega)]
            rw [if_pos (by rw [h8]; decide), ap_ite, if_neg (by rw [h8]; decide), ap_ite, if_pos h8]
            refine e_bd (R := fun _ ν' => PostB ν ν' c0 P T S e b d (e lo) (fun stk => runL P T S e b (r + 1) lo stk W)) ?_ (fun _ ν' hh => ⟨(), _, rfl, hh⟩)
            refine e_brk (fun i s ν' => s = nI i ∧ sm (fun x _ _ k => (x = 40 ∧ (k = 27 ∨ (44 ≤ k ∧ k ≤ 50))) ∨ x = 45) ν ν' ∧ ∃ W' r', (RLr ν' c0 P T W' r' 0 0 ∧ ∀ stk : stL, stk.length + d ≤ 3 → topL e (e lo) stk → runL P T S e b (r + 1) lo stk W = if i < v ∧ lo + 1 < e lo then runL P T S e b r' (lo + 1) ((lo, v - i) :: stk) W' else runL P T S e b r' (e lo) stk W') ∨ ∃ left : Bool, RLr ν' c0 P T W' r' 1 (if left = true then 1 else 0) ∧ ∀ stk : stL, stk.length + d ≤ 3 → topL e (e lo) stk → runL P T S e b (r + 1) lo stk W = (W', r', left)) v ?_ ⟨rfl, s1', W, r, .inl ⟨h1, fun stk k1 k2 => ?_⟩⟩ (by omega)
            · rintro i s ν' hi ⟨rfl, g1, W', r', hh⟩
              have hR' := sm_R g1 hR
              have hcells : ∀ j, j < 9 → m_I ν' (45, 0, 0) (107 + 9 * lo + j) = b lo j := fun j hj => by
                rcases hh with ⟨q, -⟩ | ⟨_, q, -⟩
                · rw [q.1, q.2.2.2.2.2.2.2.2.2.2 _ (by omega), hb]
                · rw [q.1, q.2.2.2.2.2.2.2.2.2.2 _ (by omega), hb]
              unfold fn_M_doOne_l119
              rw [r_g45 hR', show (9 : Int32) = nI 9 from rfl, pk_mul, show (107 : Int32) = nI 107 from rfl, nI_add, nI_1, r_a45 hR' (by omega), hcells 1 (by omega), e1, ap_ite]
              by_cases z : i = v
              · subst z
                rw [if_pos (nI_le (Nat.le_refl i) (by omega))]
                refine ⟨_, _, rfl, .inr ⟨(), rfl, g1, W', r', ?_⟩⟩
                rcases hh with ⟨p1, p2⟩ | ⟨left, p1, p2⟩
                · refine .inl ⟨p1, fun stk k1 k2 => ?_⟩
                  show runL P T S e b (r + 1) lo stk W = _
                  rw [p2 stk k1 k2, if_neg (by omega)]
                · exact .inr ⟨left, p1, p2⟩
              · rw [if_neg (nI_ge (by omega) (by omega)), r_gI hR', ap_ite]
                rcases hh with ⟨p1, p2⟩ | ⟨left, p1, p2⟩
                · rw [p1.2.2.2.2.2.2.1, if_pos rfl, r_g45 hR', show (8 : Int32) = nI 8 from rfl, nI_add, r_a45 hR' (by omega), hcells 8 (by omega), hs.2.1, nI_1]
                  refine e_bd (hall ν' r' W' (.inr h8) hR' p1) ?_
                  rintro - ν2 ⟨s2, W2, r2, hh⟩
                  refine ⟨_, _, rfl, .inl ⟨_, by omega, rfl, nI_1 i, sm_tr g1 s2, W2, r2, ?_⟩⟩
                  rcases hh with ⟨o1, o2⟩ | ⟨left, o1, o2⟩
                  · refine .inl ⟨o1, fun stk k1 k2 => ?_⟩
                    rw [p2 stk k1 k2]
                    by_cases y : lo + 1 < e lo
                    · have o3 : runL P T S e b r' (lo + 1) ((lo, v - i) :: stk) W' = runL P T S e b r2 (e lo) ((lo, v - i) :: stk) W2 := o2 ((lo, v - i) :: stk) (by show stk.length + 1 + (d - 1) ≤ 3; omega) (Nat.le_refl (e lo))
                      rw [if_pos ⟨by omega, y⟩, o3]
                      by_cases x : i + 1 < v
                      · rw [if_pos ⟨x, y⟩]
                        apply runL_cong
                        show (if e lo = e lo then (if 1 < v - i then (lo + 1, (lo, v - i - 1) :: stk) else Nz e (e lo) stk) else (e lo, (lo, v - i) :: stk)) = (if e lo = lo + 1 then _ else (lo + 1, (lo, v - (i + 1)) :: stk))
                        rw [if_pos rfl, if_pos (by omega), if_neg (by omega), Nat.sub_sub]
                      · rw [if_neg (fun q => x q.1)]
                        apply runL_cong
                        show (if e lo = e lo then (if 1 < v - i then (lo + 1, (lo, v - i - 1) :: stk) else Nz e (e lo) stk) else (e lo, (lo, v - i) :: stk)) = _
                        rw [if_pos rfl, if_neg (by omega)]
                    · have y1 : lo + 1 = e lo := by omega
                      rw [if_neg (fun q => y q.2), if_neg (fun q => y q.2), ← o2 stk (by omega) k2, y1]
                  · refine .inr ⟨left, o1, fun stk k1 k2 => ?_⟩
                    rw [p2 stk k1 k2]
                    by_cases y : lo + 1 < e lo
                    · rw [if_pos ⟨by omega, y⟩]
                      exact o2 ((lo, v - i) :: stk) (by show stk.length + 1 + (d - 1) ≤ 3; omega) (Nat.le_refl (e lo))
                    · have y1 : lo + 1 = e lo := by omega
                      rw [if_neg (fun q => y q.2), ← o2 stk (by omega) k2, y1]
                · rw [p1.2.2.2.2.2.2.1, if_neg (by decide)]
                  exact ⟨_, _, rfl, .inr ⟨(), rfl, g1, W', r', .inr ⟨left, p1, p2⟩⟩⟩
            · rw [hx stk k2, hex stk k1]
              by_cases y : lo + 1 < e lo
              · rw [if_neg (show ¬ e lo ≤ lo + 1 by omega), if_pos (show 0 < v ∧ lo + 1 < e lo from ⟨by omega, y⟩), Nat.sub_zero]
              · have y1 : lo + 1 = e lo := by omega
                rw [if_pos (show e lo ≤ lo + 1 by omega), if_neg (show ¬ (0 < v ∧ lo + 1 < e lo) from fun q => y q.2), ← y1]
          · have hle : ¬ 7 ≤ b lo 0 := by
              obtain ⟨-, -, -, hs⟩ := hs
              rcases hs with ⟨-, e0, -⟩ | ⟨-, e0, -⟩ | ⟨-, e0, -⟩ | ⟨-, e0, -⟩ | ⟨-, e0, -⟩ | ⟨-, e0, -⟩ | ⟨-, e0, -⟩ | ⟨-, e0, -⟩ | ⟨-, e0, -⟩ | ⟨-, e0, -⟩ | ⟨-, e0, -⟩ | ⟨e0, -⟩
              · rw [e0]; decide
              · rw [e0]; decide
              · rw [e0]; decide
              · rw [e0]; decide
              · rw [e0]; decide
              · rw [e0]; decide
              · rw [e0]; decide
              · exact absurd e0 h9
              · exact absurd e0 h8
              · exact absurd e0 h7
              · exact absurd e0 h7
              · exact absurd e0 h7
            have he1 : e lo = lo + 1 := by
              obtain ⟨-, -, -, hs⟩ := hs
              rcases hs with ⟨-, -, q, -⟩ | ⟨-, -, q, -⟩ | ⟨-, -, q, -⟩ | ⟨-, -, q, -⟩ | ⟨-, -, q, -⟩ | ⟨-, -, q, -⟩ | ⟨-, -, q⟩ | ⟨-, -, q⟩ | ⟨-, e0, -⟩ | ⟨-, e0, -⟩ | ⟨-, e0, -⟩ | ⟨e0, -⟩
              · exact q
              · exact q
              · exact q
              · exact q
              · exact q
              · exact q
              · exact q
              · exact q
              · exact absurd e0 h8
              · exact absurd e0 h7
              · exact absurd e0 h7
              · exact absurd e0 h7
            have hex : ∀ stk, exs P T S e b lo stk W = (lo + 1, stk, actW P T (b lo) W) := fun stk => by
              unfold exs
              rw [if_neg h9, if_neg h8, if_neg h7]
            rw [if_neg hle, r_gI hR1, c47]
            refine e_bd (r_does hR1 c1 cW.2.1 cW.1 cW.2.2 c45 cSt cMo (show lo < 30 by omega) (fun j => by rw [cj _ (by omega), hb]) hs h7 h8 h9) ?_
            rintro _ ν2 ⟨rfl, g1, g2, g3, g4⟩
            have hR2 := sm_R g4 hR1
            obtain ⟨o1, o2, o3, o4, o5⟩ := act2_ok (rnd := W.2.1) cW.1 cW.2.1 cW.2.2 hs h7 h8 h9
            generalize hA : act2 P T (b lo) W.1 W.2.1 = A at *
            have hW2 : actW P T (b lo) W = (A.1, A.2.1, if A.2.2 = true then W.2.2 else W.2.2 + 1) := by
              unfold actW
              rw [hA]
            have hmi : (m_bd (α := Int32) (if (if A.2.2 = true then (1 : Int32) else 0) = 0 then m_rt 1 else m_rt 0)) = (m_bd (m_rt (if A.2.2 = true then (0 : Int32) else 1)) : (Int32 → mP Unit) → mP Unit) := by
              cases A.2.2
              · rfl
              · rfl
            have hadd : W.2.2 + (if A.2.2 = true then (0 : Int32) else 1) = if A.2.2 = true then W.2.2 else W.2.2 + 1 := by
              cases A.2.2
              · rfl
              · exact Int32.add_zero _
            rw [hmi, bd_rt, r_pI hR2, hadd]
            have s3 : sm (fun x _ _ k => x = 40 ∧ k = 47) ν2 (m_sI ν2 (40, 0, 0) 47 (if A.2.2 = true then W.2.2 else W.2.2 + 1)) := sm_sI sm_rf _ ⟨rfl, rfl⟩
            refine ⟨(), _, rfl, sm_tr (sm_tr s1' (sm_mono g4 (by omega))) (sm_mono s3 (by omega)), actW P T (b lo) W, r, .inl ⟨⟨?_, ?_, ?_, ?_, by omega, ⟨?_, ?_, ?_⟩, ?_, ?_, ?_, ?_, ?_⟩, fun stk k1 k2 => ?_⟩⟩
            · rw [sm_Ir s3 (by omega), g1, hW2]
            · rw [sm_I s3 (by omega), g2, hW2]
            · rw [I_row, ud_at, hW2]
            · rw [sm_I s3 (by omega), sm_I g4 (by omega), c46]
            · rw [sm_I s3 (by omega), g3.1, hW2]
            · rw [sm_I s3 (by omega), g3.2.1, hW2]
            · rw [sm_I s3 (by omega), g3.2.2, hW2]
            · rw [sm_I s3 (by omega), sm_I g4 (by omega), c44]
            · rw [sm_I s3 (by omega), sm_I g4 (by omega), c50]
            · rw [hW2]; exact ⟨o1, o2, o3⟩
            · rw [hW2]; exact Mo_tr cMo o4
            · intro j hj
              rw [hW2]
              show A.1 j = c0 j
              rw [o5 j hj, cj j hj]
            · show runL P T S e b (r + 1) lo stk W = _
              rw [hx stk k2, hex, he1]
end RN
