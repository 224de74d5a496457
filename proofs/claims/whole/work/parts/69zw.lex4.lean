/-! Part 69zw: which of the kept words; laid by lex4.py -/
section WP
variable {μ ν : mM} {B : Nat → Int32} {u : Nat → Nat} {L p : Nat}
set_option maxHeartbeats 200000 in
theorem sp_0 : fn_M_spelled 112 101 114 115 111 110 ν = some (lN (wn 0), ν) := by
  unfold fn_M_spelled
  rw [bd_ite, if_neg (show ¬ (114 : Int32) ≤ 0 by decide), bd_rt]
  rw [bd_ite, if_neg (show ¬ (115 : Int32) ≤ 0 by decide), bd_rt]
  rw [bd_ite, if_neg (show ¬ (111 : Int32) ≤ 0 by decide), bd_rt]
  rw [ap_ite, if_neg (show ¬ (110 : Int32) ≤ 0 by decide)]
  refine congrArg (fun v => some (v, ν)) ?_
  decide +kernel
set_option maxHeartbeats 200000 in
theorem sp_1 : fn_M_spelled 115 104 111 119 115 0 ν = some (lN (wn 1), ν) := by
  unfold fn_M_spelled
  rw [bd_ite, if_neg (show ¬ (111 : Int32) ≤ 0 by decide), bd_rt]
  rw [bd_ite, if_neg (show ¬ (119 : Int32) ≤ 0 by decide), bd_rt]
  rw [bd_ite, if_neg (show ¬ (115 : Int32) ≤ 0 by decide), bd_rt]
  rw [ap_ite, if_pos (show (0 : Int32) ≤ 0 by decide)]
  refine congrArg (fun v => some (v, ν)) ?_
  decide +kernel
set_option maxHeartbeats 200000 in
theorem sp_2 : fn_M_spelled 108 105 102 101 0 0 ν = some (lN (wn 2), ν) := by
  unfold fn_M_spelled
  rw [bd_ite, if_neg (show ¬ (102 : Int32) ≤ 0 by decide), bd_rt]
  rw [bd_ite, if_neg (show ¬ (101 : Int32) ≤ 0 by decide), bd_rt]
  rw [bd_ite, if_pos (show (0 : Int32) ≤ 0 by decide), bd_rt]
  rw [ap_ite, if_pos (show (0 : Int32) ≤ 0 by decide)]
  refine congrArg (fun v => some (v, ν)) ?_
  decide +kernel
set_option maxHeartbeats 200000 in
theorem sp_3 : fn_M_spelled 100 97 109 112 0 0 ν = some (lN (wn 3), ν) := by
  unfold fn_M_spelled
  rw [bd_ite, if_neg (show ¬ (109 : Int32) ≤ 0 by decide), bd_rt]
  rw [bd_ite, if_neg (show ¬ (112 : Int32) ≤ 0 by decide), bd_rt]
  rw [bd_ite, if_pos (show (0 : Int32) ≤ 0 by decide), bd_rt]
  rw [ap_ite, if_pos (show (0 : Int32) ≤ 0 by decide)]
  refine congrArg (fun v => some (v, ν)) ?_
  decide +kernel
set_option maxHeartbeats 200000 in
theorem sp_4 : fn_M_spelled 98 114 101 97 116 104 ν = some (lN (wn 4), ν) := by
  unfold fn_M_spelled
  rw [bd_ite, if_neg (show ¬ (101 : Int32) ≤ 0 by decide), bd_rt]
  rw [bd_ite, if_neg (show ¬ (97 : Int32) ≤ 0 by decide), bd_rt]
  rw [bd_ite, if_neg (show ¬ (116 : Int32) ≤ 0 by decide), bd_rt]
  rw [ap_ite, if_neg (show ¬ (104 : Int32) ≤ 0 by decide)]
  refine congrArg (fun v => some (v, ν)) ?_
  decide +kernel
set_option maxHeartbeats 200000 in
theorem sp_5 : fn_M_spelled 97 103 101 0 0 0 ν = some (lN (wn 5), ν) := by
  unfold fn_M_spelled
  rw [bd_ite, if_neg (show ¬ (101 : Int32) ≤ 0 by decide), bd_rt]
  rw [bd_ite, if_pos (show (0 : Int32) ≤ 0 by decide), bd_rt]
  rw [bd_ite, if_pos (show (0 : Int32) ≤ 0 by decide), bd_rt]
  rw [ap_ite, if_pos (show (0 : Int32) ≤ 0 by decide)]
  refine congrArg (fun v => some (v, ν)) ?_
  decide +kernel
set_option maxHeartbeats 200000 in
theorem sp_6 : fn_M_spelled 111 102 0 0 0 0 ν = some (lN (wn 6), ν) := by
  unfold fn_M_spelled
  rw [bd_ite, if_pos (show (0 : Int32) ≤ 0 by decide), bd_rt]
  rw [bd_ite, if_pos (show (0 : Int32) ≤ 0 by decide), bd_rt]
  rw [bd_ite, if_pos (show (0 : Int32) ≤ 0 by decide), bd_rt]
  rw [ap_ite, if_pos (show (0 : Int32) ≤ 0 by decide)]
  refine congrArg (fun v => some (v, ν)) ?_
  decide +kernel
set_option maxHeartbeats 200000 in
theorem sp_7 : fn_M_spelled 116 104 105 110 103 0 ν = some (lN (wn 7), ν) := by
  unfold fn_M_spelled
  rw [bd_ite, if_neg (show ¬ (105 : Int32) ≤ 0 by decide), bd_rt]
  rw [bd_ite, if_neg (show ¬ (110 : Int32) ≤ 0 by decide), bd_rt]
  rw [bd_ite, if_neg (show ¬ (103 : Int32) ≤ 0 by decide), bd_rt]
  rw [ap_ite, if_pos (show (0 : Int32) ≤ 0 by decide)]
  refine congrArg (fun v => some (v, ν)) ?_
  decide +kernel
set_option maxHeartbeats 200000 in
theorem sp_8 : fn_M_spelled 116 104 105 99 107 0 ν = some (lN (wn 8), ν) := by
  unfold fn_M_spelled
  rw [bd_ite, if_neg (show ¬ (105 : Int32) ≤ 0 by decide), bd_rt]
  rw [bd_ite, if_neg (show ¬ (99 : Int32) ≤ 0 by decide), bd_rt]
  rw [bd_ite, if_neg (show ¬ (107 : Int32) ≤ 0 by decide), bd_rt]
  rw [ap_ite, if_pos (show (0 : Int32) ≤ 0 by decide)]
  refine congrArg (fun v => some (v, ν)) ?_
  decide +kernel
set_option maxHeartbeats 200000 in
theorem sp_9 : fn_M_spelled 99 111 97 116 0 0 ν = some (lN (wn 9), ν) := by
  unfold fn_M_spelled
  rw [bd_ite, if_neg (show ¬ (97 : Int32) ≤ 0 by decide), bd_rt]
  rw [bd_ite, if_neg (show ¬ (116 : Int32) ≤ 0 by decide), bd_rt]
  rw [bd_ite, if_pos (show (0 : Int32) ≤ 0 by decide), bd_rt]
  rw [ap_ite, if_pos (show (0 : Int32) ≤ 0 by decide)]
  refine congrArg (fun v => some (v, ν)) ?_
  decide +kernel
set_option maxHeartbeats 200000 in
theorem sp_10 : fn_M_spelled 108 111 118 101 115 0 ν = some (lN (wn 10), ν) := by
  unfold fn_M_spelled
  rw [bd_ite, if_neg (show ¬ (118 : Int32) ≤ 0 by decide), bd_rt]
  rw [bd_ite, if_neg (show ¬ (101 : Int32) ≤ 0 by decide), bd_rt]
  rw [bd_ite, if_neg (show ¬ (115 : Int32) ≤ 0 by decide), bd_rt]
  rw [ap_ite, if_pos (show (0 : Int32) ≤ 0 by decide)]
  refine congrArg (fun v => some (v, ν)) ?_
  decide +kernel
set_option maxHeartbeats 200000 in
theorem sp_11 : fn_M_spelled 121 101 97 114 0 0 ν = some (lN (wn 11), ν) := by
  unfold fn_M_spelled
  rw [bd_ite, if_neg (show ¬ (97 : Int32) ≤ 0 by decide), bd_rt]
  rw [bd_ite, if_neg (show ¬ (114 : Int32) ≤ 0 by decide), bd_rt]
  rw [bd_ite, if_pos (show (0 : Int32) ≤ 0 by decide), bd_rt]
  rw [ap_ite, if_pos (show (0 : Int32) ≤ 0 by decide)]
  refine congrArg (fun v => some (v, ν)) ?_
  decide +kernel
set_option maxHeartbeats 200000 in
theorem sp_12 : fn_M_spelled 111 105 108 0 0 0 ν = some (lN (wn 12), ν) := by
  unfold fn_M_spelled
  rw [bd_ite, if_neg (show ¬ (108 : Int32) ≤ 0 by decide), bd_rt]
  rw [bd_ite, if_pos (show (0 : Int32) ≤ 0 by decide), bd_rt]
  rw [bd_ite, if_pos (show (0 : Int32) ≤ 0 by decide), bd_rt]
  rw [ap_ite, if_pos (show (0 : Int32) ≤ 0 by decide)]
  refine congrArg (fun v => some (v, ν)) ?_
  decide +kernel
set_option maxHeartbeats 200000 in
theorem sp_13 : fn_M_spelled 109 101 110 100 0 0 ν = some (lN (wn 13), ν) := by
  unfold fn_M_spelled
  rw [bd_ite, if_neg (show ¬ (110 : Int32) ≤ 0 by decide), bd_rt]
  rw [bd_ite, if_neg (show ¬ (100 : Int32) ≤ 0 by decide), bd_rt]
  rw [bd_ite, if_pos (show (0 : Int32) ≤ 0 by decide), bd_rt]
  rw [ap_ite, if_pos (show (0 : Int32) ≤ 0 by decide)]
  refine congrArg (fun v => some (v, ν)) ?_
  decide +kernel
set_option maxHeartbeats 200000 in
theorem sp_14 : fn_M_spelled 97 110 121 0 0 0 ν = some (lN (wn 14), ν) := by
  unfold fn_M_spelled
  rw [bd_ite, if_neg (show ¬ (121 : Int32) ≤ 0 by decide), bd_rt]
  rw [bd_ite, if_pos (show (0 : Int32) ≤ 0 by decide), bd_rt]
  rw [bd_ite, if_pos (show (0 : Int32) ≤ 0 by decide), bd_rt]
  rw [ap_ite, if_pos (show (0 : Int32) ≤ 0 by decide)]
  refine congrArg (fun v => some (v, ν)) ?_
  decide +kernel
set_option maxHeartbeats 200000 in
theorem sp_15 : fn_M_spelled 119 104 101 110 0 0 ν = some (lN (wn 15), ν) := by
  unfold fn_M_spelled
  rw [bd_ite, if_neg (show ¬ (101 : Int32) ≤ 0 by decide), bd_rt]
  rw [bd_ite, if_neg (show ¬ (110 : Int32) ≤ 0 by decide), bd_rt]
  rw [bd_ite, if_pos (show (0 : Int32) ≤ 0 by decide), bd_rt]
  rw [ap_ite, if_pos (show (0 : Int32) ≤ 0 by decide)]
  refine congrArg (fun v => some (v, ν)) ?_
  decide +kernel
set_option maxHeartbeats 200000 in
theorem sp_16 : fn_M_spelled 116 104 114 111 117 103 ν = some (lN (wv (wd 16) 0 6), ν) := by
  unfold fn_M_spelled
  rw [bd_ite, if_neg (show ¬ (114 : Int32) ≤ 0 by decide), bd_rt]
  rw [bd_ite, if_neg (show ¬ (111 : Int32) ≤ 0 by decide), bd_rt]
  rw [bd_ite, if_neg (show ¬ (117 : Int32) ≤ 0 by decide), bd_rt]
  rw [ap_ite, if_neg (show ¬ (103 : Int32) ≤ 0 by decide)]
  refine congrArg (fun v => some (v, ν)) ?_
  decide +kernel
set_option maxHeartbeats 200000 in
theorem sp_17 : fn_M_spelled 114 117 115 116 0 0 ν = some (lN (wn 17), ν) := by
  unfold fn_M_spelled
  rw [bd_ite, if_neg (show ¬ (115 : Int32) ≤ 0 by decide), bd_rt]
  rw [bd_ite, if_neg (show ¬ (116 : Int32) ≤ 0 by decide), bd_rt]
  rw [bd_ite, if_pos (show (0 : Int32) ≤ 0 by decide), bd_rt]
  rw [ap_ite, if_pos (show (0 : Int32) ≤ 0 by decide)]
  refine congrArg (fun v => some (v, ν)) ?_
  decide +kernel
set_option maxHeartbeats 200000 in
theorem sp_18 : fn_M_spelled 108 111 111 112 0 0 ν = some (lN (wn 18), ν) := by
  unfold fn_M_spelled
  rw [bd_ite, if_neg (show ¬ (111 : Int32) ≤ 0 by decide), bd_rt]
  rw [bd_ite, if_neg (show ¬ (112 : Int32) ≤ 0 by decide), bd_rt]
  rw [bd_ite, if_pos (show (0 : Int32) ≤ 0 by decide), bd_rt]
  rw [ap_ite, if_pos (show (0 : Int32) ≤ 0 by decide)]
  refine congrArg (fun v => some (v, ν)) ?_
  decide +kernel
set_option maxHeartbeats 200000 in
theorem sp_19 : fn_M_spelled 101 110 100 0 0 0 ν = some (lN (wn 19), ν) := by
  unfold fn_M_spelled
  rw [bd_ite, if_neg (show ¬ (100 : Int32) ≤ 0 by decide), bd_rt]
  rw [bd_ite, if_pos (show (0 : Int32) ≤ 0 by decide), bd_rt]
  rw [bd_ite, if_pos (show (0 : Int32) ≤ 0 by decide), bd_rt]
  rw [ap_ite, if_pos (show (0 : Int32) ≤ 0 by decide)]
  refine congrArg (fun v => some (v, ν)) ?_
  decide +kernel
set_option maxHeartbeats 200000 in
theorem sp_20 : fn_M_spelled 115 116 111 112 0 0 ν = some (lN (wn 20), ν) := by
  unfold fn_M_spelled
  rw [bd_ite, if_neg (show ¬ (111 : Int32) ≤ 0 by decide), bd_rt]
  rw [bd_ite, if_neg (show ¬ (112 : Int32) ≤ 0 by decide), bd_rt]
  rw [bd_ite, if_pos (show (0 : Int32) ≤ 0 by decide), bd_rt]
  rw [ap_ite, if_pos (show (0 : Int32) ≤ 0 by decide)]
  refine congrArg (fun v => some (v, ν)) ?_
  decide +kernel
set_option maxHeartbeats 200000 in
theorem r_isPerson (hR : RefP ν) (hk : TkR ν u L p) : fn_M_isPerson (some (40, 0, 0)) ν = some (iw u L p 0, ν) := by
  unfold fn_M_isPerson
  rw [r_th hR, bd_of sp_0, bd_of (r_isW hR hk (show 0 < 21 by omega)), bd_cz (iw_01 u L p 0)]
  rfl
set_option maxHeartbeats 200000 in
theorem r_isShows (hR : RefP ν) (hk : TkR ν u L p) : fn_M_isShows (some (40, 0, 0)) ν = some (iw u L p 1, ν) := by
  unfold fn_M_isShows
  rw [r_th hR, bd_of sp_1, bd_of (r_isW hR hk (show 1 < 21 by omega)), bd_cz (iw_01 u L p 1)]
  rfl
set_option maxHeartbeats 200000 in
theorem r_isLife (hR : RefP ν) (hk : TkR ν u L p) : fn_M_isLife (some (40, 0, 0)) ν = some (iw u L p 2, ν) := by
  unfold fn_M_isLife
  rw [r_th hR, bd_of sp_2, bd_of (r_isW hR hk (show 2 < 21 by omega)), bd_cz (iw_01 u L p 2)]
  rfl
set_option maxHeartbeats 200000 in
theorem r_isDamp (hR : RefP ν) (hk : TkR ν u L p) : fn_M_isDamp (some (40, 0, 0)) ν = some (iw u L p 3, ν) := by
  unfold fn_M_isDamp
  rw [r_th hR, bd_of sp_3, bd_of (r_isW hR hk (show 3 < 21 by omega)), bd_cz (iw_01 u L p 3)]
  rfl
set_option maxHeartbeats 200000 in
theorem r_isBreath (hR : RefP ν) (hk : TkR ν u L p) : fn_M_isBreath (some (40, 0, 0)) ν = some (iw u L p 4, ν) := by
  unfold fn_M_isBreath
  rw [r_th hR, bd_of sp_4, bd_of (r_isW hR hk (show 4 < 21 by omega)), bd_cz (iw_01 u L p 4)]
  rfl
set_option maxHeartbeats 200000 in
theorem r_isAge (hR : RefP ν) (hk : TkR ν u L p) : fn_M_isAge (some (40, 0, 0)) ν = some (iw u L p 5, ν) := by
  unfold fn_M_isAge
  rw [r_th hR, bd_of sp_5, bd_of (r_isW hR hk (show 5 < 21 by omega)), bd_cz (iw_01 u L p 5)]
  rfl
set_option maxHeartbeats 200000 in
theorem r_isOf (hR : RefP ν) (hk : TkR ν u L p) : fn_M_isOf (some (40, 0, 0)) ν = some (iw u L p 6, ν) := by
  unfold fn_M_isOf
  rw [r_th hR, bd_of sp_6, bd_of (r_isW hR hk (show 6 < 21 by omega)), bd_cz (iw_01 u L p 6)]
  rfl
set_option maxHeartbeats 200000 in
theorem r_isThing (hR : RefP ν) (hk : TkR ν u L p) : fn_M_isThing (some (40, 0, 0)) ν = some (iw u L p 7, ν) := by
  unfold fn_M_isThing
  rw [r_th hR, bd_of sp_7, bd_of (r_isW hR hk (show 7 < 21 by omega)), bd_cz (iw_01 u L p 7)]
  rfl
set_option maxHeartbeats 200000 in
theorem r_isThick (hR : RefP ν) (hk : TkR ν u L p) : fn_M_isThick (some (40, 0, 0)) ν = some (iw u L p 8, ν) := by
  unfold fn_M_isThick
  rw [r_th hR, bd_of sp_8, bd_of (r_isW hR hk (show 8 < 21 by omega)), bd_cz (iw_01 u L p 8)]
  rfl
set_option maxHeartbeats 200000 in
theorem r_isCoat (hR : RefP ν) (hk : TkR ν u L p) : fn_M_isCoat (some (40, 0, 0)) ν = some (iw u L p 9, ν) := by
  unfold fn_M_isCoat
  rw [r_th hR, bd_of sp_9, bd_of (r_isW hR hk (show 9 < 21 by omega)), bd_cz (iw_01 u L p 9)]
  rfl
set_option maxHeartbeats 200000 in
theorem r_isLoves (hR : RefP ν) (hk : TkR ν u L p) : fn_M_isLoves (some (40, 0, 0)) ν = some (iw u L p 10, ν) := by
  unfold fn_M_isLoves
  rw [r_th hR, bd_of sp_10, bd_of (r_isW hR hk (show 10 < 21 by omega)), bd_cz (iw_01 u L p 10)]
  rfl
set_option maxHeartbeats 200000 in
theorem r_isEnd (hR : RefP ν) (hk : TkR ν u L p) : fn_M_isEnd (some (40, 0, 0)) ν = some (iw u L p 19, ν) := by
  unfold fn_M_isEnd
  rw [r_th hR, bd_of sp_19, bd_of (r_isW hR hk (show 19 < 21 by omega)), bd_cz (iw_01 u L p 19)]
  rfl
set_option maxHeartbeats 200000 in
theorem iw_ite {α : Type} {j : Nat} {x y : α} : (if iw u L p j = 0 then x else y) = if isW u L p j = true then y else x := by
  unfold iw
  by_cases z : isW u L p j = true
  · rw [if_pos z, if_pos z, if_neg (by decide)]
  · rw [if_neg z, if_neg z, if_pos rfl]
/-- which step the word begins -/
def stW (u : Nat → Nat) (L p : Nat) : Int32 := if isW u L p 11 = true then 0 else if isW u L p 12 = true then 1 else if isW u L p 10 = true then 2 else if isW u L p 3 = true then 3 else if isW u L p 9 = true then 4 else if isW u L p 13 = true then 5 else if isW u L p 14 = true then 6 else if isW u L p 15 = true then 7 else if isW u L p 18 = true then 8 else if isW u L p 20 = true then 9 else -1
def teW (u : Nat → Nat) (L p : Nat) : Int32 := if isW u L p 16 = true then 0 else if isW u L p 17 = true then 1 else if isW u L p 1 = true then 2 else -1
set_option maxHeartbeats 200000 in
theorem r_stepWord (hR : RefP ν) (hk : TkR ν u L p) : fn_M_stepWord (some (40, 0, 0)) ν = some (stW u L p, ν) := by
  unfold fn_M_stepWord stW
  rw [r_th hR]
  rw [bd_of sp_11, bd_of (r_isW hR hk (show 11 < 21 by omega)), ap_ite, iw_ite]
  by_cases h11 : isW u L p 11 = true
  · rw [if_pos h11, if_pos h11]
    rfl
  rw [if_neg h11, if_neg h11]
  rw [bd_of sp_12, bd_of (r_isW hR hk (show 12 < 21 by omega)), ap_ite, iw_ite]
  by_cases h12 : isW u L p 12 = true
  · rw [if_pos h12, if_pos h12]
    rfl
  rw [if_neg h12, if_neg h12]
  rw [bd_of (r_isLoves hR hk), ap_ite, iw_ite]
  by_cases h10 : isW u L p 10 = true
  · rw [if_pos h10, if_pos h10]
    rfl
  rw [if_neg h10, if_neg h10]
  rw [bd_of (r_isDamp hR hk), ap_ite, iw_ite]
  by_cases h3 : isW u L p 3 = true
  · rw [if_pos h3, if_pos h3]
    rfl
  rw [if_neg h3, if_neg h3]
  rw [bd_of (r_isCoat hR hk), ap_ite, iw_ite]
  by_cases h9 : isW u L p 9 = true
  · rw [if_pos h9, if_pos h9]
    rfl
  rw [if_neg h9, if_neg h9]
  rw [bd_of sp_13, bd_of (r_isW hR hk (show 13 < 21 by omega)), ap_ite, iw_ite]
  by_cases h13 : isW u L p 13 = true
  · rw [if_pos h13, if_pos h13]
    rfl
  rw [if_neg h13, if_neg h13]
  rw [bd_of sp_14, bd_of (r_isW hR hk (show 14 < 21 by omega)), ap_ite, iw_ite]
  by_cases h14 : isW u L p 14 = true
  · rw [if_pos h14, if_pos h14]
    rfl
  rw [if_neg h14, if_neg h14]
  rw [bd_of sp_15, bd_of (r_isW hR hk (show 15 < 21 by omega)), ap_ite, iw_ite]
  by_cases h15 : isW u L p 15 = true
  · rw [if_pos h15, if_pos h15]
    rfl
  rw [if_neg h15, if_neg h15]
  rw [bd_of sp_18, bd_of (r_isW hR hk (show 18 < 21 by omega)), ap_ite, iw_ite]
  by_cases h18 : isW u L p 18 = true
  · rw [if_pos h18, if_pos h18]
    rfl
  rw [if_neg h18, if_neg h18]
  rw [bd_of sp_20, bd_of (r_isW hR hk (show 20 < 21 by omega)), ap_ite, iw_ite]
  by_cases h20 : isW u L p 20 = true
  · rw [if_pos h20, if_pos h20]
    rfl
  rw [if_neg h20, if_neg h20]
  rfl
set_option maxHeartbeats 200000 in
theorem r_testWord (hR : RefP ν) (hk : TkR ν u L p) : fn_M_testWord (some (40, 0, 0)) ν = some (teW u L p, ν) := by
  have e16 : lN (wv (wd 16) 0 6) * 32 + 8 = lN (wn 16) := by decide +kernel
  unfold fn_M_testWord teW
  rw [r_th hR, bd_of sp_16, e16, bd_of (r_isW hR hk (show 16 < 21 by omega)), ap_ite, iw_ite]
  by_cases h16 : isW u L p 16 = true
  · rw [if_pos h16, if_pos h16]
    rfl
  rw [if_neg h16, if_neg h16, bd_of sp_17, bd_of (r_isW hR hk (show 17 < 21 by omega)), ap_ite, iw_ite]
  by_cases h17 : isW u L p 17 = true
  · rw [if_pos h17, if_pos h17]
    rfl
  rw [if_neg h17, if_neg h17, bd_of (r_isShows hR hk), ap_ite, iw_ite]
  by_cases h1 : isW u L p 1 = true
  · rw [if_pos h1, if_pos h1]
    rfl
  rw [if_neg h1, if_neg h1]
  rfl
/-- a word that cannot name -/
def kept (u : Nat → Nat) (L p : Nat) : Bool := (List.range 21).any (isW u L p)
set_option maxHeartbeats 200000 in
theorem kept_of {j : Nat} (hj : j < 21) (h : isW u L p j = true) : kept u L p = true := List.any_eq_true.mpr ⟨j, List.mem_range.mpr hj, h⟩
set_option maxHeartbeats 200000 in
theorem kept_no (h : ∀ j, j < 21 → ¬ isW u L p j = true) : ¬ kept u L p = true := fun q => by
  obtain ⟨j, hj, hw⟩ := List.any_eq_true.mp q
  exact h j (List.mem_range.mp hj) hw
set_option maxHeartbeats 200000 in
theorem k_isReserved (hC : ClsP μ) (hT : TxB μ B L) (hB : Byt B u L) (hk : TkC μ u L p) : fn_Tx_isReserved (some (5, 0, 0)) μ = some (if kept u L p = true then 1 else 0, μ) := by
  unfold fn_Tx_isReserved
  rw [c_text_th hC]
  rw [bd_of (k_is hC hT hB hk (show 1 < 21 by omega)), ap_ite, iw_ite]
  by_cases h1 : isW u L p 1 = true
  · rw [if_pos h1, if_pos (kept_of (show 1 < 21 by omega) h1)]
    rfl
  rw [if_neg h1]
  rw [bd_of (k_is hC hT hB hk (show 2 < 21 by omega)), ap_ite, iw_ite]
  by_cases h2 : isW u L p 2 = true
  · rw [if_pos h2, if_pos (kept_of (show 2 < 21 by omega) h2)]
    rfl
  rw [if_neg h2]
  rw [bd_of (k_is hC hT hB hk (show 3 < 21 by omega)), ap_ite, iw_ite]
  by_cases h3 : isW u L p 3 = true
  · rw [if_pos h3, if_pos (kept_of (show 3 < 21 by omega) h3)]
    rfl
  rw [if_neg h3]
  rw [bd_of (k_is hC hT hB hk (show 4 < 21 by omega)), ap_ite, iw_ite]
  by_cases h4 : isW u L p 4 = true
  · rw [if_pos h4, if_pos (kept_of (show 4 < 21 by omega) h4)]
    rfl
  rw [if_neg h4]
  rw [bd_of (k_is hC hT hB hk (show 0 < 21 by omega)), ap_ite, iw_ite]
  by_cases h0 : isW u L p 0 = true
  · rw [if_pos h0, if_pos (kept_of (show 0 < 21 by omega) h0)]
    rfl
  rw [if_neg h0]
  rw [bd_of (k_is hC hT hB hk (show 5 < 21 by omega)), ap_ite, iw_ite]
  by_cases h5 : isW u L p 5 = true
  · rw [if_pos h5, if_pos (kept_of (show 5 < 21 by omega) h5)]
    rfl
  rw [if_neg h5]
  rw [bd_of (k_is hC hT hB hk (show 6 < 21 by omega)), ap_ite, iw_ite]
  by_cases h6 : isW u L p 6 = true
  · rw [if_pos h6, if_pos (kept_of (show 6 < 21 by omega) h6)]
    rfl
  rw [if_neg h6]
  rw [bd_of (k_is hC hT hB hk (show 7 < 21 by omega)), ap_ite, iw_ite]
  by_cases h7 : isW u L p 7 = true
  · rw [if_pos h7, if_pos (kept_of (show 7 < 21 by omega) h7)]
    rfl
  rw [if_neg h7]
  rw [bd_of (k_is hC hT hB hk (show 8 < 21 by omega)), ap_ite, iw_ite]
  by_cases h8 : isW u L p 8 = true
  · rw [if_pos h8, if_pos (kept_of (show 8 < 21 by omega) h8)]
    rfl
  rw [if_neg h8]
  rw [bd_of (k_is hC hT hB hk (show 9 < 21 by omega)), ap_ite, iw_ite]
  by_cases h9 : isW u L p 9 = true
  · rw [if_pos h9, if_pos (kept_of (show 9 < 21 by omega) h9)]
    rfl
  rw [if_neg h9]
  rw [bd_of (k_is hC hT hB hk (show 10 < 21 by omega)), ap_ite, iw_ite]
  by_cases h10 : isW u L p 10 = true
  · rw [if_pos h10, if_pos (kept_of (show 10 < 21 by omega) h10)]
    rfl
  rw [if_neg h10]
  rw [bd_of (k_is hC hT hB hk (show 11 < 21 by omega)), ap_ite, iw_ite]
  by_cases h11 : isW u L p 11 = true
  · rw [if_pos h11, if_pos (kept_of (show 11 < 21 by omega) h11)]
    rfl
  rw [if_neg h11]
  rw [bd_of (k_is hC hT hB hk (show 12 < 21 by omega)), ap_ite, iw_ite]
  by_cases h12 : isW u L p 12 = true
  · rw [if_pos h12, if_pos (kept_of (show 12 < 21 by omega) h12)]
    rfl
  rw [if_neg h12]
  rw [bd_of (k_is hC hT hB hk (show 13 < 21 by omega)), ap_ite, iw_ite]
  by_cases h13 : isW u L p 13 = true
  · rw [if_pos h13, if_pos (kept_of (show 13 < 21 by omega) h13)]
    rfl
  rw [if_neg h13]
  rw [bd_of (k_is hC hT hB hk (show 14 < 21 by omega)), ap_ite, iw_ite]
  by_cases h14 : isW u L p 14 = true
  · rw [if_pos h14, if_pos (kept_of (show 14 < 21 by omega) h14)]
    rfl
  rw [if_neg h14]
  rw [bd_of (k_is hC hT hB hk (show 15 < 21 by omega)), ap_ite, iw_ite]
  by_cases h15 : isW u L p 15 = true
  · rw [if_pos h15, if_pos (kept_of (show 15 < 21 by omega) h15)]
    rfl
  rw [if_neg h15]
  rw [bd_of (k_is hC hT hB hk (show 16 < 21 by omega)), ap_ite, iw_ite]
  by_cases h16 : isW u L p 16 = true
  · rw [if_pos h16, if_pos (kept_of (show 16 < 21 by omega) h16)]
    rfl
  rw [if_neg h16]
  rw [bd_of (k_is hC hT hB hk (show 17 < 21 by omega)), ap_ite, iw_ite]
  by_cases h17 : isW u L p 17 = true
  · rw [if_pos h17, if_pos (kept_of (show 17 < 21 by omega) h17)]
    rfl
  rw [if_neg h17]
  rw [bd_of (k_is hC hT hB hk (show 18 < 21 by omega)), ap_ite, iw_ite]
  by_cases h18 : isW u L p 18 = true
  · rw [if_pos h18, if_pos (kept_of (show 18 < 21 by omega) h18)]
    rfl
  rw [if_neg h18]
  rw [bd_of (k_is hC hT hB hk (show 19 < 21 by omega)), ap_ite, iw_ite]
  by_cases h19 : isW u L p 19 = true
  · rw [if_pos h19, if_pos (kept_of (show 19 < 21 by omega) h19)]
    rfl
  rw [if_neg h19]
  rw [bd_of (k_is hC hT hB hk (show 20 < 21 by omega)), ap_ite, iw_ite]
  by_cases h20 : isW u L p 20 = true
  · rw [if_pos h20, if_pos (kept_of (show 20 < 21 by omega) h20)]
    rfl
  rw [if_neg h20]
  rw [if_neg (kept_no (fun j hj => by
    obtain rfl | rfl | rfl | rfl | rfl | rfl | rfl | rfl | rfl | rfl | rfl | rfl | rfl | rfl | rfl | rfl | rfl | rfl | rfl | rfl | rfl : j = 0 ∨ j = 1 ∨ j = 2 ∨ j = 3 ∨ j = 4 ∨ j = 5 ∨ j = 6 ∨ j = 7 ∨ j = 8 ∨ j = 9 ∨ j = 10 ∨ j = 11 ∨ j = 12 ∨ j = 13 ∨ j = 14 ∨ j = 15 ∨ j = 16 ∨ j = 17 ∨ j = 18 ∨ j = 19 ∨ j = 20 := by omega
    · exact h0
    · exact h1
    · exact h2
    · exact h3
    · exact h4
    · exact h5
    · exact h6
    · exact h7
    · exact h8
    · exact h9
    · exact h10
    · exact h11
    · exact h12
    · exact h13
    · exact h14
    · exact h15
    · exact h16
    · exact h17
    · exact h18
    · exact h19
    · exact h20
    ))]
  rfl
set_option maxHeartbeats 200000 in
theorem r_isKept (hR : RefP ν) (hk : TkR ν u L p) : fn_M_isKept (some (40, 0, 0)) ν = some (if kept u L p = true then 1 else 0, ν) := by
  unfold fn_M_isKept
  rw [r_th hR]
  rw [bd_of (r_isLife hR hk), ap_ite, iw_ite]
  by_cases h2 : isW u L p 2 = true
  · rw [if_pos h2, if_pos (kept_of (show 2 < 21 by omega) h2)]
    rfl
  rw [if_neg h2]
  rw [bd_of (r_isBreath hR hk), ap_ite, iw_ite]
  by_cases h4 : isW u L p 4 = true
  · rw [if_pos h4, if_pos (kept_of (show 4 < 21 by omega) h4)]
    rfl
  rw [if_neg h4]
  rw [bd_of (r_isPerson hR hk), ap_ite, iw_ite]
  by_cases h0 : isW u L p 0 = true
  · rw [if_pos h0, if_pos (kept_of (show 0 < 21 by omega) h0)]
    rfl
  rw [if_neg h0]
  rw [bd_of (r_isAge hR hk), ap_ite, iw_ite]
  by_cases h5 : isW u L p 5 = true
  · rw [if_pos h5, if_pos (kept_of (show 5 < 21 by omega) h5)]
    rfl
  rw [if_neg h5]
  rw [bd_of (r_isOf hR hk), ap_ite, iw_ite]
  by_cases h6 : isW u L p 6 = true
  · rw [if_pos h6, if_pos (kept_of (show 6 < 21 by omega) h6)]
    rfl
  rw [if_neg h6]
  rw [bd_of (r_isThing hR hk), ap_ite, iw_ite]
  by_cases h7 : isW u L p 7 = true
  · rw [if_pos h7, if_pos (kept_of (show 7 < 21 by omega) h7)]
    rfl
  rw [if_neg h7]
  rw [bd_of (r_isThick hR hk), ap_ite, iw_ite]
  by_cases h8 : isW u L p 8 = true
  · rw [if_pos h8, if_pos (kept_of (show 8 < 21 by omega) h8)]
    rfl
  rw [if_neg h8]
  rw [bd_of (r_stepWord hR hk), ap_ite]
  unfold stW
  by_cases h11 : isW u L p 11 = true
  · rw [if_pos h11, if_pos (show (0 : Int32) ≤ 0 by decide), if_pos (kept_of (show 11 < 21 by omega) h11)]
    rfl
  rw [if_neg h11]
  by_cases h12 : isW u L p 12 = true
  · rw [if_pos h12, if_pos (show (0 : Int32) ≤ 1 by decide), if_pos (kept_of (show 12 < 21 by omega) h12)]
    rfl
  rw [if_neg h12]
  by_cases h10 : isW u L p 10 = true
  · rw [if_pos h10, if_pos (show (0 : Int32) ≤ 2 by decide), if_pos (kept_of (show 10 < 21 by omega) h10)]
    rfl
  rw [if_neg h10]
  by_cases h3 : isW u L p 3 = true
  · rw [if_pos h3, if_pos (show (0 : Int32) ≤ 3 by decide), if_pos (kept_of (show 3 < 21 by omega) h3)]
    rfl
  rw [if_neg h3]
  by_cases h9 : isW u L p 9 = true
  · rw [if_pos h9, if_pos (show (0 : Int32) ≤ 4 by decide), if_pos (kept_of (show 9 < 21 by omega) h9)]
    rfl
  rw [if_neg h9]
  by_cases h13 : isW u L p 13 = true
  · rw [if_pos h13, if_pos (show (0 : Int32) ≤ 5 by decide), if_pos (kept_of (show 13 < 21 by omega) h13)]
    rfl
  rw [if_neg h13]
  by_cases h14 : isW u L p 14 = true
  · rw [if_pos h14, if_pos (show (0 : Int32) ≤ 6 by decide), if_pos (kept_of (show 14 < 21 by omega) h14)]
    rfl
  rw [if_neg h14]
  by_cases h15 : isW u L p 15 = true
  · rw [if_pos h15, if_pos (show (0 : Int32) ≤ 7 by decide), if_pos (kept_of (show 15 < 21 by omega) h15)]
    rfl
  rw [if_neg h15]
  by_cases h18 : isW u L p 18 = true
  · rw [if_pos h18, if_pos (show (0 : Int32) ≤ 8 by decide), if_pos (kept_of (show 18 < 21 by omega) h18)]
    rfl
  rw [if_neg h18]
  by_cases h20 : isW u L p 20 = true
  · rw [if_pos h20, if_pos (show (0 : Int32) ≤ 9 by decide), if_pos (kept_of (show 20 < 21 by omega) h20)]
    rfl
  rw [if_neg h20]
  rw [if_neg (show ¬ (0 : Int32) ≤ -1 by decide), bd_of (r_testWord hR hk), ap_ite]
  unfold teW
  by_cases h16 : isW u L p 16 = true
  · rw [if_pos h16, if_pos (show (0 : Int32) ≤ 0 by decide), if_pos (kept_of (show 16 < 21 by omega) h16)]
    rfl
  rw [if_neg h16]
  by_cases h17 : isW u L p 17 = true
  · rw [if_pos h17, if_pos (show (0 : Int32) ≤ 1 by decide), if_pos (kept_of (show 17 < 21 by omega) h17)]
    rfl
  rw [if_neg h17]
  by_cases h1 : isW u L p 1 = true
  · rw [if_pos h1, if_pos (show (0 : Int32) ≤ 2 by decide), if_pos (kept_of (show 1 < 21 by omega) h1)]
    rfl
  rw [if_neg h1]
  rw [if_neg (show ¬ (0 : Int32) ≤ -1 by decide), bd_of (r_isEnd hR hk), ap_ite, iw_ite]
  by_cases h19 : isW u L p 19 = true
  · rw [if_pos h19, if_pos (kept_of (show 19 < 21 by omega) h19)]
    rfl
  rw [if_neg h19]
  rw [if_neg (kept_no (fun j hj => by
    obtain rfl | rfl | rfl | rfl | rfl | rfl | rfl | rfl | rfl | rfl | rfl | rfl | rfl | rfl | rfl | rfl | rfl | rfl | rfl | rfl | rfl : j = 0 ∨ j = 1 ∨ j = 2 ∨ j = 3 ∨ j = 4 ∨ j = 5 ∨ j = 6 ∨ j = 7 ∨ j = 8 ∨ j = 9 ∨ j = 10 ∨ j = 11 ∨ j = 12 ∨ j = 13 ∨ j = 14 ∨ j = 15 ∨ j = 16 ∨ j = 17 ∨ j = 18 ∨ j = 19 ∨ j = 20 := by omega
    · exact h0
    · exact h1
    · exact h2
    · exact h3
    · exact h4
    · exact h5
    · exact h6
    · exact h7
    · exact h8
    · exact h9
    · exact h10
    · exact h11
    · exact h12
    · exact h13
    · exact h14
    · exact h15
    · exact h16
    · exact h17
    · exact h18
    · exact h19
    · exact h20
    ))]
  rfl
end WP
