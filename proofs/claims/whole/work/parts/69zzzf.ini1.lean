/-! Part 69zzzf, laid by wip/whole/ininew.py: both are made, step by step -/
def gA0 : List (mA × Nat × Int32) := []
def gB0 : List (mA × Nat × Int64) := []
def gC0 : List (mA × Nat × Option mA) := []
def gA1 : List (mA × Nat × Int32) := ((1, 0, 0), 0, 0) :: gA0
def gB1 : List (mA × Nat × Int64) := ((1, 0, 0), 2, 1) :: ((1, 0, 0), 1, 0) :: gB0
def gC1 : List (mA × Nat × Option mA) := ((1, 0, 0), 3, some (2, 0, 0)) :: gC0
def gA2 : List (mA × Nat × Int32) := ((3, 0, 0), 1, 0) :: ((3, 0, 0), 0, (-1)) :: gA1
def gB2 : List (mA × Nat × Int64) := gB1
def gC2 : List (mA × Nat × Option mA) := ((3, 0, 0), 2, some (4, 0, 0)) :: gC1
set_option maxHeartbeats 200000 in
theorem sg_Tr_3 {α : Type} {Q : α → mM → Prop} {K : Unit → mP α} (hk : m_e (K () (Dn 4 gA2 gB2 gC2)) Q) : m_e (m_bd (fn_Tr_init (3, 0, 0)) K (Dn 3 gA1 gB1 gC1)) Q := by
  unfold fn_Tr_init
  refine y_thb (by decide +kernel) ?_
  refine x_bb ?_
  refine y_pI (by decide +kernel) ?_
  refine x_bb ?_
  refine y_pI (by decide +kernel) ?_
  refine x_bb ?_
  refine y_nea (4, 0, 0) (by decide +kernel) (by decide +kernel) ?_
  refine x_bb ?_
  refine y_pR (by decide +kernel) ?_
  refine x_rt ?_
  exact hk
def gA3 : List (mA × Nat × Int32) := gA2
def gB3 : List (mA × Nat × Int64) := gB2
def gC3 : List (mA × Nat × Option mA) := ((2, 0, 0), 0, some (3, 0, 0)) :: gC2
def gA4 : List (mA × Nat × Int32) := ((3, 0, 1), 1, 0) :: ((3, 0, 1), 0, (-1)) :: gA3
def gB4 : List (mA × Nat × Int64) := gB3
def gC4 : List (mA × Nat × Option mA) := ((3, 0, 1), 2, some (4, 0, 1)) :: gC3
set_option maxHeartbeats 200000 in
theorem sg_Tr_5 {α : Type} {Q : α → mM → Prop} {K : Unit → mP α} (hk : m_e (K () (Dn 6 gA4 gB4 gC4)) Q) : m_e (m_bd (fn_Tr_init (3, 0, 1)) K (Dn 5 gA3 gB3 gC3)) Q := by
  unfold fn_Tr_init
  refine y_thb (by decide +kernel) ?_
  refine x_bb ?_
  refine y_pI (by decide +kernel) ?_
  refine x_bb ?_
  refine y_pI (by decide +kernel) ?_
  refine x_bb ?_
  refine y_nea (4, 0, 1) (by decide +kernel) (by decide +kernel) ?_
  refine x_bb ?_
  refine y_pR (by decide +kernel) ?_
  refine x_rt ?_
  exact hk
def gA5 : List (mA × Nat × Int32) := gA4
def gB5 : List (mA × Nat × Int64) := gB4
def gC5 : List (mA × Nat × Option mA) := ((2, 0, 0), 1, some (3, 0, 1)) :: gC4
def gA6 : List (mA × Nat × Int32) := ((3, 0, 2), 1, 0) :: ((3, 0, 2), 0, (-1)) :: gA5
def gB6 : List (mA × Nat × Int64) := gB5
def gC6 : List (mA × Nat × Option mA) := ((3, 0, 2), 2, some (4, 0, 2)) :: gC5
set_option maxHeartbeats 200000 in
theorem sg_Tr_7 {α : Type} {Q : α → mM → Prop} {K : Unit → mP α} (hk : m_e (K () (Dn 8 gA6 gB6 gC6)) Q) : m_e (m_bd (fn_Tr_init (3, 0, 2)) K (Dn 7 gA5 gB5 gC5)) Q := by
  unfold fn_Tr_init
  refine y_thb (by decide +kernel) ?_
  refine x_bb ?_
  refine y_pI (by decide +kernel) ?_
  refine x_bb ?_
  refine y_pI (by decide +kernel) ?_
  refine x_bb ?_
  refine y_nea (4, 0, 2) (by decide +kernel) (by decide +kernel) ?_
  refine x_bb ?_
  refine y_pR (by decide +kernel) ?_
  refine x_rt ?_
  exact hk
def gA7 : List (mA × Nat × Int32) := gA6
def gB7 : List (mA × Nat × Int64) := gB6
def gC7 : List (mA × Nat × Option mA) := ((2, 0, 0), 2, some (3, 0, 2)) :: gC6
def gA8 : List (mA × Nat × Int32) := ((3, 0, 3), 1, 0) :: ((3, 0, 3), 0, (-1)) :: gA7
def gB8 : List (mA × Nat × Int64) := gB7
def gC8 : List (mA × Nat × Option mA) := ((3, 0, 3), 2, some (4, 0, 3)) :: gC7
set_option maxHeartbeats 200000 in
theorem sg_Tr_9 {α : Type} {Q : α → mM → Prop} {K : Unit → mP α} (hk : m_e (K () (Dn 10 gA8 gB8 gC8)) Q) : m_e (m_bd (fn_Tr_init (3, 0, 3)) K (Dn 9 gA7 gB7 gC7)) Q := by
  unfold fn_Tr_init
  refine y_thb (by decide +kernel) ?_
  refine x_bb ?_
  refine y_pI (by decide +kernel) ?_
  refine x_bb ?_
  refine y_pI (by decide +kernel) ?_
  refine x_bb ?_
  refine y_nea (4, 0, 3) (by decide +kernel) (by decide +kernel) ?_
  refine x_bb ?_
  refine y_pR (by decide +kernel) ?_
  refine x_rt ?_
  exact hk
def gA9 : List (mA × Nat × Int32) := gA8
def gB9 : List (mA × Nat × Int64) := gB8
def gC9 : List (mA × Nat × Option mA) := ((2, 0, 0), 3, some (3, 0, 3)) :: gC8
def gA10 : List (mA × Nat × Int32) := ((5, 0, 0), 11, (-1)) :: ((5, 0, 0), 10, (-1)) :: gA9
def gB10 : List (mA × Nat × Int64) := gB9
def gC10 : List (mA × Nat × Option mA) := ((5, 0, 0), 0, some (6, 0, 0)) :: gC9
set_option maxHeartbeats 200000 in
theorem sg_Tx_11 {α : Type} {Q : α → mM → Prop} {K : Unit → mP α} (hk : m_e (K () (Dn 12 gA10 gB10 gC10)) Q) : m_e (m_bd (fn_Tx_init (5, 0, 0)) K (Dn 11 gA9 gB9 gC9)) Q := by
  unfold fn_Tx_init
  refine y_thb (by decide +kernel) ?_
  refine x_bb ?_
  refine y_nea (6, 0, 0) (by decide +kernel) (by decide +kernel) ?_
  refine x_bb ?_
  refine y_pR (by decide +kernel) ?_
  refine x_bb ?_
  refine y_pI (by decide +kernel) ?_
  refine x_bb ?_
  refine y_pI (by decide +kernel) ?_
  refine x_rt ?_
  exact hk
def gA11 : List (mA × Nat × Int32) := gA10
def gB11 : List (mA × Nat × Int64) := gB10
def gC11 : List (mA × Nat × Option mA) := ((1, 0, 0), 4, some (5, 0, 0)) :: gC10
def gA12 : List (mA × Nat × Int32) := ((7, 0, 0), 5, 3) :: ((7, 0, 0), 4, 4) :: ((7, 0, 0), 3, 70) :: ((7, 0, 0), 2, 40) :: gA11
def gB12 : List (mA × Nat × Int64) := gB11
def gC12 : List (mA × Nat × Option mA) := ((7, 0, 0), 9, some (13, 0, 0)) :: ((13, 0, 0), 12, some (15, 0, 1)) :: ((13, 0, 0), 11, some (15, 0, 0)) :: ((13, 0, 0), 6, some (14, 0, 4)) :: ((13, 0, 0), 5, some (14, 0, 3)) :: ((13, 0, 0), 4, some (14, 0, 2)) :: ((13, 0, 0), 3, some (14, 0, 1)) :: ((13, 0, 0), 2, some (14, 0, 0)) :: ((11, 0, 0), 7, some (12, 0, 7)) :: ((11, 0, 0), 6, some (12, 0, 6)) :: ((11, 0, 0), 5, some (12, 0, 5)) :: ((11, 0, 0), 4, some (12, 0, 4)) :: ((11, 0, 0), 3, some (12, 0, 3)) :: ((11, 0, 0), 2, some (12, 0, 2)) :: ((11, 0, 0), 1, some (12, 0, 1)) :: ((11, 0, 0), 0, some (12, 0, 0)) :: ((7, 0, 0), 8, some (11, 0, 0)) :: ((8, 0, 0), 5, some (9, 0, 5)) :: ((9, 0, 5), 4, some (10, 0, 5)) :: ((8, 0, 0), 4, some (9, 0, 4)) :: ((9, 0, 4), 4, some (10, 0, 4)) :: ((8, 0, 0), 3, some (9, 0, 3)) :: ((9, 0, 3), 4, some (10, 0, 3)) :: ((8, 0, 0), 2, some (9, 0, 2)) :: ((9, 0, 2), 4, some (10, 0, 2)) :: ((8, 0, 0), 1, some (9, 0, 1)) :: ((9, 0, 1), 4, some (10, 0, 1)) :: ((8, 0, 0), 0, some (9, 0, 0)) :: ((9, 0, 0), 4, some (10, 0, 0)) :: ((7, 0, 0), 7, some (8, 0, 0)) :: gC11
set_option maxHeartbeats 200000 in
theorem sg_Fa_13 {α : Type} {Q : α → mM → Prop} {K : Unit → mP α} (hk : m_e (K () (Dn 43 gA12 gB12 gC12)) Q) : m_e (m_bd (fn_Fa_init (7, 0, 0)) K (Dn 13 gA11 gB11 gC11)) Q := by
  unfold fn_Fa_init fn_Pe_init fn_Th_init fn_Pl_init
  refine y_thb (by decide +kernel) ?_
  refine x_bb ?_
  refine y_pI (by decide +kernel) ?_
  refine x_bb ?_
  refine y_pI (by decide +kernel) ?_
  refine x_bb ?_
  refine y_pI (by decide +kernel) ?_
  refine x_bb ?_
  refine y_pI (by decide +kernel) ?_
  refine x_bb ?_
  refine y_nea (8, 0, 0) (by decide +kernel) (by decide +kernel) ?_
  refine x_bb ?_
  refine y_pR (by decide +kernel) ?_
  refine x_bb ?_
  refine y_gR (8, 0, 0) (by decide +kernel) (by decide +kernel) ?_
  refine x_bb ?_
  refine y_new (9, 0, 0) (by decide +kernel) (by decide +kernel) ?_
  refine x_bb ?_
  refine y_thb (by decide +kernel) ?_
  refine x_bb ?_
  refine y_nea (10, 0, 0) (by decide +kernel) (by decide +kernel) ?_
  refine x_bb ?_
  refine y_pR (by decide +kernel) ?_
  refine x_rt ?_
  refine x_bb ?_
  refine y_tR (n := 6) (i := 0) (by decide +kernel) (by decide +kernel) (by decide) (by decide) ?_
  refine x_bb ?_
  refine y_gR (8, 0, 0) (by decide +kernel) (by decide +kernel) ?_
  refine x_bb ?_
  refine y_new (9, 0, 1) (by decide +kernel) (by decide +kernel) ?_
  refine x_bb ?_
  refine y_thb (by decide +kernel) ?_
  refine x_bb ?_
  refine y_nea (10, 0, 1) (by decide +kernel) (by decide +kernel) ?_
  refine x_bb ?_
  refine y_pR (by decide +kernel) ?_
  refine x_rt ?_
  refine x_bb ?_
  refine y_tR (n := 6) (i := 1) (by decide +kernel) (by decide +kernel) (by decide) (by decide) ?_
  refine x_bb ?_
  refine y_gR (8, 0, 0) (by decide +kernel) (by decide +kernel) ?_
  refine x_bb ?_
  refine y_new (9, 0, 2) (by decide +kernel) (by decide +kernel) ?_
  refine x_bb ?_
  refine y_thb (by decide +kernel) ?_
  refine x_bb ?_
  refine y_nea (10, 0, 2) (by decide +kernel) (by decide +kernel) ?_
  refine x_bb ?_
  refine y_pR (by decide +kernel) ?_
  refine x_rt ?_
  refine x_bb ?_
  refine y_tR (n := 6) (i := 2) (by decide +kernel) (by decide +kernel) (by decide) (by decide) ?_
  refine x_bb ?_
  refine y_gR (8, 0, 0) (by decide +kernel) (by decide +kernel) ?_
  refine x_bb ?_
  refine y_new (9, 0, 3) (by decide +kernel) (by decide +kernel) ?_
  refine x_bb ?_
  refine y_thb (by decide +kernel) ?_
  refine x_bb ?_
  refine y_nea (10, 0, 3) (by decide +kernel) (by decide +kernel) ?_
  refine x_bb ?_
  refine y_pR (by decide +kernel) ?_
  refine x_rt ?_
  refine x_bb ?_
  refine y_tR (n := 6) (i := 3) (by decide +kernel) (by decide +kernel) (by decide) (by decide) ?_
  refine x_bb ?_
  refine y_gR (8, 0, 0) (by decide +kernel) (by decide +kernel) ?_
  refine x_bb ?_
  refine y_new (9, 0, 4) (by decide +kernel) (by decide +kernel) ?_
  refine x_bb ?_
  refine y_thb (by decide +kernel) ?_
  refine x_bb ?_
  refine y_nea (10, 0, 4) (by decide +kernel) (by decide +kernel) ?_
  refine x_bb ?_
  refine y_pR (by decide +kernel) ?_
  refine x_rt ?_
  refine x_bb ?_
  refine y_tR (n := 6) (i := 4) (by decide +kernel) (by decide +kernel) (by decide) (by decide) ?_
  refine x_bb ?_
  refine y_gR (8, 0, 0) (by decide +kernel) (by decide +kernel) ?_
  refine x_bb ?_
  refine y_new (9, 0, 5) (by decide +kernel) (by decide +kernel) ?_
  refine x_bb ?_
  refine y_thb (by decide +kernel) ?_
  refine x_bb ?_
  refine y_nea (10, 0, 5) (by decide +kernel) (by decide +kernel) ?_
  refine x_bb ?_
  refine y_pR (by decide +kernel) ?_
  refine x_rt ?_
  refine x_bb ?_
  refine y_tR (n := 6) (i := 5) (by decide +kernel) (by decide +kernel) (by decide) (by decide) ?_
  refine x_bb ?_
  refine y_nea (11, 0, 0) (by decide +kernel) (by decide +kernel) ?_
  refine x_bb ?_
  refine y_pR (by decide +kernel) ?_
  refine x_bb ?_
  refine y_gR (11, 0, 0) (by decide +kernel) (by decide +kernel) ?_
  refine x_bb ?_
  refine y_new (12, 0, 0) (by decide +kernel) (by decide +kernel) ?_
  refine x_bb ?_
  refine y_thb (by decide +kernel) ?_
  refine x_rt ?_
  refine x_bb ?_
  refine y_tR (n := 8) (i := 0) (by decide +kernel) (by decide +kernel) (by decide) (by decide) ?_
  refine x_bb ?_
  refine y_gR (11, 0, 0) (by decide +kernel) (by decide +kernel) ?_
  refine x_bb ?_
  refine y_new (12, 0, 1) (by decide +kernel) (by decide +kernel) ?_
  refine x_bb ?_
  refine y_thb (by decide +kernel) ?_
  refine x_rt ?_
  refine x_bb ?_
  refine y_tR (n := 8) (i := 1) (by decide +kernel) (by decide +kernel) (by decide) (by decide) ?_
  refine x_bb ?_
  refine y_gR (11, 0, 0) (by decide +kernel) (by decide +kernel) ?_
  refine x_bb ?_
  refine y_new (12, 0, 2) (by decide +kernel) (by decide +kernel) ?_
  refine x_bb ?_
  refine y_thb (by decide +kernel) ?_
  refine x_rt ?_
  refine x_bb ?_
  refine y_tR (n := 8) (i := 2) (by decide +kernel) (by decide +kernel) (by decide) (by decide) ?_
  refine x_bb ?_
  refine y_gR (11, 0, 0) (by decide +kernel) (by decide +kernel) ?_
  refine x_bb ?_
  refine y_new (12, 0, 3) (by decide +kernel) (by decide +kernel) ?_
  refine x_bb ?_
  refine y_thb (by decide +kernel) ?_
  refine x_rt ?_
  refine x_bb ?_
  refine y_tR (n := 8) (i := 3) (by decide +kernel) (by decide +kernel) (by decide) (by decide) ?_
  refine x_bb ?_
  refine y_gR (11, 0, 0) (by decide +kernel) (by decide +kernel) ?_
  refine x_bb ?_
  refine y_new (12, 0, 4) (by decide +kernel) (by decide +kernel) ?_
  refine x_bb ?_
  refine y_thb (by decide +kernel) ?_
  refine x_rt ?_
  refine x_bb ?_
  refine y_tR (n := 8) (i := 4) (by decide +kernel) (by decide +kernel) (by decide) (by decide) ?_
  refine x_bb ?_
  refine y_gR (11, 0, 0) (by decide +kernel) (by decide +kernel) ?_
  refine x_bb ?_
  refine y_new (12, 0, 5) (by decide +kernel) (by decide +kernel) ?_
  refine x_bb ?_
  refine y_thb (by decide +kernel) ?_
  refine x_rt ?_
  refine x_bb ?_
  refine y_tR (n := 8) (i := 5) (by decide +kernel) (by decide +kernel) (by decide) (by decide) ?_
  refine x_bb ?_
  refine y_gR (11, 0, 0) (by decide +kernel) (by decide +kernel) ?_
  refine x_bb ?_
  refine y_new (12, 0, 6) (by decide +kernel) (by decide +kernel) ?_
  refine x_bb ?_
  refine y_thb (by decide +kernel) ?_
  refine x_rt ?_
  refine x_bb ?_
  refine y_tR (n := 8) (i := 6) (by decide +kernel) (by decide +kernel) (by decide) (by decide) ?_
  refine x_bb ?_
  refine y_gR (11, 0, 0) (by decide +kernel) (by decide +kernel) ?_
  refine x_bb ?_
  refine y_new (12, 0, 7) (by decide +kernel) (by decide +kernel) ?_
  refine x_bb ?_
  refine y_thb (by decide +kernel) ?_
  refine x_rt ?_
  refine x_bb ?_
  refine y_tR (n := 8) (i := 7) (by decide +kernel) (by decide +kernel) (by decide) (by decide) ?_
  refine x_bb ?_
  refine y_new (13, 0, 0) (by decide +kernel) (by decide +kernel) ?_
  refine x_bb ?_
  refine y_thb (by decide +kernel) ?_
  refine x_bb ?_
  refine y_nea (14, 0, 0) (by decide +kernel) (by decide +kernel) ?_
  refine x_bb ?_
  refine y_pR (by decide +kernel) ?_
  refine x_bb ?_
  refine y_nea (14, 0, 1) (by decide +kernel) (by decide +kernel) ?_
  refine x_bb ?_
  refine y_pR (by decide +kernel) ?_
  refine x_bb ?_
  refine y_nea (14, 0, 2) (by decide +kernel) (by decide +kernel) ?_
  refine x_bb ?_
  refine y_pR (by decide +kernel) ?_
  refine x_bb ?_
  refine y_nea (14, 0, 3) (by decide +kernel) (by decide +kernel) ?_
  refine x_bb ?_
  refine y_pR (by decide +kernel) ?_
  refine x_bb ?_
  refine y_nea (14, 0, 4) (by decide +kernel) (by decide +kernel) ?_
  refine x_bb ?_
  refine y_pR (by decide +kernel) ?_
  refine x_bb ?_
  refine y_nea (15, 0, 0) (by decide +kernel) (by decide +kernel) ?_
  refine x_bb ?_
  refine y_pR (by decide +kernel) ?_
  refine x_bb ?_
  refine y_nea (15, 0, 1) (by decide +kernel) (by decide +kernel) ?_
  refine x_bb ?_
  refine y_pR (by decide +kernel) ?_
  refine x_rt ?_
  refine x_bb ?_
  refine y_pR (by decide +kernel) ?_
  refine x_rt ?_
  exact hk
def gA13 : List (mA × Nat × Int32) := gA12
def gB13 : List (mA × Nat × Int64) := gB12
def gC13 : List (mA × Nat × Option mA) := ((1, 0, 0), 5, some (7, 0, 0)) :: gC12
def gA14 : List (mA × Nat × Int32) := ((7, 1, 0), 5, 3) :: ((7, 1, 0), 4, 4) :: ((7, 1, 0), 3, 70) :: ((7, 1, 0), 2, 40) :: gA13
def gB14 : List (mA × Nat × Int64) := gB13
def gC14 : List (mA × Nat × Option mA) := ((7, 1, 0), 9, some (13, 1, 0)) :: ((13, 1, 0), 12, some (15, 1, 1)) :: ((13, 1, 0), 11, some (15, 1, 0)) :: ((13, 1, 0), 6, some (14, 1, 4)) :: ((13, 1, 0), 5, some (14, 1, 3)) :: ((13, 1, 0), 4, some (14, 1, 2)) :: ((13, 1, 0), 3, some (14, 1, 1)) :: ((13, 1, 0), 2, some (14, 1, 0)) :: ((11, 1, 0), 7, some (12, 1, 7)) :: ((11, 1, 0), 6, some (12, 1, 6)) :: ((11, 1, 0), 5, some (12, 1, 5)) :: ((11, 1, 0), 4, some (12, 1, 4)) :: ((11, 1, 0), 3, some (12, 1, 3)) :: ((11, 1, 0), 2, some (12, 1, 2)) :: ((11, 1, 0), 1, some (12, 1, 1)) :: ((11, 1, 0), 0, some (12, 1, 0)) :: ((7, 1, 0), 8, some (11, 1, 0)) :: ((8, 1, 0), 5, some (9, 1, 5)) :: ((9, 1, 5), 4, some (10, 1, 5)) :: ((8, 1, 0), 4, some (9, 1, 4)) :: ((9, 1, 4), 4, some (10, 1, 4)) :: ((8, 1, 0), 3, some (9, 1, 3)) :: ((9, 1, 3), 4, some (10, 1, 3)) :: ((8, 1, 0), 2, some (9, 1, 2)) :: ((9, 1, 2), 4, some (10, 1, 2)) :: ((8, 1, 0), 1, some (9, 1, 1)) :: ((9, 1, 1), 4, some (10, 1, 1)) :: ((8, 1, 0), 0, some (9, 1, 0)) :: ((9, 1, 0), 4, some (10, 1, 0)) :: ((7, 1, 0), 7, some (8, 1, 0)) :: gC13
set_option maxHeartbeats 200000 in
theorem sg_Fa_15 {α : Type} {Q : α → mM → Prop} {K : Unit → mP α} (hk : m_e (K () (Dn 74 gA14 gB14 gC14)) Q) : m_e (m_bd (fn_Fa_init (7, 1, 0)) K (Dn 44 gA13 gB13 gC13)) Q := by
  unfold fn_Fa_init fn_Pe_init fn_Th_init fn_Pl_init
  refine y_thb (by decide +kernel) ?_
  refine x_bb ?_
  refine y_pI (by decide +kernel) ?_
  refine x_bb ?_
  refine y_pI (by decide +kernel) ?_
  refine x_bb ?_
  refine y_pI (by decide +kernel) ?_
  refine x_bb ?_
  refine y_pI (by decide +kernel) ?_
  refine x_bb ?_
  refine y_nea (8, 1, 0) (by decide +kernel) (by decide +kernel) ?_
  refine x_bb ?_
  refine y_pR (by decide +kernel) ?_
  refine x_bb ?_
  refine y_gR (8, 1, 0) (by decide +kernel) (by decide +kernel) ?_
  refine x_bb ?_
  refine y_new (9, 1, 0) (by decide +kernel) (by decide +kernel) ?_
  refine x_bb ?_
  refine y_thb (by decide +kernel) ?_
  refine x_bb ?_
  refine y_nea (10, 1, 0) (by decide +kernel) (by decide +kernel) ?_
  refine x_bb ?_
  refine y_pR (by decide +kernel) ?_
  refine x_rt ?_
  refine x_bb ?_
  refine y_tR (n := 6) (i := 0) (by decide +kernel) (by decide +kernel) (by decide) (by decide) ?_
  refine x_bb ?_
  refine y_gR (8, 1, 0) (by decide +kernel) (by decide +kernel) ?_
  refine x_bb ?_
  refine y_new (9, 1, 1) (by decide +kernel) (by decide +kernel) ?_
  refine x_bb ?_
  refine y_thb (by decide +kernel) ?_
  refine x_bb ?_
  refine y_nea (10, 1, 1) (by decide +kernel) (by decide +kernel) ?_
  refine x_bb ?_
  refine y_pR (by decide +kernel) ?_
  refine x_rt ?_
  refine x_bb ?_
  refine y_tR (n := 6) (i := 1) (by decide +kernel) (by decide +kernel) (by decide) (by decide) ?_
  refine x_bb ?_
  refine y_gR (8, 1, 0) (by decide +kernel) (by decide +kernel) ?_
  refine x_bb ?_
  refine y_new (9, 1, 2) (by decide +kernel) (by decide +kernel) ?_
  refine x_bb ?_
  refine y_thb (by decide +kernel) ?_
  refine x_bb ?_
  refine y_nea (10, 1, 2) (by decide +kernel) (by decide +kernel) ?_
  refine x_bb ?_
  refine y_pR (by decide +kernel) ?_
  refine x_rt ?_
  refine x_bb ?_
  refine y_tR (n := 6) (i := 2) (by decide +kernel) (by decide +kernel) (by decide) (by decide) ?_
  refine x_bb ?_
  refine y_gR (8, 1, 0) (by decide +kernel) (by decide +kernel) ?_
  refine x_bb ?_
  refine y_new (9, 1, 3) (by decide +kernel) (by decide +kernel) ?_
  refine x_bb ?_
  refine y_thb (by decide +kernel) ?_
  refine x_bb ?_
  refine y_nea (10, 1, 3) (by decide +kernel) (by decide +kernel) ?_
  refine x_bb ?_
  refine y_pR (by decide +kernel) ?_
  refine x_rt ?_
  refine x_bb ?_
  refine y_tR (n := 6) (i := 3) (by decide +kernel) (by decide +kernel) (by decide) (by decide) ?_
  refine x_bb ?_
  refine y_gR (8, 1, 0) (by decide +kernel) (by decide +kernel) ?_
  refine x_bb ?_
  refine y_new (9, 1, 4) (by decide +kernel) (by decide +kernel) ?_
  refine x_bb ?_
  refine y_thb (by decide +kernel) ?_
  refine x_bb ?_
  refine y_nea (10, 1, 4) (by decide +kernel) (by decide +kernel) ?_
  refine x_bb ?_
  refine y_pR (by decide +kernel) ?_
  refine x_rt ?_
  refine x_bb ?_
  refine y_tR (n := 6) (i := 4) (by decide +kernel) (by decide +kernel) (by decide) (by decide) ?_
  refine x_bb ?_
  refine y_gR (8, 1, 0) (by decide +kernel) (by decide +kernel) ?_
  refine x_bb ?_
  refine y_new (9, 1, 5) (by decide +kernel) (by decide +kernel) ?_
  refine x_bb ?_
  refine y_thb (by decide +kernel) ?_
  refine x_bb ?_
  refine y_nea (10, 1, 5) (by decide +kernel) (by decide +kernel) ?_
  refine x_bb ?_
  refine y_pR (by decide +kernel) ?_
  refine x_rt ?_
  refine x_bb ?_
  refine y_tR (n := 6) (i := 5) (by decide +kernel) (by decide +kernel) (by decide) (by decide) ?_
  refine x_bb ?_
  refine y_nea (11, 1, 0) (by decide +kernel) (by decide +kernel) ?_
  refine x_bb ?_
  refine y_pR (by decide +kernel) ?_
  refine x_bb ?_
  refine y_gR (11, 1, 0) (by decide +kernel) (by decide +kernel) ?_
  refine x_bb ?_
  refine y_new (12, 1, 0) (by decide +kernel) (by decide +kernel) ?_
  refine x_bb ?_
  refine y_thb (by decide +kernel) ?_
  refine x_rt ?_
  refine x_bb ?_
  refine y_tR (n := 8) (i := 0) (by decide +kernel) (by decide +kernel) (by decide) (by decide) ?_
  refine x_bb ?_
  refine y_gR (11, 1, 0) (by decide +kernel) (by decide +kernel) ?_
  refine x_bb ?_
  refine y_new (12, 1, 1) (by decide +kernel) (by decide +kernel) ?_
  refine x_bb ?_
  refine y_thb (by decide +kernel) ?_
  refine x_rt ?_
  refine x_bb ?_
  refine y_tR (n := 8) (i := 1) (by decide +kernel) (by decide +kernel) (by decide) (by decide) ?_
  refine x_bb ?_
  refine y_gR (11, 1, 0) (by decide +kernel) (by decide +kernel) ?_
  refine x_bb ?_
  refine y_new (12, 1, 2) (by decide +kernel) (by decide +kernel) ?_
  refine x_bb ?_
  refine y_thb (by decide +kernel) ?_
  refine x_rt ?_
  refine x_bb ?_
  refine y_tR (n := 8) (i := 2) (by decide +kernel) (by decide +kernel) (by decide) (by decide) ?_
  refine x_bb ?_
  refine y_gR (11, 1, 0) (by decide +kernel) (by decide +kernel) ?_
  refine x_bb ?_
  refine y_new (12, 1, 3) (by decide +kernel) (by decide +kernel) ?_
  refine x_bb ?_
  refine y_thb (by decide +kernel) ?_
  refine x_rt ?_
  refine x_bb ?_
  refine y_tR (n := 8) (i := 3) (by decide +kernel) (by decide +kernel) (by decide) (by decide) ?_
  refine x_bb ?_
  refine y_gR (11, 1, 0) (by decide +kernel) (by decide +kernel) ?_
  refine x_bb ?_
  refine y_new (12, 1, 4) (by decide +kernel) (by decide +kernel) ?_
  refine x_bb ?_
  refine y_thb (by decide +kernel) ?_
  refine x_rt ?_
  refine x_bb ?_
  refine y_tR (n := 8) (i := 4) (by decide +kernel) (by decide +kernel) (by decide) (by decide) ?_
  refine x_bb ?_
  refine y_gR (11, 1, 0) (by decide +kernel) (by decide +kernel) ?_
  refine x_bb ?_
  refine y_new (12, 1, 5) (by decide +kernel) (by decide +kernel) ?_
  refine x_bb ?_
  refine y_thb (by decide +kernel) ?_
  refine x_rt ?_
  refine x_bb ?_
  refine y_tR (n := 8) (i := 5) (by decide +kernel) (by decide +kernel) (by decide) (by decide) ?_
  refine x_bb ?_
  refine y_gR (11, 1, 0) (by decide +kernel) (by decide +kernel) ?_
  refine x_bb ?_
  refine y_new (12, 1, 6) (by decide +kernel) (by decide +kernel) ?_
  refine x_bb ?_
  refine y_thb (by decide +kernel) ?_
  refine x_rt ?_
  refine x_bb ?_
  refine y_tR (n := 8) (i := 6) (by decide +kernel) (by decide +kernel) (by decide) (by decide) ?_
  refine x_bb ?_
  refine y_gR (11, 1, 0) (by decide +kernel) (by decide +kernel) ?_
  refine x_bb ?_
  refine y_new (12, 1, 7) (by decide +kernel) (by decide +kernel) ?_
  refine x_bb ?_
  refine y_thb (by decide +kernel) ?_
  refine x_rt ?_
  refine x_bb ?_
  refine y_tR (n := 8) (i := 7) (by decide +kernel) (by decide +kernel) (by decide) (by decide) ?_
  refine x_bb ?_
  refine y_new (13, 1, 0) (by decide +kernel) (by decide +kernel) ?_
  refine x_bb ?_
  refine y_thb (by decide +kernel) ?_
  refine x_bb ?_
  refine y_nea (14, 1, 0) (by decide +kernel) (by decide +kernel) ?_
  refine x_bb ?_
  refine y_pR (by decide +kernel) ?_
  refine x_bb ?_
  refine y_nea (14, 1, 1) (by decide +kernel) (by decide +kernel) ?_
  refine x_bb ?_
  refine y_pR (by decide +kernel) ?_
  refine x_bb ?_
  refine y_nea (14, 1, 2) (by decide +kernel) (by decide +kernel) ?_
  refine x_bb ?_
  refine y_pR (by decide +kernel) ?_
  refine x_bb ?_
  refine y_nea (14, 1, 3) (by decide +kernel) (by decide +kernel) ?_
  refine x_bb ?_
  refine y_pR (by decide +kernel) ?_
  refine x_bb ?_
  refine y_nea (14, 1, 4) (by decide +kernel) (by decide +kernel) ?_
  refine x_bb ?_
  refine y_pR (by decide +kernel) ?_
  refine x_bb ?_
  refine y_nea (15, 1, 0) (by decide +kernel) (by decide +kernel) ?_
  refine x_bb ?_
  refine y_pR (by decide +kernel) ?_
  refine x_bb ?_
  refine y_nea (15, 1, 1) (by decide +kernel) (by decide +kernel) ?_
  refine x_bb ?_
  refine y_pR (by decide +kernel) ?_
  refine x_rt ?_
  refine x_bb ?_
  refine y_pR (by decide +kernel) ?_
  refine x_rt ?_
  exact hk
def gA15 : List (mA × Nat × Int32) := gA14
def gB15 : List (mA × Nat × Int64) := gB14
def gC15 : List (mA × Nat × Option mA) := ((1, 0, 0), 6, some (7, 1, 0)) :: gC14
def gA16 : List (mA × Nat × Int32) := gA15
def gB16 : List (mA × Nat × Int64) := gB15
def gC16 : List (mA × Nat × Option mA) := ((13, 5, 0), 12, some (15, 5, 1)) :: ((13, 5, 0), 11, some (15, 5, 0)) :: ((13, 5, 0), 6, some (14, 5, 4)) :: ((13, 5, 0), 5, some (14, 5, 3)) :: ((13, 5, 0), 4, some (14, 5, 2)) :: ((13, 5, 0), 3, some (14, 5, 1)) :: ((13, 5, 0), 2, some (14, 5, 0)) :: gC15
set_option maxHeartbeats 200000 in
theorem sg_Pl_17 {α : Type} {Q : α → mM → Prop} {K : Unit → mP α} (hk : m_e (K () (Dn 82 gA16 gB16 gC16)) Q) : m_e (m_bd (fn_Pl_init (13, 5, 0)) K (Dn 75 gA15 gB15 gC15)) Q := by
  unfold fn_Pl_init
  refine y_thb (by decide +kernel) ?_
  refine x_bb ?_
  refine y_nea (14, 5, 0) (by decide +kernel) (by decide +kernel) ?_
  refine x_bb ?_
  refine y_pR (by decide +kernel) ?_
  refine x_bb ?_
  refine y_nea (14, 5, 1) (by decide +kernel) (by decide +kernel) ?_
  refine x_bb ?_
  refine y_pR (by decide +kernel) ?_
  refine x_bb ?_
  refine y_nea (14, 5, 2) (by decide +kernel) (by decide +kernel) ?_
  refine x_bb ?_
  refine y_pR (by decide +kernel) ?_
  refine x_bb ?_
  refine y_nea (14, 5, 3) (by decide +kernel) (by decide +kernel) ?_
  refine x_bb ?_
  refine y_pR (by decide +kernel) ?_
  refine x_bb ?_
  refine y_nea (14, 5, 4) (by decide +kernel) (by decide +kernel) ?_
  refine x_bb ?_
  refine y_pR (by decide +kernel) ?_
  refine x_bb ?_
  refine y_nea (15, 5, 0) (by decide +kernel) (by decide +kernel) ?_
  refine x_bb ?_
  refine y_pR (by decide +kernel) ?_
  refine x_bb ?_
  refine y_nea (15, 5, 1) (by decide +kernel) (by decide +kernel) ?_
  refine x_bb ?_
  refine y_pR (by decide +kernel) ?_
  refine x_rt ?_
  exact hk
def gA17 : List (mA × Nat × Int32) := ((1, 0, 0), 9, 0) :: gA16
def gB17 : List (mA × Nat × Int64) := gB16
def gC17 : List (mA × Nat × Option mA) := ((1, 0, 0), 8, some (16, 0, 0)) :: ((1, 0, 0), 7, some (13, 5, 0)) :: gC16
def gA18 : List (mA × Nat × Int32) := gA17
def gB18 : List (mA × Nat × Int64) := gB17
def gC18 : List (mA × Nat × Option mA) := ((17, 0, 0), 3, some (19, 0, 0)) :: ((17, 0, 0), 2, some (18, 0, 0)) :: ((17, 0, 0), 1, some (12, 5, 0)) :: gC17
set_option maxHeartbeats 200000 in
theorem sg_Ah_19 {α : Type} {Q : α → mM → Prop} {K : Unit → mP α} (hk : m_e (K () (Dn 87 gA18 gB18 gC18)) Q) : m_e (m_bd (fn_Ah_init (17, 0, 0)) K (Dn 84 gA17 gB17 gC17)) Q := by
  unfold fn_Ah_init fn_Th_init
  refine y_thb (by decide +kernel) ?_
  refine x_bb ?_
  refine y_new (12, 5, 0) (by decide +kernel) (by decide +kernel) ?_
  refine x_bb ?_
  refine y_thb (by decide +kernel) ?_
  refine x_rt ?_
  refine x_bb ?_
  refine y_pR (by decide +kernel) ?_
  refine x_bb ?_
  refine y_nea (18, 0, 0) (by decide +kernel) (by decide +kernel) ?_
  refine x_bb ?_
  refine y_pR (by decide +kernel) ?_
  refine x_bb ?_
  refine y_nea (19, 0, 0) (by decide +kernel) (by decide +kernel) ?_
  refine x_bb ?_
  refine y_pR (by decide +kernel) ?_
  refine x_rt ?_
  exact hk
def gA19 : List (mA × Nat × Int32) := gA18
def gB19 : List (mA × Nat × Int64) := gB18
def gC19 : List (mA × Nat × Option mA) := ((1, 0, 0), 10, some (17, 0, 0)) :: gC18
def gA20 : List (mA × Nat × Int32) := gA19
def gB20 : List (mA × Nat × Int64) := gB19
def gC20 : List (mA × Nat × Option mA) := ((20, 0, 0), 1, some (22, 0, 0)) :: ((20, 0, 0), 0, some (21, 0, 0)) :: gC19
set_option maxHeartbeats 200000 in
theorem sg_Si_21 {α : Type} {Q : α → mM → Prop} {K : Unit → mP α} (hk : m_e (K () (Dn 90 gA20 gB20 gC20)) Q) : m_e (m_bd (fn_Si_init (20, 0, 0)) K (Dn 88 gA19 gB19 gC19)) Q := by
  unfold fn_Si_init
  refine y_thb (by decide +kernel) ?_
  refine x_bb ?_
  refine y_nea (21, 0, 0) (by decide +kernel) (by decide +kernel) ?_
  refine x_bb ?_
  refine y_pR (by decide +kernel) ?_
  refine x_bb ?_
  refine y_nea (22, 0, 0) (by decide +kernel) (by decide +kernel) ?_
  refine x_bb ?_
  refine y_pR (by decide +kernel) ?_
  refine x_rt ?_
  exact hk
def gA21 : List (mA × Nat × Int32) := gA20
def gB21 : List (mA × Nat × Int64) := gB20
def gC21 : List (mA × Nat × Option mA) := ((1, 0, 0), 11, some (20, 0, 0)) :: gC20
def gA22 : List (mA × Nat × Int32) := gA21
def gB22 : List (mA × Nat × Int64) := gB21
def gC22 : List (mA × Nat × Option mA) := ((23, 0, 0), 5, some (28, 0, 0)) :: ((23, 0, 0), 3, some (27, 0, 0)) :: ((23, 0, 0), 2, some (26, 0, 0)) :: ((23, 0, 0), 1, some (25, 0, 0)) :: ((23, 0, 0), 0, some (24, 0, 0)) :: gC21
set_option maxHeartbeats 200000 in
theorem sg_Ke_23 {α : Type} {Q : α → mM → Prop} {K : Unit → mP α} (hk : m_e (K () (Dn 96 gA22 gB22 gC22)) Q) : m_e (m_bd (fn_Ke_init (23, 0, 0)) K (Dn 91 gA21 gB21 gC21)) Q := by
  unfold fn_Ke_init
  refine y_thb (by decide +kernel) ?_
  refine x_bb ?_
  refine y_nea (24, 0, 0) (by decide +kernel) (by decide +kernel) ?_
  refine x_bb ?_
  refine y_pR (by decide +kernel) ?_
  refine x_bb ?_
  refine y_nea (25, 0, 0) (by decide +kernel) (by decide +kernel) ?_
  refine x_bb ?_
  refine y_pR (by decide +kernel) ?_
  refine x_bb ?_
  refine y_nea (26, 0, 0) (by decide +kernel) (by decide +kernel) ?_
  refine x_bb ?_
  refine y_pR (by decide +kernel) ?_
  refine x_bb ?_
  refine y_nea (27, 0, 0) (by decide +kernel) (by decide +kernel) ?_
  refine x_bb ?_
  refine y_pR (by decide +kernel) ?_
  refine x_bb ?_
  refine y_nea (28, 0, 0) (by decide +kernel) (by decide +kernel) ?_
  refine x_bb ?_
  refine y_pR (by decide +kernel) ?_
  refine x_rt ?_
  exact hk
def gA23 : List (mA × Nat × Int32) := gA22
def gB23 : List (mA × Nat × Int64) := gB22
def gC23 : List (mA × Nat × Option mA) := ((1, 0, 0), 12, some (23, 0, 0)) :: gC22
def gA24 : List (mA × Nat × Int32) := gA23
def gB24 : List (mA × Nat × Int64) := gB23
def gC24 : List (mA × Nat × Option mA) := ((29, 0, 0), 2, some (31, 0, 0)) :: ((30, 0, 0), 9, some (12, 6, 9)) :: ((30, 0, 0), 8, some (12, 6, 8)) :: ((30, 0, 0), 7, some (12, 6, 7)) :: ((30, 0, 0), 6, some (12, 6, 6)) :: ((30, 0, 0), 5, some (12, 6, 5)) :: ((30, 0, 0), 4, some (12, 6, 4)) :: ((30, 0, 0), 3, some (12, 6, 3)) :: ((30, 0, 0), 2, some (12, 6, 2)) :: ((30, 0, 0), 1, some (12, 6, 1)) :: ((30, 0, 0), 0, some (12, 6, 0)) :: ((29, 0, 0), 1, some (30, 0, 0)) :: gC23
set_option maxHeartbeats 200000 in
theorem sg_Ga_25 {α : Type} {Q : α → mM → Prop} {K : Unit → mP α} (hk : m_e (K () (Dn 109 gA24 gB24 gC24)) Q) : m_e (m_bd (fn_Ga_init (29, 0, 0)) K (Dn 97 gA23 gB23 gC23)) Q := by
  unfold fn_Ga_init fn_Th_init
  refine y_thb (by decide +kernel) ?_
  refine x_bb ?_
  refine y_nea (30, 0, 0) (by decide +kernel) (by decide +kernel) ?_
  refine x_bb ?_
  refine y_pR (by decide +kernel) ?_
  refine x_bb ?_
  refine y_gR (30, 0, 0) (by decide +kernel) (by decide +kernel) ?_
  refine x_bb ?_
  refine y_lk (t := 7) (by decide +kernel) ?_
  refine x_bb ?_
  refine y_gR (30, 0, 0) (by decide +kernel) (by decide +kernel) ?_
  refine x_bb ?_
  refine y_new (12, 6, 0) (by decide +kernel) (by decide +kernel) ?_
  refine x_bb ?_
  refine y_thb (by decide +kernel) ?_
  refine x_rt ?_
  refine x_bb ?_
  refine y_tR (n := 10) (i := 0) (by decide +kernel) (by decide +kernel) (by decide) (by decide) ?_
  refine x_bb ?_
  refine y_gR (30, 0, 0) (by decide +kernel) (by decide +kernel) ?_
  refine x_bb ?_
  refine y_lk (t := 7) (by decide +kernel) ?_
  refine x_bb ?_
  refine y_gR (30, 0, 0) (by decide +kernel) (by decide +kernel) ?_
  refine x_bb ?_
  refine y_new (12, 6, 1) (by decide +kernel) (by decide +kernel) ?_
  refine x_bb ?_
  refine y_thb (by decide +kernel) ?_
  refine x_rt ?_
  refine x_bb ?_
  refine y_tR (n := 10) (i := 1) (by decide +kernel) (by decide +kernel) (by decide) (by decide) ?_
  refine x_bb ?_
  refine y_gR (30, 0, 0) (by decide +kernel) (by decide +kernel) ?_
  refine x_bb ?_
  refine y_lk (t := 7) (by decide +kernel) ?_
  refine x_bb ?_
  refine y_gR (30, 0, 0) (by decide +kernel) (by decide +kernel) ?_
  refine x_bb ?_
  refine y_new (12, 6, 2) (by decide +kernel) (by decide +kernel) ?_
  refine x_bb ?_
  refine y_thb (by decide +kernel) ?_
  refine x_rt ?_
  refine x_bb ?_
  refine y_tR (n := 10) (i := 2) (by decide +kernel) (by decide +kernel) (by decide) (by decide) ?_
  refine x_bb ?_
  refine y_gR (30, 0, 0) (by decide +kernel) (by decide +kernel) ?_
  refine x_bb ?_
  refine y_lk (t := 7) (by decide +kernel) ?_
  refine x_bb ?_
  refine y_gR (30, 0, 0) (by decide +kernel) (by decide +kernel) ?_
  refine x_bb ?_
  refine y_new (12, 6, 3) (by decide +kernel) (by decide +kernel) ?_
  refine x_bb ?_
  refine y_thb (by decide +kernel) ?_
  refine x_rt ?_
  refine x_bb ?_
  refine y_tR (n := 10) (i := 3) (by decide +kernel) (by decide +kernel) (by decide) (by decide) ?_
  refine x_bb ?_
  refine y_gR (30, 0, 0) (by decide +kernel) (by decide +kernel) ?_
  refine x_bb ?_
  refine y_lk (t := 7) (by decide +kernel) ?_
  refine x_bb ?_
  refine y_gR (30, 0, 0) (by decide +kernel) (by decide +kernel) ?_
  refine x_bb ?_
  refine y_new (12, 6, 4) (by decide +kernel) (by decide +kernel) ?_
  refine x_bb ?_
  refine y_thb (by decide +kernel) ?_
  refine x_rt ?_
  refine x_bb ?_
  refine y_tR (n := 10) (i := 4) (by decide +kernel) (by decide +kernel) (by decide) (by decide) ?_
  refine x_bb ?_
  refine y_gR (30, 0, 0) (by decide +kernel) (by decide +kernel) ?_
  refine x_bb ?_
  refine y_lk (t := 7) (by decide +kernel) ?_
  refine x_bb ?_
  refine y_gR (30, 0, 0) (by decide +kernel) (by decide +kernel) ?_
  refine x_bb ?_
  refine y_new (12, 6, 5) (by decide +kernel) (by decide +kernel) ?_
  refine x_bb ?_
  refine y_thb (by decide +kernel) ?_
  refine x_rt ?_
  refine x_bb ?_
  refine y_tR (n := 10) (i := 5) (by decide +kernel) (by decide +kernel) (by decide) (by decide) ?_
  refine x_bb ?_
  refine y_gR (30, 0, 0) (by decide +kernel) (by decide +kernel) ?_
  refine x_bb ?_
  refine y_lk (t := 7) (by decide +kernel) ?_
  refine x_bb ?_
  refine y_gR (30, 0, 0) (by decide +kernel) (by decide +kernel) ?_
  refine x_bb ?_
  refine y_new (12, 6, 6) (by decide +kernel) (by decide +kernel) ?_
  refine x_bb ?_
  refine y_thb (by decide +kernel) ?_
  refine x_rt ?_
  refine x_bb ?_
  refine y_tR (n := 10) (i := 6) (by decide +kernel) (by decide +kernel) (by decide) (by decide) ?_
  refine x_bb ?_
  refine y_gR (30, 0, 0) (by decide +kernel) (by decide +kernel) ?_
  refine x_bb ?_
  refine y_lk (t := 7) (by decide +kernel) ?_
  refine x_bb ?_
  refine y_gR (30, 0, 0) (by decide +kernel) (by decide +kernel) ?_
  refine x_bb ?_
  refine y_new (12, 6, 7) (by decide +kernel) (by decide +kernel) ?_
  refine x_bb ?_
  refine y_thb (by decide +kernel) ?_
  refine x_rt ?_
  refine x_bb ?_
  refine y_tR (n := 10) (i := 7) (by decide +kernel) (by decide +kernel) (by decide) (by decide) ?_
  refine x_bb ?_
  refine y_gR (30, 0, 0) (by decide +kernel) (by decide +kernel) ?_
  refine x_bb ?_
  refine y_lk (t := 7) (by decide +kernel) ?_
  refine x_bb ?_
  refine y_gR (30, 0, 0) (by decide +kernel) (by decide +kernel) ?_
  refine x_bb ?_
  refine y_new (12, 6, 8) (by decide +kernel) (by decide +kernel) ?_
  refine x_bb ?_
  refine y_thb (by decide +kernel) ?_
  refine x_rt ?_
  refine x_bb ?_
  refine y_tR (n := 10) (i := 8) (by decide +kernel) (by decide +kernel) (by decide) (by decide) ?_
  refine x_bb ?_
  refine y_gR (30, 0, 0) (by decide +kernel) (by decide +kernel) ?_
  refine x_bb ?_
  refine y_lk (t := 7) (by decide +kernel) ?_
  refine x_bb ?_
  refine y_gR (30, 0, 0) (by decide +kernel) (by decide +kernel) ?_
  refine x_bb ?_
  refine y_new (12, 6, 9) (by decide +kernel) (by decide +kernel) ?_
  refine x_bb ?_
  refine y_thb (by decide +kernel) ?_
  refine x_rt ?_
  refine x_bb ?_
  refine y_tR (n := 10) (i := 9) (by decide +kernel) (by decide +kernel) (by decide) (by decide) ?_
  refine x_bb ?_
  refine y_gR (30, 0, 0) (by decide +kernel) (by decide +kernel) ?_
  refine x_bb ?_
  refine y_lk (t := 7) (by decide +kernel) ?_
  refine x_bb ?_
  refine y_nea (31, 0, 0) (by decide +kernel) (by decide +kernel) ?_
  refine x_bb ?_
  refine y_pR (by decide +kernel) ?_
  refine x_rt ?_
  exact hk
def gA25 : List (mA × Nat × Int32) := ((1, 0, 0), 15, 0) :: gA24
def gB25 : List (mA × Nat × Int64) := gB24
def gC25 : List (mA × Nat × Option mA) := ((1, 0, 0), 14, some (32, 0, 0)) :: ((1, 0, 0), 13, some (29, 0, 0)) :: gC24
set_option maxHeartbeats 200000 in
theorem sg_C {α : Type} {Q : α → mM → Prop} {K : Unit → mP α} (hk : m_e (K () (Dn 110 gA25 gB25 gC25)) Q) : m_e (m_bd (fn_C_init (1, 0, 0)) K (Dn 1 gA0 gB0 gC0)) Q := by
  unfold fn_C_init
  refine y_thb (by decide +kernel) ?_
  refine x_bb ?_
  refine y_pI (by decide +kernel) ?_
  refine x_bb ?_
  refine y_pJ (by decide +kernel) ?_
  refine x_bb ?_
  refine y_pJ (by decide +kernel) ?_
  refine x_bb ?_
  refine y_nea (2, 0, 0) (by decide +kernel) (by decide +kernel) ?_
  refine x_bb ?_
  refine y_pR (by decide +kernel) ?_
  refine x_bb ?_
  refine y_gR (2, 0, 0) (by decide +kernel) (by decide +kernel) ?_
  refine x_bb ?_
  refine y_new (3, 0, 0) (by decide +kernel) (by decide +kernel) ?_
  refine x_bb ?_
  refine sg_Tr_3 ?_
  refine x_bb ?_
  refine y_tR (n := 4) (i := 0) (by decide +kernel) (by decide +kernel) (by decide) (by decide) ?_
  refine x_bb ?_
  refine y_gR (2, 0, 0) (by decide +kernel) (by decide +kernel) ?_
  refine x_bb ?_
  refine y_new (3, 0, 1) (by decide +kernel) (by decide +kernel) ?_
  refine x_bb ?_
  refine sg_Tr_5 ?_
  refine x_bb ?_
  refine y_tR (n := 4) (i := 1) (by decide +kernel) (by decide +kernel) (by decide) (by decide) ?_
  refine x_bb ?_
  refine y_gR (2, 0, 0) (by decide +kernel) (by decide +kernel) ?_
  refine x_bb ?_
  refine y_new (3, 0, 2) (by decide +kernel) (by decide +kernel) ?_
  refine x_bb ?_
  refine sg_Tr_7 ?_
  refine x_bb ?_
  refine y_tR (n := 4) (i := 2) (by decide +kernel) (by decide +kernel) (by decide) (by decide) ?_
  refine x_bb ?_
  refine y_gR (2, 0, 0) (by decide +kernel) (by decide +kernel) ?_
  refine x_bb ?_
  refine y_new (3, 0, 3) (by decide +kernel) (by decide +kernel) ?_
  refine x_bb ?_
  refine sg_Tr_9 ?_
  refine x_bb ?_
  refine y_tR (n := 4) (i := 3) (by decide +kernel) (by decide +kernel) (by decide) (by decide) ?_
  refine x_bb ?_
  refine y_new (5, 0, 0) (by decide +kernel) (by decide +kernel) ?_
  refine x_bb ?_
  refine sg_Tx_11 ?_
  refine x_bb ?_
  refine y_pR (by decide +kernel) ?_
  refine x_bb ?_
  refine y_new (7, 0, 0) (by decide +kernel) (by decide +kernel) ?_
  refine x_bb ?_
  refine sg_Fa_13 ?_
  refine x_bb ?_
  refine y_pR (by decide +kernel) ?_
  refine x_bb ?_
  refine y_new (7, 1, 0) (by decide +kernel) (by decide +kernel) ?_
  refine x_bb ?_
  refine sg_Fa_15 ?_
  refine x_bb ?_
  refine y_pR (by decide +kernel) ?_
  refine x_bb ?_
  refine y_new (13, 5, 0) (by decide +kernel) (by decide +kernel) ?_
  refine x_bb ?_
  refine sg_Pl_17 ?_
  refine x_bb ?_
  refine y_pR (by decide +kernel) ?_
  refine x_bb ?_
  refine y_nea (16, 0, 0) (by decide +kernel) (by decide +kernel) ?_
  refine x_bb ?_
  refine y_pR (by decide +kernel) ?_
  refine x_bb ?_
  refine y_pI (by decide +kernel) ?_
  refine x_bb ?_
  refine y_new (17, 0, 0) (by decide +kernel) (by decide +kernel) ?_
  refine x_bb ?_
  refine sg_Ah_19 ?_
  refine x_bb ?_
  refine y_pR (by decide +kernel) ?_
  refine x_bb ?_
  refine y_new (20, 0, 0) (by decide +kernel) (by decide +kernel) ?_
  refine x_bb ?_
  refine sg_Si_21 ?_
  refine x_bb ?_
  refine y_pR (by decide +kernel) ?_
  refine x_bb ?_
  refine y_new (23, 0, 0) (by decide +kernel) (by decide +kernel) ?_
  refine x_bb ?_
  refine sg_Ke_23 ?_
  refine x_bb ?_
  refine y_pR (by decide +kernel) ?_
  refine x_bb ?_
  refine y_new (29, 0, 0) (by decide +kernel) (by decide +kernel) ?_
  refine x_bb ?_
  refine sg_Ga_25 ?_
  refine x_bb ?_
  refine y_pR (by decide +kernel) ?_
  refine x_bb ?_
  refine y_nea (32, 0, 0) (by decide +kernel) (by decide +kernel) ?_
  refine x_bb ?_
  refine y_pR (by decide +kernel) ?_
  refine x_bb ?_
  refine y_pZ (by decide +kernel) (.inl rfl) ?_
  refine x_rt ?_
  exact hk
def gA26 : List (mA × Nat × Int32) := gA25
def gB26 : List (mA × Nat × Int64) := gB25
def gC26 : List (mA × Nat × Option mA) := gC25
def gA27 : List (mA × Nat × Int32) := ((42, 0, 0), 3, -1) :: ((42, 0, 0), 2, -1) :: ((42, 0, 0), 1, -1) :: ((42, 0, 0), 0, -1) :: ((40, 0, 0), 11, (-1)) :: ((40, 0, 0), 10, (-1)) :: gA26
def gB27 : List (mA × Nat × Int64) := ((40, 0, 0), 3, 1) :: gB26
def gC27 : List (mA × Nat × Option mA) := ((40, 0, 0), 42, some (58, 0, 0)) :: ((40, 0, 0), 40, some (57, 0, 0)) :: ((40, 0, 0), 39, some (56, 0, 0)) :: ((40, 0, 0), 37, some (55, 0, 0)) :: ((40, 0, 0), 36, some (54, 0, 0)) :: ((40, 0, 0), 35, some (53, 0, 0)) :: ((40, 0, 0), 33, some (52, 0, 0)) :: ((40, 0, 0), 32, some (51, 0, 0)) :: ((40, 0, 0), 31, some (50, 0, 0)) :: ((40, 0, 0), 30, some (49, 0, 0)) :: ((40, 0, 0), 23, some (48, 0, 0)) :: ((40, 0, 0), 22, some (47, 0, 0)) :: ((40, 0, 0), 21, some (46, 0, 0)) :: ((40, 0, 0), 20, some (45, 0, 0)) :: ((40, 0, 0), 7, some (44, 0, 0)) :: ((40, 0, 0), 6, some (43, 0, 0)) :: ((40, 0, 0), 5, some (42, 0, 0)) :: ((40, 0, 0), 4, some (41, 0, 0)) :: gC26
set_option maxHeartbeats 200000 in
theorem gR_ok : RefP (Dn 129 gA27 gB27 gC27) := by
  exact ⟨by decide, by decide +kernel, by decide +kernel, by decide +kernel, by decide +kernel, by decide +kernel, by decide +kernel, by decide +kernel, by decide +kernel, by decide +kernel, by decide +kernel, by decide +kernel, by decide +kernel, by decide +kernel, by decide +kernel, by decide +kernel, by decide +kernel, by decide +kernel, by decide +kernel⟩
set_option maxHeartbeats 200000 in
theorem sg_M {α : Type} {Q : α → mM → Prop} {K : Unit → mP α} (hk : ∀ ν, sm (fun x _ _ k => x = 45 ∧ 377 * 0 ≤ k ∧ k < 377 * 0 + 377) (Dn 129 gA27 gB27 gC27) ν → (∀ k, k < 377 → m_I ν (45, 0, 0) (377 * 0 + k) = if 2 ≤ k ∧ k < 6 then dfl k else 0) → m_e (K () ν) Q) : m_e (m_bd (fn_M_init (40, 0, 0)) K (Dn 111 gA26 gB26 gC26)) Q := by
  unfold fn_M_init
  refine y_thb (by decide +kernel) ?_
  refine x_bb ?_
  refine y_pJ (by decide +kernel) ?_
  refine x_bb ?_
  refine y_nea (41, 0, 0) (by decide +kernel) (by decide +kernel) ?_
  refine x_bb ?_
  refine y_pR (by decide +kernel) ?_
  refine x_bb ?_
  refine y_nea (42, 0, 0) (by decide +kernel) (by decide +kernel) ?_
  refine x_bb ?_
  refine y_pR (by decide +kernel) ?_
  refine x_bb ?_
  refine y_nea (43, 0, 0) (by decide +kernel) (by decide +kernel) ?_
  refine x_bb ?_
  refine y_pR (by decide +kernel) ?_
  refine x_bb ?_
  refine y_nea (44, 0, 0) (by decide +kernel) (by decide +kernel) ?_
  refine x_bb ?_
  refine y_pR (by decide +kernel) ?_
  refine x_bb ?_
  refine y_pI (by decide +kernel) ?_
  refine x_bb ?_
  refine y_pI (by decide +kernel) ?_
  refine x_bb ?_
  refine y_nea (45, 0, 0) (by decide +kernel) (by decide +kernel) ?_
  refine x_bb ?_
  refine y_pR (by decide +kernel) ?_
  refine x_bb ?_
  refine y_nea (46, 0, 0) (by decide +kernel) (by decide +kernel) ?_
  refine x_bb ?_
  refine y_pR (by decide +kernel) ?_
  refine x_bb ?_
  refine y_nea (47, 0, 0) (by decide +kernel) (by decide +kernel) ?_
  refine x_bb ?_
  refine y_pR (by decide +kernel) ?_
  refine x_bb ?_
  refine y_nea (48, 0, 0) (by decide +kernel) (by decide +kernel) ?_
  refine x_bb ?_
  refine y_pR (by decide +kernel) ?_
  refine x_bb ?_
  refine y_nea (49, 0, 0) (by decide +kernel) (by decide +kernel) ?_
  refine x_bb ?_
  refine y_pR (by decide +kernel) ?_
  refine x_bb ?_
  refine y_nea (50, 0, 0) (by decide +kernel) (by decide +kernel) ?_
  refine x_bb ?_
  refine y_pR (by decide +kernel) ?_
  refine x_bb ?_
  refine y_nea (51, 0, 0) (by decide +kernel) (by decide +kernel) ?_
  refine x_bb ?_
  refine y_pR (by decide +kernel) ?_
  refine x_bb ?_
  refine y_nea (52, 0, 0) (by decide +kernel) (by decide +kernel) ?_
  refine x_bb ?_
  refine y_pR (by decide +kernel) ?_
  refine x_bb ?_
  refine y_nea (53, 0, 0) (by decide +kernel) (by decide +kernel) ?_
  refine x_bb ?_
  refine y_pR (by decide +kernel) ?_
  refine x_bb ?_
  refine y_nea (54, 0, 0) (by decide +kernel) (by decide +kernel) ?_
  refine x_bb ?_
  refine y_pR (by decide +kernel) ?_
  refine x_bb ?_
  refine y_nea (55, 0, 0) (by decide +kernel) (by decide +kernel) ?_
  refine x_bb ?_
  refine y_pR (by decide +kernel) ?_
  refine x_bb ?_
  refine y_nea (56, 0, 0) (by decide +kernel) (by decide +kernel) ?_
  refine x_bb ?_
  refine y_pR (by decide +kernel) ?_
  refine x_bb ?_
  refine y_nea (57, 0, 0) (by decide +kernel) (by decide +kernel) ?_
  refine x_bb ?_
  refine y_pR (by decide +kernel) ?_
  refine x_bb ?_
  refine y_nea (58, 0, 0) (by decide +kernel) (by decide +kernel) ?_
  refine x_bb ?_
  refine y_pR (by decide +kernel) ?_
  refine x_bb ?_
  refine y_gR (42, 0, 0) (by decide +kernel) (by decide +kernel) ?_
  refine x_bb ?_
  refine y_tI (n := 4) (i := 0) (by decide +kernel) (by decide) (by decide) ?_
  refine x_bb ?_
  refine y_gR (42, 0, 0) (by decide +kernel) (by decide +kernel) ?_
  refine x_bb ?_
  refine y_tI (n := 4) (i := 1) (by decide +kernel) (by decide) (by decide) ?_
  refine x_bb ?_
  refine y_gR (42, 0, 0) (by decide +kernel) (by decide +kernel) ?_
  refine x_bb ?_
  refine y_tI (n := 4) (i := 2) (by decide +kernel) (by decide) (by decide) ?_
  refine x_bb ?_
  refine y_gR (42, 0, 0) (by decide +kernel) (by decide +kernel) ?_
  refine x_bb ?_
  refine y_tI (n := 4) (i := 3) (by decide +kernel) (by decide) (by decide) ?_
  refine x_bb ?_
  have hE : m_e (fn_M_empties (some (40, 0, 0)) 0 (Dn 129 gA27 gB27 gC27)) _ := r_empties gR_ok (b := 0) (by omega)
  refine e_bd hE ?_
  rintro - ν ⟨s1, e1⟩
  refine x_rt ?_
  exact hk ν s1 e1
def gZ : mM := Dn 129 gA27 gB27 gC27
